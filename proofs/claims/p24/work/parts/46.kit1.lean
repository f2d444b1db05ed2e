/-! a kitchen's numbers: stacks, hand, the hands' turns and work, the stacks' shapes, ranks, turns -/
abbrev KT : Type := Nat × Nat × (Nat → Int32) × (Nat → Int32) × (Nat → Option Nat) × (Nat → Int32) × (Nat → Int32)
def kN (K : KT) : Nat := K.1
def kH (K : KT) : Nat := K.2.1
def kT (K : KT) : Nat → Int32 := K.2.2.1
def kW (K : KT) : Nat → Int32 := K.2.2.2.1
def kS (K : KT) : Nat → Option Nat := K.2.2.2.2.1
def kR (K : KT) : Nat → Int32 := K.2.2.2.2.2.1
def kM (K : KT) : Nat → Int32 := K.2.2.2.2.2.2
def kZ : KT := (0, 0, fun _ => 0, fun _ => 0, fun _ => none, fun _ => 0, fun _ => 0)
def kAdd (K : KT) (sa : Nat) : KT := (kN K + 1, kH K, kT K, kW K, va_up (kS K) (kN K) (some sa), upd (kR K) (kN K) (nI 0), upd (kM K) (kN K) (nI 0))
def kTn (K : KT) (k r2 w : Nat) : KT := (kN K, (if kH K + 1 < 3 then kH K + 1 else 0), upd (kT K) (kH K) (kT K (kH K) + nI 1), upd (kW K) (kH K) (kW K (kH K) + nI w), kS K, upd (kR K) k (nI r2), upd (kM K) k (kM K k + nI 1))
theorem arrV_cg {cI : ClassId} {n : Nat} {f g : Nat → Value} (h : ∀ j, j < n → f j = g j) : arrV cI n f = arrV cI n g := by
  unfold arrV
  have e : (fun j : Fin n => f j.val) = fun j : Fin n => g j.val := funext fun j => h j.val j.isLt
  rw [e]
theorem gH.same {G : gG} {n a : Nat} {σ : gS} {H : Heap} {e0 e : va_E} (h : gH G n σ H) (h0 : σ a = some e0) (he : va_at G.1 vwCl (a, e0) H → va_at G.1 vwCl (a, e) H) : gH G n (hU σ a e) H := by
  refine ⟨h.1, fun q e1 h1 => ?_⟩
  by_cases hq : q = a
  · subst hq
    rw [hU_at] at h1
    cases h1
    exact ⟨(h.2 q e0 h0).1, he (h.2 q e0 h0).2⟩
  · rw [hU_ne hq] at h1
    exact h.2 q e1 h1
section
variable {p : Program} {l : Launch} {e : Env} {R : Room} {s : State} {m : MethodId} {args : Array Value} {below : List Frame} {meth : Method} {c : Code} {G : gG} {nL : Nat} {Q : State → Prop} {cells slots n : Nat} {σ : gS} {pc : Nat} {lv : List (Nat × Value)} {st : List Value}
theorem V.setI {a len : Nat} {f g : Nat → Int32} (ha : σ a = some (aI G len f)) (hfg : ∀ j, j < len → f j = g j) (kk : V p l e R s m args below meth c G nL Q cells slots n (hU σ a (aI G len g)) pc lv st) : V p l e R s m args below meth c G nL Q cells slots n σ pc lv st := fun H locs ls h1 h2 h3 =>
  kk H locs ls (h1.same ha (fun h => by
    have h : H[a]? = some (vp_cell (G.2.1 0) (len, .inl f)) := h
    show H[a]? = some (vp_cell (G.2.1 0) (len, .inl g))
    rw [vp_cell_i] at h ⊢
    rw [h, arrV_cg (fun j hj => congrArg Value.int (hfg j hj))])) h2 h3
theorem V.setR {t0 a len : Nat} {f g : Nat → Option Nat} (ha : σ a = some (aR t0 G len f)) (hfg : ∀ j, j < len → f j = g j) (kk : V p l e R s m args below meth c G nL Q cells slots n (hU σ a (aR t0 G len g)) pc lv st) : V p l e R s m args below meth c G nL Q cells slots n σ pc lv st := fun H locs ls h1 h2 h3 =>
  kk H locs ls (h1.same ha (fun h => by
    have h : H[a]? = some (vp_cell (G.2.1 t0) (len, .inr (.inr (.inr (.inr f))))) := h
    show H[a]? = some (vp_cell (G.2.1 t0) (len, .inr (.inr (.inr (.inr g)))))
    rw [vp_cell_q] at h ⊢
    rw [h, arrV_cg (fun j hj => congrArg va_rf (hfg j hj))])) h2 h3
end
theorem va_up_step {f g : Nat → Option Nat} {i j : Nat} {x : Option Nat} (hj : j < i + 1) (h : ∀ j, j < i → f j = g j) (hx : x = g i) : va_up f i x j = g j := by
  rcases Nat.lt_or_eq_of_le (Nat.le_of_lt_succ hj) with e | e
  · simp [va_up, show j ≠ i by omega, h j e]
  · subst e; simp [va_up, hx]
theorem isS_lt {x : Int32} {ns : Nat} (hn : ns ≤ 5) (h1 : ¬ x < 0) (h2 : ¬ nI ns ≤ x) : isS x ns = true := by
  rw [isS, decide_eq_true_iff]
  refine ⟨Int32.not_lt.mp h1, ?_⟩
  rw [Int32.le_iff_toInt_le, isS_m ns (by omega)]
  have := Int32.lt_iff_toInt_lt.mp (Int32.not_le.mp h2)
  rw [nI_toInt (by omega)] at this
  omega
theorem okR_rng {kd sr N r k : Nat} (h : okR kd sr N r k = true) : 1 ≤ k ∧ k ≤ N := by
  rw [okR, Bool.and_eq_true, decide_eq_true_eq] at h
  exact h.1

abbrev rm_X6_copy_e : Room := { frames := 0, cells := 0, slots := 0, locals := 0 }
set_option maxRecDepth 100000 in
set_option maxHeartbeats 4000000 in
theorem c_X6_copy_e {l : Launch} {G : gG} {n : Nat} {σ : gS} {a b len : Nat} {f g0 : Nat → Int32} (hc0 : σ a = some (aI G len f)) (hc1 : σ b = some (aI G len g0)) (hab : a ≠ b) (hlen : len < 2 ^ 31) : GM l G yX6_copy cX6_copy 3 none rm_X6_copy_e n σ [.ref a, .ref b] (fun rv n2 σ2 => (none : Option Value) = rv ∧ n = n2 ∧ (RW σ b [(aI G len f)]) = σ2) := by
  refine GM.intro (by decide +kernel) (Nat.le_of_ble_eq_true rfl) (fun p e s m args below meth c C hr hlocks hname po hpo => ?_)
  have C : Cx p s m args c cX6_copy 3 RX6 G := C
  refine V.hp (σ2 := (RW σ b [(aI G len g0)])) (RW_cons hc1 (RW_nil _ _)).symm ?_
  refine r_iconst (v := nI 0) C dX6_copy_0 (by decide) ?_
  refine r_istore_n (lv2 := [(2, .int (nI 0)), (0, .ref a), (1, .ref b)]) C dX6_copy_1 rfl (by decide) rfl ?_
  have L2 : ∀ (fu : Nat) (i : Nat) (g1 : Nat → Int32), (i ≤ len) → (∀ j, j < i → g1 j = f j) → (len + 1 - i) < fu → V p l e rm_X6_copy_e s m args below meth c G 3 (MQ below (gQ G po) args s rm_X6_copy_e.cells rm_X6_copy_e.slots (gF G)) 0 0 n (RW σ b [(aI G len g1)]) 2 [(0, .ref a), (1, .ref b), (2, .int (nI i))] [] := by
    intro fu
    induction fu with
    | zero => intro i g1 hi hg hm; exact absurd hm (Nat.not_lt_zero _)
    | succ fu ih2 =>
      intro i g1 hi hg hm2
      refine r_iload_n C dX6_copy_2 rfl 2 rfl ?_
      refine r_aload_n C dX6_copy_3 rfl 0 rfl ?_
      refine r_alenI C ((RW_ne (m := 1) rfl (by omega)).trans hc0) dX6_copy_4 ?_
      refine r_icmp_geN (tgt := 26) C dX6_copy_5 (by decide) (by omega) (by omega) (fun c5 => ?_) (fun c5 => ?_)
      · refine V.setI (RW_at0 rfl) (g := f) (fun j hj => hg j (by omega)) ?_
        refine V.hp (σ2 := (RW σ b [(aI G len f)])) (RW_set0 (Nat.le_of_ble_eq_true rfl) rfl) ?_
        exact r_vret C hr hlocks (Nat.le_of_ble_eq_true rfl) (Nat.le_of_ble_eq_true rfl) dX6_copy_26 (hpo _ _ _ ⟨rfl, rfl, rfl⟩)
      · refine r_iload_n C dX6_copy_8 rfl 2 rfl ?_
        refine r_aload_n C dX6_copy_9 rfl 1 rfl ?_
        refine r_alenI C (RW_at0 rfl) dX6_copy_10 ?_
        refine r_icmp_geN (tgt := 26) C dX6_copy_11 (by decide) (by omega) (by omega) (fun c11 => ?_) (fun c11 => ?_)
        · exact absurd c11 (by omega)
        · refine r_aload_n C dX6_copy_14 rfl 1 rfl ?_
          refine r_iload_n C dX6_copy_15 rfl 2 rfl ?_
          refine r_aload_n C dX6_copy_16 rfl 0 rfl ?_
          refine r_iload_n C dX6_copy_17 rfl 2 rfl ?_
          refine r_ialdN C ((RW_ne (m := 1) rfl (by omega)).trans hc0) (by omega) hlen dX6_copy_18 ?_
          refine r_iastN C (RW_at0 rfl) (by omega) hlen dX6_copy_19 ?_
          refine V.hp (σ2 := (RW σ b [(aI G len (upd g1 i (f i)))])) (RW_set0 (Nat.le_of_ble_eq_true rfl) rfl) ?_
          refine r_iinc (v := nI (i + 1)) (lv2 := [(2, .int (nI (i + 1))), (0, .ref a), (1, .ref b)]) C dX6_copy_20 (k := 2) rfl (nI_add _ 1) (by decide) rfl ?_
          refine r_goto (tgt := 2) C dX6_copy_23 (by decide) ?_
          refine V.sub (lv2 := [(0, .ref a), (1, .ref b), (2, .int (nI (i + 1)))]) [1, 2, 0] rfl ?_
          exact ih2 (i + 1) (upd g1 i (f i)) (by omega) (fun j hj => upd_step hj hg rfl) (by omega)
  refine V.sub (lv2 := [(0, .ref a), (1, .ref b), (2, .int (nI 0))]) [1, 2, 0] rfl ?_
  exact L2 _ 0 g0 (by omega) (fun j hj => absurd hj (Nat.not_lt_zero j)) (Nat.lt_succ_self _)

abbrev rm_X0_init : Room := { frames := 1, cells := 5, slots := 21, locals := 20 }
set_option maxRecDepth 100000 in
set_option maxHeartbeats 4000000 in
theorem c_X0_init {l : Launch} {G : gG} {σ : gS} {k0 : Nat} (hc0 : σ k0 = some (.inr (0, [.int (nI 0), .int (nI 0), .null, .null, .null, .null, .null])))  : GM l G yX0_init cX0_init 1 none rm_X0_init (k0 + 1) σ [.ref k0] (fun rv n2 σ2 => (none : Option Value) = rv ∧ k0 + 6 = n2 ∧ (RW σ k0 [(.inr (0, [.int (nI (kN kZ)), .int (nI (kH kZ)), .ref (k0 + 1), .ref (k0 + 2), .ref (k0 + 3), .ref (k0 + 4), .ref (k0 + 5)])), (aI G 3 (kT kZ)), (aI G 3 (kW kZ)), (aR 4 G 5 (kS kZ)), (aI G 5 (kR kZ)), (aI G 5 (kM kZ))]) = σ2) := by
  refine GM.intro (by decide +kernel) (Nat.le_of_ble_eq_true rfl) (fun p e s m args below meth c C hr hlocks hname po hpo => ?_)
  have C : Cx p s m args c cX0_init 1 RX0 G := C
  refine V.hp (σ2 := (RW σ k0 [(.inr (0, [.int (nI 0), .int (nI 0), .null, .null, .null, .null, .null]))])) (RW_cons hc0 (RW_nil _ _)).symm ?_
  refine r_aload_n C dX0_init_0 rfl 0 rfl ?_
  refine r_objInit C wM_X0_3 wI_objectInit wC_objectInit (by decide) dX0_init_1 (by decide) (by decide) ?_
  refine r_aload_n C dX0_init_4 rfl 0 rfl ?_
  refine r_iconst (v := nI 0) C dX0_init_5 (by decide) ?_
  refine r_put (Cn := RX0) (T := TX0) (N := 7) (fs2 := [.int (nI 0), .int (nI 0), .null, .null, .null, .null, .null]) C inlX0 tyX0 tyX0_ok nmX0 (RW_at0 rfl) rfl 0 (by decide) wF_X0_9 (fun _ h => h) rfl (tyX0_ok 0 (by decide)) rfl rfl (Nat.le_of_ble_eq_true rfl) rfl dX0_init_6 ?_
  refine V.hp (σ2 := (RW σ k0 [(.inr (0, [.int (nI 0), .int (nI 0), .null, .null, .null, .null, .null]))])) (RW_set0 (Nat.le_of_ble_eq_true rfl) rfl) ?_
  refine r_aload_n C dX0_init_9 rfl 0 rfl ?_
  refine r_iconst (v := nI 0) C dX0_init_10 (by decide) ?_
  refine r_put (Cn := RX0) (T := TX0) (N := 7) (fs2 := [.int (nI 0), .int (nI 0), .null, .null, .null, .null, .null]) C inlX0 tyX0 tyX0_ok nmX0 (RW_at0 rfl) rfl 1 (by decide) wF_X0_15 (fun _ h => h) rfl (tyX0_ok 1 (by decide)) rfl rfl (Nat.le_of_ble_eq_true rfl) rfl dX0_init_11 ?_
  refine V.hp (σ2 := (RW σ k0 [(.inr (0, [.int (nI 0), .int (nI 0), .null, .null, .null, .null, .null]))])) (RW_set0 (Nat.le_of_ble_eq_true rfl) rfl) ?_
  refine r_aload_n C dX0_init_14 rfl 0 rfl ?_
  refine r_iconst (v := nI 3) C dX0_init_15 (by decide) ?_
  refine r_newarrI C wA_int (by decide) (Nat.le_of_ble_eq_true rfl) (Nat.le_of_ble_eq_true rfl) dX0_init_16 ?_
  refine V.eq (σ2 := (hU (RW σ k0 [(.inr (0, [.int (nI 0), .int (nI 0), .null, .null, .null, .null, .null]))]) (k0 + 1) (aI G 3 (fun _ => 0)))) (n2 := k0 + 2) rfl rfl rfl rfl ?_
  refine V.hp (σ2 := (RW σ k0 [(.inr (0, [.int (nI 0), .int (nI 0), .null, .null, .null, .null, .null])), (aI G 3 (fun _ => 0))])) (RW_snoc (m := 1) rfl rfl) ?_
  refine r_putF (Cn := RX0) (T := TX0) (N := 7) (fs2 := [.int (nI 0), .int (nI 0), .ref (k0 + 1), .null, .null, .null, .null]) C inlX0 tyX0 tyX0_ok nmX0 (RW_at0 rfl) rfl 2 (by decide) wF_X0_18 (fun _ h => h) rfl hname rfl (tyX0_ok 2 (by decide)) rfl rfl (Nat.le_of_ble_eq_true rfl) rfl dX0_init_18 ?_
  refine V.hp (σ2 := (RW σ k0 [(.inr (0, [.int (nI 0), .int (nI 0), .ref (k0 + 1), .null, .null, .null, .null])), (aI G 3 (fun _ => 0))])) (RW_set0 (Nat.le_of_ble_eq_true rfl) rfl) ?_
  refine r_aload_n C dX0_init_21 rfl 0 rfl ?_
  refine r_iconst (v := nI 3) C dX0_init_22 (by decide) ?_
  refine r_newarrI C wA_int (by decide) (Nat.le_of_ble_eq_true rfl) (Nat.le_of_ble_eq_true rfl) dX0_init_23 ?_
  refine V.eq (σ2 := (hU (RW σ k0 [(.inr (0, [.int (nI 0), .int (nI 0), .ref (k0 + 1), .null, .null, .null, .null])), (aI G 3 (fun _ => 0))]) (k0 + 2) (aI G 3 (fun _ => 0)))) (n2 := k0 + 3) rfl rfl rfl rfl ?_
  refine V.hp (σ2 := (RW σ k0 [(.inr (0, [.int (nI 0), .int (nI 0), .ref (k0 + 1), .null, .null, .null, .null])), (aI G 3 (fun _ => 0)), (aI G 3 (fun _ => 0))])) (RW_snoc (m := 2) rfl rfl) ?_
  refine r_putF (Cn := RX0) (T := TX0) (N := 7) (fs2 := [.int (nI 0), .int (nI 0), .ref (k0 + 1), .ref (k0 + 2), .null, .null, .null]) C inlX0 tyX0 tyX0_ok nmX0 (RW_at0 rfl) rfl 3 (by decide) wF_X0_22 (fun _ h => h) rfl hname rfl (tyX0_ok 3 (by decide)) rfl rfl (Nat.le_of_ble_eq_true rfl) rfl dX0_init_25 ?_
  refine V.hp (σ2 := (RW σ k0 [(.inr (0, [.int (nI 0), .int (nI 0), .ref (k0 + 1), .ref (k0 + 2), .null, .null, .null])), (aI G 3 (fun _ => 0)), (aI G 3 (fun _ => 0))])) (RW_set0 (Nat.le_of_ble_eq_true rfl) rfl) ?_
  refine r_aload_n C dX0_init_28 rfl 0 rfl ?_
  refine r_iconst (v := nI 5) C dX0_init_29 (by decide) ?_
  refine r_newarrR C 4 rfl wK_X0_25 (by decide) (by decide) (Nat.le_of_ble_eq_true rfl) (Nat.le_of_ble_eq_true rfl) dX0_init_30 ?_
  refine V.eq (σ2 := (hU (RW σ k0 [(.inr (0, [.int (nI 0), .int (nI 0), .ref (k0 + 1), .ref (k0 + 2), .null, .null, .null])), (aI G 3 (fun _ => 0)), (aI G 3 (fun _ => 0))]) (k0 + 3) (aR 4 G 5 (fun _ => none)))) (n2 := k0 + 4) rfl rfl rfl rfl ?_
  refine V.hp (σ2 := (RW σ k0 [(.inr (0, [.int (nI 0), .int (nI 0), .ref (k0 + 1), .ref (k0 + 2), .null, .null, .null])), (aI G 3 (fun _ => 0)), (aI G 3 (fun _ => 0)), (aR 4 G 5 (fun _ => none))])) (RW_snoc (m := 3) rfl rfl) ?_
  refine r_putF (Cn := RX0) (T := TX0) (N := 7) (fs2 := [.int (nI 0), .int (nI 0), .ref (k0 + 1), .ref (k0 + 2), .ref (k0 + 3), .null, .null]) C inlX0 tyX0 tyX0_ok nmX0 (RW_at0 rfl) rfl 4 (by decide) wF_X0_27 (fun _ h => h) rfl hname rfl (tyX0_ok 4 (by decide)) rfl rfl (Nat.le_of_ble_eq_true rfl) rfl dX0_init_33 ?_
  refine V.hp (σ2 := (RW σ k0 [(.inr (0, [.int (nI 0), .int (nI 0), .ref (k0 + 1), .ref (k0 + 2), .ref (k0 + 3), .null, .null])), (aI G 3 (fun _ => 0)), (aI G 3 (fun _ => 0)), (aR 4 G 5 (fun _ => none))])) (RW_set0 (Nat.le_of_ble_eq_true rfl) rfl) ?_
  refine r_aload_n C dX0_init_36 rfl 0 rfl ?_
  refine r_iconst (v := nI 5) C dX0_init_37 (by decide) ?_
  refine r_newarrI C wA_int (by decide) (Nat.le_of_ble_eq_true rfl) (Nat.le_of_ble_eq_true rfl) dX0_init_38 ?_
  refine V.eq (σ2 := (hU (RW σ k0 [(.inr (0, [.int (nI 0), .int (nI 0), .ref (k0 + 1), .ref (k0 + 2), .ref (k0 + 3), .null, .null])), (aI G 3 (fun _ => 0)), (aI G 3 (fun _ => 0)), (aR 4 G 5 (fun _ => none))]) (k0 + 4) (aI G 5 (fun _ => 0)))) (n2 := k0 + 5) rfl rfl rfl rfl ?_
  refine V.hp (σ2 := (RW σ k0 [(.inr (0, [.int (nI 0), .int (nI 0), .ref (k0 + 1), .ref (k0 + 2), .ref (k0 + 3), .null, .null])), (aI G 3 (fun _ => 0)), (aI G 3 (fun _ => 0)), (aR 4 G 5 (fun _ => none)), (aI G 5 (fun _ => 0))])) (RW_snoc (m := 4) rfl rfl) ?_
  refine r_putF (Cn := RX0) (T := TX0) (N := 7) (fs2 := [.int (nI 0), .int (nI 0), .ref (k0 + 1), .ref (k0 + 2), .ref (k0 + 3), .ref (k0 + 4), .null]) C inlX0 tyX0 tyX0_ok nmX0 (RW_at0 rfl) rfl 5 (by decide) wF_X0_31 (fun _ h => h) rfl hname rfl (tyX0_ok 5 (by decide)) rfl rfl (Nat.le_of_ble_eq_true rfl) rfl dX0_init_40 ?_
  refine V.hp (σ2 := (RW σ k0 [(.inr (0, [.int (nI 0), .int (nI 0), .ref (k0 + 1), .ref (k0 + 2), .ref (k0 + 3), .ref (k0 + 4), .null])), (aI G 3 (fun _ => 0)), (aI G 3 (fun _ => 0)), (aR 4 G 5 (fun _ => none)), (aI G 5 (fun _ => 0))])) (RW_set0 (Nat.le_of_ble_eq_true rfl) rfl) ?_
  refine r_aload_n C dX0_init_43 rfl 0 rfl ?_
  refine r_iconst (v := nI 5) C dX0_init_44 (by decide) ?_
  refine r_newarrI C wA_int (by decide) (Nat.le_of_ble_eq_true rfl) (Nat.le_of_ble_eq_true rfl) dX0_init_45 ?_
  refine V.eq (σ2 := (hU (RW σ k0 [(.inr (0, [.int (nI 0), .int (nI 0), .ref (k0 + 1), .ref (k0 + 2), .ref (k0 + 3), .ref (k0 + 4), .null])), (aI G 3 (fun _ => 0)), (aI G 3 (fun _ => 0)), (aR 4 G 5 (fun _ => none)), (aI G 5 (fun _ => 0))]) (k0 + 5) (aI G 5 (fun _ => 0)))) (n2 := k0 + 6) rfl rfl rfl rfl ?_
  refine V.hp (σ2 := (RW σ k0 [(.inr (0, [.int (nI 0), .int (nI 0), .ref (k0 + 1), .ref (k0 + 2), .ref (k0 + 3), .ref (k0 + 4), .null])), (aI G 3 (fun _ => 0)), (aI G 3 (fun _ => 0)), (aR 4 G 5 (fun _ => none)), (aI G 5 (fun _ => 0)), (aI G 5 (fun _ => 0))])) (RW_snoc (m := 5) rfl rfl) ?_
  refine r_putF (Cn := RX0) (T := TX0) (N := 7) (fs2 := [.int (nI 0), .int (nI 0), .ref (k0 + 1), .ref (k0 + 2), .ref (k0 + 3), .ref (k0 + 4), .ref (k0 + 5)]) C inlX0 tyX0 tyX0_ok nmX0 (RW_at0 rfl) rfl 6 (by decide) wF_X0_34 (fun _ h => h) rfl hname rfl (tyX0_ok 6 (by decide)) rfl rfl (Nat.le_of_ble_eq_true rfl) rfl dX0_init_47 ?_
  refine V.hp (σ2 := (RW σ k0 [(.inr (0, [.int (nI 0), .int (nI 0), .ref (k0 + 1), .ref (k0 + 2), .ref (k0 + 3), .ref (k0 + 4), .ref (k0 + 5)])), (aI G 3 (fun _ => 0)), (aI G 3 (fun _ => 0)), (aR 4 G 5 (fun _ => none)), (aI G 5 (fun _ => 0)), (aI G 5 (fun _ => 0))])) (RW_set0 (Nat.le_of_ble_eq_true rfl) rfl) ?_
  exact r_vret C hr hlocks (Nat.le_of_ble_eq_true rfl) (Nat.le_of_ble_eq_true rfl) dX0_init_50 (hpo _ _ _ ⟨rfl, rfl, rfl⟩)

abbrev rm_X0_copyFrom : Room := { frames := 1, cells := 0, slots := 0, locals := 22 }
set_option maxRecDepth 100000 in
set_option maxHeartbeats 4000000 in
theorem c_X0_copyFrom {l : Launch} {G : gG} {n : Nat} {σ : gS} {k0 : Nat} {K : KT} {j0 : Nat} {J : KT} (hc0 : σ k0 = some (.inr (0, [.int (nI (kN K)), .int (nI (kH K)), .ref (k0 + 1), .ref (k0 + 2), .ref (k0 + 3), .ref (k0 + 4), .ref (k0 + 5)]))) (hc1 : σ (k0 + 1) = some (aI G 3 (kT K))) (hc2 : σ (k0 + 2) = some (aI G 3 (kW K))) (hc3 : σ (k0 + 3) = some (aR 4 G 5 (kS K))) (hc4 : σ (k0 + 4) = some (aI G 5 (kR K))) (hc5 : σ (k0 + 5) = some (aI G 5 (kM K))) (hc6 : σ j0 = some (.inr (0, [.int (nI (kN J)), .int (nI (kH J)), .ref (j0 + 1), .ref (j0 + 2), .ref (j0 + 3), .ref (j0 + 4), .ref (j0 + 5)]))) (hc7 : σ (j0 + 1) = some (aI G 3 (kT J))) (hc8 : σ (j0 + 2) = some (aI G 3 (kW J))) (hc9 : σ (j0 + 3) = some (aR 4 G 5 (kS J))) (hc10 : σ (j0 + 4) = some (aI G 5 (kR J))) (hc11 : σ (j0 + 5) = some (aI G 5 (kM J))) (hap : j0 + 5 < k0 ∨ k0 + 5 < j0) (hq : ∀ i v, kS J i = some v → (v < k0 ∨ k0 + 6 ≤ v) ∧ ∃ vs, σ v = some (.inr (2, vs))) : GM l G yX0_copyFrom cX0_copyFrom 3 none rm_X0_copyFrom n σ [.ref k0, .ref j0] (fun rv n2 σ2 => (none : Option Value) = rv ∧ n = n2 ∧ (RW σ k0 [(.inr (0, [.int (nI (kN J)), .int (nI (kH J)), .ref (k0 + 1), .ref (k0 + 2), .ref (k0 + 3), .ref (k0 + 4), .ref (k0 + 5)])), (aI G 3 (kT J)), (aI G 3 (kW J)), (aR 4 G 5 (kS J)), (aI G 5 (kR J)), (aI G 5 (kM J))]) = σ2) := by
  refine GM.intro (by decide +kernel) (Nat.le_of_ble_eq_true rfl) (fun p e s m args below meth c C hr hlocks hname po hpo => ?_)
  have C : Cx p s m args c cX0_copyFrom 3 RX0 G := C
  refine V.hp (σ2 := (RW σ k0 [(.inr (0, [.int (nI (kN K)), .int (nI (kH K)), .ref (k0 + 1), .ref (k0 + 2), .ref (k0 + 3), .ref (k0 + 4), .ref (k0 + 5)])), (aI G 3 (kT K)), (aI G 3 (kW K)), (aR 4 G 5 (kS K)), (aI G 5 (kR K)), (aI G 5 (kM K))])) (RW_cons hc0 (RW_cons hc1 (RW_cons hc2 (RW_cons hc3 (RW_cons hc4 (RW_cons hc5 (RW_nil _ _))))))).symm ?_
  refine r_aload_n C dX0_copyFrom_0 rfl 0 rfl ?_
  refine r_aload_n C dX0_copyFrom_1 rfl 1 rfl ?_
  refine r_get (Cn := RX0) (T := TX0) (N := 7) (v := .int (nI (kN J))) C inlX0 ((RW_ne (m := 6) rfl (by omega)).trans hc6) rfl 0 (by decide) wF_X0_9 (fun _ h => h) rfl dX0_copyFrom_2 ?_
  refine r_put (Cn := RX0) (T := TX0) (N := 7) (fs2 := [.int (nI (kN J)), .int (nI (kH K)), .ref (k0 + 1), .ref (k0 + 2), .ref (k0 + 3), .ref (k0 + 4), .ref (k0 + 5)]) C inlX0 tyX0 tyX0_ok nmX0 (RW_at0 rfl) rfl 0 (by decide) wF_X0_9 (fun _ h => h) rfl (tyX0_ok 0 (by decide)) rfl rfl (Nat.le_of_ble_eq_true rfl) rfl dX0_copyFrom_5 ?_
  refine V.hp (σ2 := (RW σ k0 [(.inr (0, [.int (nI (kN J)), .int (nI (kH K)), .ref (k0 + 1), .ref (k0 + 2), .ref (k0 + 3), .ref (k0 + 4), .ref (k0 + 5)])), (aI G 3 (kT K)), (aI G 3 (kW K)), (aR 4 G 5 (kS K)), (aI G 5 (kR K)), (aI G 5 (kM K))])) (RW_set0 (Nat.le_of_ble_eq_true rfl) rfl) ?_
  refine r_aload_n C dX0_copyFrom_8 rfl 0 rfl ?_
  refine r_aload_n C dX0_copyFrom_9 rfl 1 rfl ?_
  refine r_get (Cn := RX0) (T := TX0) (N := 7) (v := .int (nI (kH J))) C inlX0 ((RW_ne (m := 6) rfl (by omega)).trans hc6) rfl 1 (by decide) wF_X0_15 (fun _ h => h) rfl dX0_copyFrom_10 ?_
  refine r_put (Cn := RX0) (T := TX0) (N := 7) (fs2 := [.int (nI (kN J)), .int (nI (kH J)), .ref (k0 + 1), .ref (k0 + 2), .ref (k0 + 3), .ref (k0 + 4), .ref (k0 + 5)]) C inlX0 tyX0 tyX0_ok nmX0 (RW_at0 rfl) rfl 1 (by decide) wF_X0_15 (fun _ h => h) rfl (tyX0_ok 1 (by decide)) rfl rfl (Nat.le_of_ble_eq_true rfl) rfl dX0_copyFrom_13 ?_
  refine V.hp (σ2 := (RW σ k0 [(.inr (0, [.int (nI (kN J)), .int (nI (kH J)), .ref (k0 + 1), .ref (k0 + 2), .ref (k0 + 3), .ref (k0 + 4), .ref (k0 + 5)])), (aI G 3 (kT K)), (aI G 3 (kW K)), (aR 4 G 5 (kS K)), (aI G 5 (kR K)), (aI G 5 (kM K))])) (RW_set0 (Nat.le_of_ble_eq_true rfl) rfl) ?_
  refine r_iconst (v := nI 0) C dX0_copyFrom_16 (by decide) ?_
  refine r_istore_n (lv2 := [(2, .int (nI 0)), (0, .ref k0), (1, .ref j0)]) C dX0_copyFrom_17 rfl (by decide) rfl ?_
  have L18 : ∀ (fu : Nat) (i : Nat) (w3 : Nat → Option Nat), (i ≤ 5) → (∀ j, j < i → w3 j = kS J j) → (6 - i) < fu → V p l e rm_X0_copyFrom s m args below meth c G 3 (MQ below (gQ G po) args s rm_X0_copyFrom.cells rm_X0_copyFrom.slots (gF G)) 0 0 n (RW σ k0 [(.inr (0, [.int (nI (kN J)), .int (nI (kH J)), .ref (k0 + 1), .ref (k0 + 2), .ref (k0 + 3), .ref (k0 + 4), .ref (k0 + 5)])), (aI G 3 (kT K)), (aI G 3 (kW K)), (aR 4 G 5 w3), (aI G 5 (kR K)), (aI G 5 (kM K))]) 18 [(0, .ref k0), (1, .ref j0), (2, .int (nI i))] [] := by
    intro fu
    induction fu with
    | zero => intro i w3 hi hw hm; exact absurd hm (Nat.not_lt_zero _)
    | succ fu ih18 =>
      intro i w3 hi hw hm18
      refine r_iload_n C dX0_copyFrom_18 rfl 2 rfl ?_
      refine r_aload_n C dX0_copyFrom_19 rfl 0 rfl ?_
      refine r_get (Cn := RX0) (T := TX0) (N := 7) (v := .ref (k0 + 3)) C inlX0 (RW_at0 rfl) rfl 4 (by decide) wF_X0_27 (fun _ h => h) rfl dX0_copyFrom_20 ?_
      refine r_alenR C 4 (RW_at 3 rfl) rfl dX0_copyFrom_23 ?_
      refine r_icmp_geN (tgt := 54) C dX0_copyFrom_24 (by decide) (by omega) (by decide) (fun c24 => ?_) (fun c24 => ?_)
      · refine V.setR (RW_at 3 rfl) (g := (kS J)) (fun j hj => hw j (by omega)) ?_
        refine V.hp (σ2 := (RW σ k0 [(.inr (0, [.int (nI (kN J)), .int (nI (kH J)), .ref (k0 + 1), .ref (k0 + 2), .ref (k0 + 3), .ref (k0 + 4), .ref (k0 + 5)])), (aI G 3 (kT K)), (aI G 3 (kW K)), (aR 4 G 5 (kS J)), (aI G 5 (kR K)), (aI G 5 (kM K))])) (RW_set 3 (Nat.le_of_ble_eq_true rfl) rfl) ?_
        refine r_aload_n C dX0_copyFrom_54 rfl 1 rfl ?_
        refine r_get (Cn := RX0) (T := TX0) (N := 7) (v := .ref (j0 + 4)) C inlX0 ((RW_ne (m := 6) rfl (by omega)).trans hc6) rfl 5 (by decide) wF_X0_31 (fun _ h => h) rfl dX0_copyFrom_55 ?_
        refine r_aload_n C dX0_copyFrom_58 rfl 0 rfl ?_
        refine r_get (Cn := RX0) (T := TX0) (N := 7) (v := .ref (k0 + 4)) C inlX0 (RW_at0 rfl) rfl 5 (by decide) wF_X0_31 (fun _ h => h) rfl dX0_copyFrom_59 ?_
        refine r_callSN (As := [.ref (j0 + 4), .ref (k0 + 4)]) C (c_X6_copy_e (a := j0 + 4) (b := k0 + 4) (len := 5) (f := kR J) (g0 := kR K) ((RW_ne (m := 6) rfl (by omega)).trans hc10) (RW_at 4 rfl) (by omega) (by first | assumption | omega)) wZ_X0_37 wS_X6_copy wN_X6 wC_X6_copy hd_X6_copy ⟨Nat.le_of_ble_eq_true rfl, Nat.le_of_ble_eq_true rfl⟩ rfl rfl (Nat.le_of_ble_eq_true rfl) dX0_copyFrom_62 ⟨(Nat.le_of_ble_eq_true rfl), (Nat.le_of_ble_eq_true rfl)⟩ (fun rv n2 σ2 hp => ?_)
        obtain ⟨rfl, rfl, rfl⟩ := hp
        refine V.eq (σ2 := (RW (RW σ k0 [(.inr (0, [.int (nI (kN J)), .int (nI (kH J)), .ref (k0 + 1), .ref (k0 + 2), .ref (k0 + 3), .ref (k0 + 4), .ref (k0 + 5)])), (aI G 3 (kT K)), (aI G 3 (kW K)), (aR 4 G 5 (kS J)), (aI G 5 (kR K)), (aI G 5 (kM K))]) (k0 + 4) [(aI G 5 (kR J))])) (n2 := n) (st2 := []) rfl rfl rfl rfl ?_
        refine V.hp (σ2 := (RW σ k0 [(.inr (0, [.int (nI (kN J)), .int (nI (kH J)), .ref (k0 + 1), .ref (k0 + 2), .ref (k0 + 3), .ref (k0 + 4), .ref (k0 + 5)])), (aI G 3 (kT K)), (aI G 3 (kW K)), (aR 4 G 5 (kS J)), (aI G 5 (kR J)), (aI G 5 (kM K))])) (RW_in 4 (m := 1) rfl (Nat.le_of_ble_eq_true rfl) rfl) ?_
        refine r_aload_n C dX0_copyFrom_65 rfl 1 rfl ?_
        refine r_get (Cn := RX0) (T := TX0) (N := 7) (v := .ref (j0 + 5)) C inlX0 ((RW_ne (m := 6) rfl (by omega)).trans hc6) rfl 6 (by decide) wF_X0_34 (fun _ h => h) rfl dX0_copyFrom_66 ?_
        refine r_aload_n C dX0_copyFrom_69 rfl 0 rfl ?_
        refine r_get (Cn := RX0) (T := TX0) (N := 7) (v := .ref (k0 + 5)) C inlX0 (RW_at0 rfl) rfl 6 (by decide) wF_X0_34 (fun _ h => h) rfl dX0_copyFrom_70 ?_
        refine r_callSN (As := [.ref (j0 + 5), .ref (k0 + 5)]) C (c_X6_copy_e (a := j0 + 5) (b := k0 + 5) (len := 5) (f := kM J) (g0 := kM K) ((RW_ne (m := 6) rfl (by omega)).trans hc11) (RW_at 5 rfl) (by omega) (by first | assumption | omega)) wZ_X0_37 wS_X6_copy wN_X6 wC_X6_copy hd_X6_copy ⟨Nat.le_of_ble_eq_true rfl, Nat.le_of_ble_eq_true rfl⟩ rfl rfl (Nat.le_of_ble_eq_true rfl) dX0_copyFrom_73 ⟨(Nat.le_of_ble_eq_true rfl), (Nat.le_of_ble_eq_true rfl)⟩ (fun rv n2 σ2 hp => ?_)
        obtain ⟨rfl, rfl, rfl⟩ := hp
        refine V.eq (σ2 := (RW (RW σ k0 [(.inr (0, [.int (nI (kN J)), .int (nI (kH J)), .ref (k0 + 1), .ref (k0 + 2), .ref (k0 + 3), .ref (k0 + 4), .ref (k0 + 5)])), (aI G 3 (kT K)), (aI G 3 (kW K)), (aR 4 G 5 (kS J)), (aI G 5 (kR J)), (aI G 5 (kM K))]) (k0 + 5) [(aI G 5 (kM J))])) (n2 := n) (st2 := []) rfl rfl rfl rfl ?_
        refine V.hp (σ2 := (RW σ k0 [(.inr (0, [.int (nI (kN J)), .int (nI (kH J)), .ref (k0 + 1), .ref (k0 + 2), .ref (k0 + 3), .ref (k0 + 4), .ref (k0 + 5)])), (aI G 3 (kT K)), (aI G 3 (kW K)), (aR 4 G 5 (kS J)), (aI G 5 (kR J)), (aI G 5 (kM J))])) (RW_in 5 (m := 1) rfl (Nat.le_of_ble_eq_true rfl) rfl) ?_
        refine r_aload_n C dX0_copyFrom_76 rfl 1 rfl ?_
        refine r_get (Cn := RX0) (T := TX0) (N := 7) (v := .ref (j0 + 1)) C inlX0 ((RW_ne (m := 6) rfl (by omega)).trans hc6) rfl 2 (by decide) wF_X0_18 (fun _ h => h) rfl dX0_copyFrom_77 ?_
        refine r_aload_n C dX0_copyFrom_80 rfl 0 rfl ?_
        refine r_get (Cn := RX0) (T := TX0) (N := 7) (v := .ref (k0 + 1)) C inlX0 (RW_at0 rfl) rfl 2 (by decide) wF_X0_18 (fun _ h => h) rfl dX0_copyFrom_81 ?_
        refine r_callSN (As := [.ref (j0 + 1), .ref (k0 + 1)]) C (c_X6_copy_e (a := j0 + 1) (b := k0 + 1) (len := 3) (f := kT J) (g0 := kT K) ((RW_ne (m := 6) rfl (by omega)).trans hc7) (RW_at 1 rfl) (by omega) (by first | assumption | omega)) wZ_X0_37 wS_X6_copy wN_X6 wC_X6_copy hd_X6_copy ⟨Nat.le_of_ble_eq_true rfl, Nat.le_of_ble_eq_true rfl⟩ rfl rfl (Nat.le_of_ble_eq_true rfl) dX0_copyFrom_84 ⟨(Nat.le_of_ble_eq_true rfl), (Nat.le_of_ble_eq_true rfl)⟩ (fun rv n2 σ2 hp => ?_)
        obtain ⟨rfl, rfl, rfl⟩ := hp
        refine V.eq (σ2 := (RW (RW σ k0 [(.inr (0, [.int (nI (kN J)), .int (nI (kH J)), .ref (k0 + 1), .ref (k0 + 2), .ref (k0 + 3), .ref (k0 + 4), .ref (k0 + 5)])), (aI G 3 (kT K)), (aI G 3 (kW K)), (aR 4 G 5 (kS J)), (aI G 5 (kR J)), (aI G 5 (kM J))]) (k0 + 1) [(aI G 3 (kT J))])) (n2 := n) (st2 := []) rfl rfl rfl rfl ?_
        refine V.hp (σ2 := (RW σ k0 [(.inr (0, [.int (nI (kN J)), .int (nI (kH J)), .ref (k0 + 1), .ref (k0 + 2), .ref (k0 + 3), .ref (k0 + 4), .ref (k0 + 5)])), (aI G 3 (kT J)), (aI G 3 (kW K)), (aR 4 G 5 (kS J)), (aI G 5 (kR J)), (aI G 5 (kM J))])) (RW_in 1 (m := 1) rfl (Nat.le_of_ble_eq_true rfl) rfl) ?_
        refine r_aload_n C dX0_copyFrom_87 rfl 1 rfl ?_
        refine r_get (Cn := RX0) (T := TX0) (N := 7) (v := .ref (j0 + 2)) C inlX0 ((RW_ne (m := 6) rfl (by omega)).trans hc6) rfl 3 (by decide) wF_X0_22 (fun _ h => h) rfl dX0_copyFrom_88 ?_
        refine r_aload_n C dX0_copyFrom_91 rfl 0 rfl ?_
        refine r_get (Cn := RX0) (T := TX0) (N := 7) (v := .ref (k0 + 2)) C inlX0 (RW_at0 rfl) rfl 3 (by decide) wF_X0_22 (fun _ h => h) rfl dX0_copyFrom_92 ?_
        refine r_callSN (As := [.ref (j0 + 2), .ref (k0 + 2)]) C (c_X6_copy_e (a := j0 + 2) (b := k0 + 2) (len := 3) (f := kW J) (g0 := kW K) ((RW_ne (m := 6) rfl (by omega)).trans hc8) (RW_at 2 rfl) (by omega) (by first | assumption | omega)) wZ_X0_37 wS_X6_copy wN_X6 wC_X6_copy hd_X6_copy ⟨Nat.le_of_ble_eq_true rfl, Nat.le_of_ble_eq_true rfl⟩ rfl rfl (Nat.le_of_ble_eq_true rfl) dX0_copyFrom_95 ⟨(Nat.le_of_ble_eq_true rfl), (Nat.le_of_ble_eq_true rfl)⟩ (fun rv n2 σ2 hp => ?_)
        obtain ⟨rfl, rfl, rfl⟩ := hp
        refine V.eq (σ2 := (RW (RW σ k0 [(.inr (0, [.int (nI (kN J)), .int (nI (kH J)), .ref (k0 + 1), .ref (k0 + 2), .ref (k0 + 3), .ref (k0 + 4), .ref (k0 + 5)])), (aI G 3 (kT J)), (aI G 3 (kW K)), (aR 4 G 5 (kS J)), (aI G 5 (kR J)), (aI G 5 (kM J))]) (k0 + 2) [(aI G 3 (kW J))])) (n2 := n) (st2 := []) rfl rfl rfl rfl ?_
        refine V.hp (σ2 := (RW σ k0 [(.inr (0, [.int (nI (kN J)), .int (nI (kH J)), .ref (k0 + 1), .ref (k0 + 2), .ref (k0 + 3), .ref (k0 + 4), .ref (k0 + 5)])), (aI G 3 (kT J)), (aI G 3 (kW J)), (aR 4 G 5 (kS J)), (aI G 5 (kR J)), (aI G 5 (kM J))])) (RW_in 2 (m := 1) rfl (Nat.le_of_ble_eq_true rfl) rfl) ?_
        exact r_vret C hr hlocks (Nat.le_of_ble_eq_true rfl) (Nat.le_of_ble_eq_true rfl) dX0_copyFrom_98 (hpo _ _ _ ⟨rfl, rfl, rfl⟩)
      · refine r_iload_n C dX0_copyFrom_27 rfl 2 rfl ?_
        refine r_aload_n C dX0_copyFrom_28 rfl 1 rfl ?_
        refine r_get (Cn := RX0) (T := TX0) (N := 7) (v := .ref (j0 + 3)) C inlX0 ((RW_ne (m := 6) rfl (by omega)).trans hc6) rfl 4 (by decide) wF_X0_27 (fun _ h => h) rfl dX0_copyFrom_29 ?_
        refine r_alenR C 4 ((RW_ne (m := 6) rfl (by omega)).trans hc9) rfl dX0_copyFrom_32 ?_
        refine r_icmp_geN (tgt := 54) C dX0_copyFrom_33 (by decide) (by omega) (by decide) (fun c33 => ?_) (fun c33 => ?_)
        · exact absurd c33 (by omega)
        · refine r_aload_n C dX0_copyFrom_36 rfl 0 rfl ?_
          refine r_get (Cn := RX0) (T := TX0) (N := 7) (v := .ref (k0 + 3)) C inlX0 (RW_at0 rfl) rfl 4 (by decide) wF_X0_27 (fun _ h => h) rfl dX0_copyFrom_37 ?_
          refine r_iload_n C dX0_copyFrom_40 rfl 2 rfl ?_
          refine r_aload_n C dX0_copyFrom_41 rfl 1 rfl ?_
          refine r_get (Cn := RX0) (T := TX0) (N := 7) (v := .ref (j0 + 3)) C inlX0 ((RW_ne (m := 6) rfl (by omega)).trans hc6) rfl 4 (by decide) wF_X0_27 (fun _ h => h) rfl dX0_copyFrom_42 ?_
          refine r_iload_n C dX0_copyFrom_45 rfl 2 rfl ?_
          refine r_aald C 4 ((RW_ne (m := 6) rfl (by omega)).trans hc9) rfl (by omega) (by decide) dX0_copyFrom_46 ?_
          refine r_aastQ C 4 (RW_at 3 rfl) rfl (fun v hv9 => ⟨_, (RW_ne (m := 6) rfl (hq _ _ hv9).1).trans (hq _ _ hv9).2.choose_spec⟩) rfl (by omega) (by decide) dX0_copyFrom_47 ?_
          refine V.hp (σ2 := (RW σ k0 [(.inr (0, [.int (nI (kN J)), .int (nI (kH J)), .ref (k0 + 1), .ref (k0 + 2), .ref (k0 + 3), .ref (k0 + 4), .ref (k0 + 5)])), (aI G 3 (kT K)), (aI G 3 (kW K)), (aR 4 G 5 (va_up w3 i ((kS J) i))), (aI G 5 (kR K)), (aI G 5 (kM K))])) (RW_set 3 (Nat.le_of_ble_eq_true rfl) rfl) ?_
          refine r_iinc (v := nI (i + 1)) (lv2 := [(2, .int (nI (i + 1))), (0, .ref k0), (1, .ref j0)]) C dX0_copyFrom_48 (k := 2) rfl (nI_add _ 1) (by decide) rfl ?_
          refine r_goto (tgt := 18) C dX0_copyFrom_51 (by decide) ?_
          refine V.sub (lv2 := [(0, .ref k0), (1, .ref j0), (2, .int (nI (i + 1)))]) [1, 2, 0] rfl ?_
          exact ih18 (i + 1) (va_up w3 i ((kS J) i)) (by omega) (fun j hj => va_up_step hj hw rfl) (by omega)
  refine V.sub (lv2 := [(0, .ref k0), (1, .ref j0), (2, .int (nI 0))]) [1, 2, 0] rfl ?_
  exact L18 _ 0 (kS K) (by omega) (fun j hj => absurd hj (Nat.not_lt_zero j)) (Nat.lt_succ_self _)

abbrev rm_X0_shapeOf_y : Room := { frames := 0, cells := 0, slots := 0, locals := 0 }
set_option maxRecDepth 100000 in
set_option maxHeartbeats 4000000 in
theorem c_X0_shapeOf_y {l : Launch} {G : gG} {n : Nat} {σ : gS} {k0 : Nat} {K : KT} {k sa : Nat} (hc0 : σ k0 = some (.inr (0, [.int (nI (kN K)), .int (nI (kH K)), .ref (k0 + 1), .ref (k0 + 2), .ref (k0 + 3), .ref (k0 + 4), .ref (k0 + 5)]))) (hc1 : σ (k0 + 3) = some (aR 4 G 5 (kS K))) (hk : k < kN K) (hk5 : kN K ≤ 5) (hs : kS K k = some sa) : GM l G yX0_shapeOf cX0_shapeOf 2 (some (.object "TurnTops$Shape")) rm_X0_shapeOf_y n σ [.ref k0, .int (nI k)] (fun rv n2 σ2 => some (.ref sa) = rv ∧ n = n2 ∧ σ = σ2) := by
  refine GM.intro (by decide +kernel) (Nat.le_of_ble_eq_true rfl) (fun p e s m args below meth c C hr hlocks hname po hpo => ?_)
  have C : Cx p s m args c cX0_shapeOf 2 RX0 G := C
  refine r_iload_n C dX0_shapeOf_0 rfl 1 rfl ?_
  refine r_if_ltN C dX0_shapeOf_1 (tgt := 30) (by decide) (by omega) ?_
  refine r_iload_n C dX0_shapeOf_4 rfl 1 rfl ?_
  refine r_aload_n C dX0_shapeOf_5 rfl 0 rfl ?_
  refine r_get (Cn := RX0) (T := TX0) (N := 7) (v := .int (nI (kN K))) C inlX0 hc0 rfl 0 (by decide) wF_X0_9 (fun _ h => h) rfl dX0_shapeOf_6 ?_
  refine r_icmp_geN (tgt := 30) C dX0_shapeOf_9 (by decide) (by omega) (by omega) (fun c9 => ?_) (fun c9 => ?_)
  · exact absurd c9 (by omega)
  · refine r_iload_n C dX0_shapeOf_12 rfl 1 rfl ?_
    refine r_aload_n C dX0_shapeOf_13 rfl 0 rfl ?_
    refine r_get (Cn := RX0) (T := TX0) (N := 7) (v := .ref (k0 + 3)) C inlX0 hc0 rfl 4 (by decide) wF_X0_27 (fun _ h => h) rfl dX0_shapeOf_14 ?_
    refine r_alenR C 4 hc1 rfl dX0_shapeOf_17 ?_
    refine r_icmp_geN (tgt := 30) C dX0_shapeOf_18 (by decide) (by omega) (by decide) (fun c18 => ?_) (fun c18 => ?_)
    · exact absurd c18 (by omega)
    · refine r_aload_n C dX0_shapeOf_21 rfl 0 rfl ?_
      refine r_get (Cn := RX0) (T := TX0) (N := 7) (v := .ref (k0 + 3)) C inlX0 hc0 rfl 4 (by decide) wF_X0_27 (fun _ h => h) rfl dX0_shapeOf_22 ?_
      refine r_iload_n C dX0_shapeOf_25 rfl 1 rfl ?_
      refine r_aald C 4 hc1 rfl (by omega) (by decide) dX0_shapeOf_26 ?_
      refine V.eq (st2 := [.ref sa]) rfl rfl rfl (by rw [hs]; rfl) ?_
      refine r_goto (tgt := 31) C dX0_shapeOf_27 (by decide) ?_
      exact r_aret C (Or.inl ⟨_, rfl⟩) (Or.inr ⟨_, rfl⟩) hr hlocks (Nat.le_of_ble_eq_true rfl) (Nat.le_of_ble_eq_true rfl) dX0_shapeOf_31 (hpo _ _ _ ⟨rfl, rfl, rfl⟩)

abbrev rm_X0_shapeOf_n : Room := { frames := 0, cells := 0, slots := 0, locals := 0 }
set_option maxRecDepth 100000 in
set_option maxHeartbeats 4000000 in
theorem c_X0_shapeOf_n {l : Launch} {G : gG} {n : Nat} {σ : gS} {k0 : Nat} {K : KT} {x : Int32} (hc0 : σ k0 = some (.inr (0, [.int (nI (kN K)), .int (nI (kH K)), .ref (k0 + 1), .ref (k0 + 2), .ref (k0 + 3), .ref (k0 + 4), .ref (k0 + 5)]))) (hk5 : kN K ≤ 5) (hbad : isS x (kN K) = false) : GM l G yX0_shapeOf cX0_shapeOf 2 (some (.object "TurnTops$Shape")) rm_X0_shapeOf_n n σ [.ref k0, .int x] (fun rv n2 σ2 => some (.null) = rv ∧ n = n2 ∧ σ = σ2) := by
  refine GM.intro (by decide +kernel) (Nat.le_of_ble_eq_true rfl) (fun p e s m args below meth c C hr hlocks hname po hpo => ?_)
  have C : Cx p s m args c cX0_shapeOf 2 RX0 G := C
  refine r_iload_n C dX0_shapeOf_0 rfl 1 rfl ?_
  refine r_if_lt (tgt := 30) C dX0_shapeOf_1 (by decide) (fun c1 => ?_) (fun c1 => ?_)
  · refine r_null C dX0_shapeOf_30 ?_
    exact r_aret C (Or.inl ⟨_, rfl⟩) (Or.inl rfl) hr hlocks (Nat.le_of_ble_eq_true rfl) (Nat.le_of_ble_eq_true rfl) dX0_shapeOf_31 (hpo _ _ _ ⟨rfl, rfl, rfl⟩)
  · refine r_iload_n C dX0_shapeOf_4 rfl 1 rfl ?_
    refine r_aload_n C dX0_shapeOf_5 rfl 0 rfl ?_
    refine r_get (Cn := RX0) (T := TX0) (N := 7) (v := .int (nI (kN K))) C inlX0 hc0 rfl 0 (by decide) wF_X0_9 (fun _ h => h) rfl dX0_shapeOf_6 ?_
    refine r_icmp_ge (tgt := 30) C dX0_shapeOf_9 (by decide) (fun c9 => ?_) (fun c9 => ?_)
    · refine r_null C dX0_shapeOf_30 ?_
      exact r_aret C (Or.inl ⟨_, rfl⟩) (Or.inl rfl) hr hlocks (Nat.le_of_ble_eq_true rfl) (Nat.le_of_ble_eq_true rfl) dX0_shapeOf_31 (hpo _ _ _ ⟨rfl, rfl, rfl⟩)
    · exact absurd (isS_lt hk5 c1 c9) (by rw [hbad]; decide)

abbrev rm_X0_rankOf : Room := { frames := 1, cells := 0, slots := 0, locals := 21 }
set_option maxRecDepth 100000 in
set_option maxHeartbeats 4000000 in
theorem c_X0_rankOf {l : Launch} {G : gG} {n : Nat} {σ : gS} {k0 : Nat} {K : KT} {k : Nat} (hc0 : σ k0 = some (.inr (0, [.int (nI (kN K)), .int (nI (kH K)), .ref (k0 + 1), .ref (k0 + 2), .ref (k0 + 3), .ref (k0 + 4), .ref (k0 + 5)]))) (hc1 : σ (k0 + 4) = some (aI G 5 (kR K))) (hk : k < 5) : GM l G yX0_rankOf cX0_rankOf 2 (some .int) rm_X0_rankOf n σ [.ref k0, .int (nI k)] (fun rv n2 σ2 => some (.int (kR K k)) = rv ∧ n = n2 ∧ σ = σ2) := by
  refine GM.intro (by decide +kernel) (Nat.le_of_ble_eq_true rfl) (fun p e s m args below meth c C hr hlocks hname po hpo => ?_)
  have C : Cx p s m args c cX0_rankOf 2 RX0 G := C
  refine r_aload_n C dX0_rankOf_0 rfl 0 rfl ?_
  refine r_get (Cn := RX0) (T := TX0) (N := 7) (v := .ref (k0 + 4)) C inlX0 hc0 rfl 5 (by decide) wF_X0_31 (fun _ h => h) rfl dX0_rankOf_1 ?_
  refine r_iload_n C dX0_rankOf_4 rfl 1 rfl ?_
  refine r_callSN (As := [.ref (k0 + 4), .int (nI k)]) C (c_X6_at_y (a := k0 + 4) (len := 5) (f := kR K) (i := k) hc1 (by first | assumption | omega) (by first | assumption | omega)) wZ_X0_41 wS_X6_at wN_X6 wC_X6_at hd_X6_at ⟨Nat.le_of_ble_eq_true rfl, Nat.le_of_ble_eq_true rfl⟩ rfl rfl (Nat.le_of_ble_eq_true rfl) dX0_rankOf_5 ⟨(Nat.le_of_ble_eq_true rfl), (Nat.le_of_ble_eq_true rfl)⟩ (fun rv n2 σ2 hp => ?_)
  obtain ⟨rfl, rfl, rfl⟩ := hp
  refine V.eq (σ2 := σ) (n2 := n) (st2 := [.int ((kR K) k)]) rfl rfl rfl rfl ?_
  exact r_iret C hr hlocks (Nat.le_of_ble_eq_true rfl) (Nat.le_of_ble_eq_true rfl) dX0_rankOf_8 (hpo _ _ _ ⟨rfl, rfl, rfl⟩)

abbrev rm_X0_madeOf : Room := { frames := 1, cells := 0, slots := 0, locals := 21 }
set_option maxRecDepth 100000 in
set_option maxHeartbeats 4000000 in
theorem c_X0_madeOf {l : Launch} {G : gG} {n : Nat} {σ : gS} {k0 : Nat} {K : KT} {k : Nat} (hc0 : σ k0 = some (.inr (0, [.int (nI (kN K)), .int (nI (kH K)), .ref (k0 + 1), .ref (k0 + 2), .ref (k0 + 3), .ref (k0 + 4), .ref (k0 + 5)]))) (hc1 : σ (k0 + 5) = some (aI G 5 (kM K))) (hk : k < 5) : GM l G yX0_madeOf cX0_madeOf 2 (some .int) rm_X0_madeOf n σ [.ref k0, .int (nI k)] (fun rv n2 σ2 => some (.int (kM K k)) = rv ∧ n = n2 ∧ σ = σ2) := by
  refine GM.intro (by decide +kernel) (Nat.le_of_ble_eq_true rfl) (fun p e s m args below meth c C hr hlocks hname po hpo => ?_)
  have C : Cx p s m args c cX0_madeOf 2 RX0 G := C
  refine r_aload_n C dX0_madeOf_0 rfl 0 rfl ?_
  refine r_get (Cn := RX0) (T := TX0) (N := 7) (v := .ref (k0 + 5)) C inlX0 hc0 rfl 6 (by decide) wF_X0_34 (fun _ h => h) rfl dX0_madeOf_1 ?_
  refine r_iload_n C dX0_madeOf_4 rfl 1 rfl ?_
  refine r_callSN (As := [.ref (k0 + 5), .int (nI k)]) C (c_X6_at_y (a := k0 + 5) (len := 5) (f := kM K) (i := k) hc1 (by first | assumption | omega) (by first | assumption | omega)) wZ_X0_41 wS_X6_at wN_X6 wC_X6_at hd_X6_at ⟨Nat.le_of_ble_eq_true rfl, Nat.le_of_ble_eq_true rfl⟩ rfl rfl (Nat.le_of_ble_eq_true rfl) dX0_madeOf_5 ⟨(Nat.le_of_ble_eq_true rfl), (Nat.le_of_ble_eq_true rfl)⟩ (fun rv n2 σ2 hp => ?_)
  obtain ⟨rfl, rfl, rfl⟩ := hp
  refine V.eq (σ2 := σ) (n2 := n) (st2 := [.int ((kM K) k)]) rfl rfl rfl rfl ?_
  exact r_iret C hr hlocks (Nat.le_of_ble_eq_true rfl) (Nat.le_of_ble_eq_true rfl) dX0_madeOf_8 (hpo _ _ _ ⟨rfl, rfl, rfl⟩)

abbrev rm_X0_putRank : Room := { frames := 1, cells := 0, slots := 0, locals := 22 }
set_option maxRecDepth 100000 in
set_option maxHeartbeats 4000000 in
theorem c_X0_putRank {l : Launch} {G : gG} {n : Nat} {σ : gS} {k0 : Nat} {K : KT} {k : Nat} {x : Int32} (hc0 : σ k0 = some (.inr (0, [.int (nI (kN K)), .int (nI (kH K)), .ref (k0 + 1), .ref (k0 + 2), .ref (k0 + 3), .ref (k0 + 4), .ref (k0 + 5)]))) (hc1 : σ (k0 + 4) = some (aI G 5 (kR K))) (hk : k < 5) : GM l G yX0_putRank cX0_putRank 3 none rm_X0_putRank n σ [.ref k0, .int (nI k), .int x] (fun rv n2 σ2 => (none : Option Value) = rv ∧ n = n2 ∧ (hU σ (k0 + 4) (aI G 5 (upd (kR K) k x))) = σ2) := by
  refine GM.intro (by decide +kernel) (Nat.le_of_ble_eq_true rfl) (fun p e s m args below meth c C hr hlocks hname po hpo => ?_)
  have C : Cx p s m args c cX0_putRank 3 RX0 G := C
  refine r_aload_n C dX0_putRank_0 rfl 0 rfl ?_
  refine r_get (Cn := RX0) (T := TX0) (N := 7) (v := .ref (k0 + 4)) C inlX0 hc0 rfl 5 (by decide) wF_X0_31 (fun _ h => h) rfl dX0_putRank_1 ?_
  refine r_iload_n C dX0_putRank_4 rfl 1 rfl ?_
  refine r_iload_n C dX0_putRank_5 rfl 2 rfl ?_
  refine r_callSN (As := [.ref (k0 + 4), .int (nI k), .int x]) C (c_X6_put (a := k0 + 4) (len := 5) (f := kR K) (i := k) (x := x) hc1 (by first | assumption | omega) (by first | assumption | omega)) wZ_X0_45 wS_X6_put wN_X6 wC_X6_put hd_X6_put ⟨Nat.le_of_ble_eq_true rfl, Nat.le_of_ble_eq_true rfl⟩ rfl rfl (Nat.le_of_ble_eq_true rfl) dX0_putRank_6 ⟨(Nat.le_of_ble_eq_true rfl), (Nat.le_of_ble_eq_true rfl)⟩ (fun rv n2 σ2 hp => ?_)
  obtain ⟨rfl, rfl, rfl⟩ := hp
  refine V.eq (σ2 := (hU σ (k0 + 4) (aI G 5 (upd (kR K) k x)))) (n2 := n) (st2 := []) rfl rfl rfl rfl ?_
  exact r_vret C hr hlocks (Nat.le_of_ble_eq_true rfl) (Nat.le_of_ble_eq_true rfl) dX0_putRank_9 (hpo _ _ _ ⟨rfl, rfl, rfl⟩)

abbrev rm_X0_add_y : Room := { frames := 1, cells := 0, slots := 0, locals := 22 }
set_option maxRecDepth 100000 in
set_option maxHeartbeats 4000000 in
theorem c_X0_add_y {l : Launch} {G : gG} {n : Nat} {σ : gS} {k0 : Nat} {K : KT} {sa : Nat} {q0 : Value} {q1 : Value} {q2 : Value} {q3 : Value} {q4 : Value} {q5 : Value} (hc0 : σ k0 = some (.inr (0, [.int (nI (kN K)), .int (nI (kH K)), .ref (k0 + 1), .ref (k0 + 2), .ref (k0 + 3), .ref (k0 + 4), .ref (k0 + 5)]))) (hc1 : σ (k0 + 1) = some (aI G 3 (kT K))) (hc2 : σ (k0 + 2) = some (aI G 3 (kW K))) (hc3 : σ (k0 + 3) = some (aR 4 G 5 (kS K))) (hc4 : σ (k0 + 4) = some (aI G 5 (kR K))) (hc5 : σ (k0 + 5) = some (aI G 5 (kM K))) (hc6 : σ sa = some (.inr (2, [q0, q1, q2, q3, q4, q5]))) (hlt : kN K < 5) (hap : sa < k0 ∨ k0 + 6 ≤ sa) : GM l G yX0_add cX0_add 3 (some .int) rm_X0_add_y n σ [.ref k0, .ref sa] (fun rv n2 σ2 => some (.int (nI (kN K))) = rv ∧ n = n2 ∧ (RW σ k0 [(.inr (0, [.int (nI (kN (kAdd K sa))), .int (nI (kH (kAdd K sa))), .ref (k0 + 1), .ref (k0 + 2), .ref (k0 + 3), .ref (k0 + 4), .ref (k0 + 5)])), (aI G 3 (kT (kAdd K sa))), (aI G 3 (kW (kAdd K sa))), (aR 4 G 5 (kS (kAdd K sa))), (aI G 5 (kR (kAdd K sa))), (aI G 5 (kM (kAdd K sa)))]) = σ2) := by
  refine GM.intro (by decide +kernel) (Nat.le_of_ble_eq_true rfl) (fun p e s m args below meth c C hr hlocks hname po hpo => ?_)
  have C : Cx p s m args c cX0_add 3 RX0 G := C
  refine V.hp (σ2 := (RW σ k0 [(.inr (0, [.int (nI (kN K)), .int (nI (kH K)), .ref (k0 + 1), .ref (k0 + 2), .ref (k0 + 3), .ref (k0 + 4), .ref (k0 + 5)])), (aI G 3 (kT K)), (aI G 3 (kW K)), (aR 4 G 5 (kS K)), (aI G 5 (kR K)), (aI G 5 (kM K))])) (RW_cons hc0 (RW_cons hc1 (RW_cons hc2 (RW_cons hc3 (RW_cons hc4 (RW_cons hc5 (RW_nil _ _))))))).symm ?_
  refine r_aload_n C dX0_add_0 rfl 0 rfl ?_
  refine r_get (Cn := RX0) (T := TX0) (N := 7) (v := .int (nI (kN K))) C inlX0 (RW_at0 rfl) rfl 0 (by decide) wF_X0_9 (fun _ h => h) rfl dX0_add_1 ?_
  refine r_if_ltN C dX0_add_4 (tgt := 19) (by decide) (by omega) ?_
  refine r_aload_n C dX0_add_7 rfl 0 rfl ?_
  refine r_get (Cn := RX0) (T := TX0) (N := 7) (v := .int (nI (kN K))) C inlX0 (RW_at0 rfl) rfl 0 (by decide) wF_X0_9 (fun _ h => h) rfl dX0_add_8 ?_
  refine r_aload_n C dX0_add_11 rfl 0 rfl ?_
  refine r_get (Cn := RX0) (T := TX0) (N := 7) (v := .ref (k0 + 3)) C inlX0 (RW_at0 rfl) rfl 4 (by decide) wF_X0_27 (fun _ h => h) rfl dX0_add_12 ?_
  refine r_alenR C 4 (RW_at 3 rfl) rfl dX0_add_15 ?_
  refine r_icmp_ltN (tgt := 21) C dX0_add_16 (by decide) (by omega) (by decide) (fun c16 => ?_) (fun c16 => ?_)
  · refine r_aload_n C dX0_add_21 rfl 0 rfl ?_
    refine r_get (Cn := RX0) (T := TX0) (N := 7) (v := .int (nI (kN K))) C inlX0 (RW_at0 rfl) rfl 0 (by decide) wF_X0_9 (fun _ h => h) rfl dX0_add_22 ?_
    refine r_istore_n (lv2 := [(2, .int (nI (kN K))), (0, .ref k0), (1, .ref sa)]) C dX0_add_25 rfl (by decide) rfl ?_
    refine r_aload_n C dX0_add_26 rfl 1 rfl ?_
    refine r_get (Cn := RX0) (T := TX0) (N := 7) (v := .ref (k0 + 3)) C inlX0 (RW_at0 rfl) rfl 4 (by decide) wF_X0_27 (fun _ h => h) rfl dX0_add_27 ?_
    refine r_iload_n C dX0_add_30 rfl 0 rfl ?_
    refine r_aload_n C dX0_add_31 rfl 2 rfl ?_
    refine r_aast C 4 (RW_at 3 rfl) rfl ((RW_ne (m := 6) rfl (by omega)).trans hc6) rfl (by omega) (by decide) dX0_add_32 ?_
    refine V.hp (σ2 := (RW σ k0 [(.inr (0, [.int (nI (kN K)), .int (nI (kH K)), .ref (k0 + 1), .ref (k0 + 2), .ref (k0 + 3), .ref (k0 + 4), .ref (k0 + 5)])), (aI G 3 (kT K)), (aI G 3 (kW K)), (aR 4 G 5 (va_up (kS K) (kN K) (some sa))), (aI G 5 (kR K)), (aI G 5 (kM K))])) (RW_set 3 (Nat.le_of_ble_eq_true rfl) rfl) ?_
    refine r_aload_n C dX0_add_33 rfl 1 rfl ?_
    refine r_get (Cn := RX0) (T := TX0) (N := 7) (v := .ref (k0 + 4)) C inlX0 (RW_at0 rfl) rfl 5 (by decide) wF_X0_31 (fun _ h => h) rfl dX0_add_34 ?_
    refine r_iload_n C dX0_add_37 rfl 0 rfl ?_
    refine r_iconst (v := nI 0) C dX0_add_38 (by decide) ?_
    refine r_callSN (As := [.ref (k0 + 4), .int (nI (kN K)), .int (nI 0)]) C (c_X6_put (a := k0 + 4) (len := 5) (f := kR K) (i := kN K) (x := nI 0) (RW_at 4 rfl) (by omega) (by first | assumption | omega)) wZ_X0_45 wS_X6_put wN_X6 wC_X6_put hd_X6_put ⟨Nat.le_of_ble_eq_true rfl, Nat.le_of_ble_eq_true rfl⟩ rfl rfl (Nat.le_of_ble_eq_true rfl) dX0_add_39 ⟨(Nat.le_of_ble_eq_true rfl), (Nat.le_of_ble_eq_true rfl)⟩ (fun rv n2 σ2 hp => ?_)
    obtain ⟨rfl, rfl, rfl⟩ := hp
    refine V.eq (σ2 := (hU (RW σ k0 [(.inr (0, [.int (nI (kN K)), .int (nI (kH K)), .ref (k0 + 1), .ref (k0 + 2), .ref (k0 + 3), .ref (k0 + 4), .ref (k0 + 5)])), (aI G 3 (kT K)), (aI G 3 (kW K)), (aR 4 G 5 (va_up (kS K) (kN K) (some sa))), (aI G 5 (kR K)), (aI G 5 (kM K))]) (k0 + 4) (aI G 5 (upd (kR K) (kN K) (nI 0))))) (n2 := n) (st2 := []) rfl rfl rfl rfl ?_
    refine V.hp (σ2 := (RW σ k0 [(.inr (0, [.int (nI (kN K)), .int (nI (kH K)), .ref (k0 + 1), .ref (k0 + 2), .ref (k0 + 3), .ref (k0 + 4), .ref (k0 + 5)])), (aI G 3 (kT K)), (aI G 3 (kW K)), (aR 4 G 5 (va_up (kS K) (kN K) (some sa))), (aI G 5 (upd (kR K) (kN K) (nI 0))), (aI G 5 (kM K))])) (RW_set 4 (Nat.le_of_ble_eq_true rfl) rfl) ?_
    refine r_aload_n C dX0_add_42 rfl 1 rfl ?_
    refine r_get (Cn := RX0) (T := TX0) (N := 7) (v := .ref (k0 + 5)) C inlX0 (RW_at0 rfl) rfl 6 (by decide) wF_X0_34 (fun _ h => h) rfl dX0_add_43 ?_
    refine r_iload_n C dX0_add_46 rfl 0 rfl ?_
    refine r_iconst (v := nI 0) C dX0_add_47 (by decide) ?_
    refine r_callSN (As := [.ref (k0 + 5), .int (nI (kN K)), .int (nI 0)]) C (c_X6_put (a := k0 + 5) (len := 5) (f := kM K) (i := kN K) (x := nI 0) (RW_at 5 rfl) (by omega) (by first | assumption | omega)) wZ_X0_45 wS_X6_put wN_X6 wC_X6_put hd_X6_put ⟨Nat.le_of_ble_eq_true rfl, Nat.le_of_ble_eq_true rfl⟩ rfl rfl (Nat.le_of_ble_eq_true rfl) dX0_add_48 ⟨(Nat.le_of_ble_eq_true rfl), (Nat.le_of_ble_eq_true rfl)⟩ (fun rv n2 σ2 hp => ?_)
    obtain ⟨rfl, rfl, rfl⟩ := hp
    refine V.eq (σ2 := (hU (RW σ k0 [(.inr (0, [.int (nI (kN K)), .int (nI (kH K)), .ref (k0 + 1), .ref (k0 + 2), .ref (k0 + 3), .ref (k0 + 4), .ref (k0 + 5)])), (aI G 3 (kT K)), (aI G 3 (kW K)), (aR 4 G 5 (va_up (kS K) (kN K) (some sa))), (aI G 5 (upd (kR K) (kN K) (nI 0))), (aI G 5 (kM K))]) (k0 + 5) (aI G 5 (upd (kM K) (kN K) (nI 0))))) (n2 := n) (st2 := []) rfl rfl rfl rfl ?_
    refine V.hp (σ2 := (RW σ k0 [(.inr (0, [.int (nI (kN K)), .int (nI (kH K)), .ref (k0 + 1), .ref (k0 + 2), .ref (k0 + 3), .ref (k0 + 4), .ref (k0 + 5)])), (aI G 3 (kT K)), (aI G 3 (kW K)), (aR 4 G 5 (va_up (kS K) (kN K) (some sa))), (aI G 5 (upd (kR K) (kN K) (nI 0))), (aI G 5 (upd (kM K) (kN K) (nI 0)))])) (RW_set 5 (Nat.le_of_ble_eq_true rfl) rfl) ?_
    refine r_aload_n C dX0_add_51 rfl 1 rfl ?_
    refine r_dup C dX0_add_52 rfl ?_
    refine r_get (Cn := RX0) (T := TX0) (N := 7) (v := .int (nI (kN K))) C inlX0 (RW_at0 rfl) rfl 0 (by decide) wF_X0_9 (fun _ h => h) rfl dX0_add_53 ?_
    refine r_iconst (v := nI 1) C dX0_add_56 (by decide) ?_
    refine r_iaddN C dX0_add_57 ?_
    refine r_put (Cn := RX0) (T := TX0) (N := 7) (fs2 := [.int (nI (kN K + 1)), .int (nI (kH K)), .ref (k0 + 1), .ref (k0 + 2), .ref (k0 + 3), .ref (k0 + 4), .ref (k0 + 5)]) C inlX0 tyX0 tyX0_ok nmX0 (RW_at0 rfl) rfl 0 (by decide) wF_X0_9 (fun _ h => h) rfl (tyX0_ok 0 (by decide)) rfl rfl (Nat.le_of_ble_eq_true rfl) rfl dX0_add_58 ?_
    refine V.hp (σ2 := (RW σ k0 [(.inr (0, [.int (nI (kN K + 1)), .int (nI (kH K)), .ref (k0 + 1), .ref (k0 + 2), .ref (k0 + 3), .ref (k0 + 4), .ref (k0 + 5)])), (aI G 3 (kT K)), (aI G 3 (kW K)), (aR 4 G 5 (va_up (kS K) (kN K) (some sa))), (aI G 5 (upd (kR K) (kN K) (nI 0))), (aI G 5 (upd (kM K) (kN K) (nI 0)))])) (RW_set0 (Nat.le_of_ble_eq_true rfl) rfl) ?_
    refine r_iload_n C dX0_add_61 rfl 0 rfl ?_
    exact r_iret C hr hlocks (Nat.le_of_ble_eq_true rfl) (Nat.le_of_ble_eq_true rfl) dX0_add_62 (hpo _ _ _ ⟨rfl, rfl, rfl⟩)
  · exact absurd c16 (by omega)

abbrev rm_X0_add_f : Room := { frames := 0, cells := 0, slots := 0, locals := 0 }
set_option maxRecDepth 100000 in
set_option maxHeartbeats 4000000 in
theorem c_X0_add_f {l : Launch} {G : gG} {n : Nat} {σ : gS} {k0 : Nat} {K : KT} {sa : Nat} (hc0 : σ k0 = some (.inr (0, [.int (nI (kN K)), .int (nI (kH K)), .ref (k0 + 1), .ref (k0 + 2), .ref (k0 + 3), .ref (k0 + 4), .ref (k0 + 5)]))) (hc1 : σ (k0 + 3) = some (aR 4 G 5 (kS K))) (h5 : kN K = 5) : GM l G yX0_add cX0_add 3 (some .int) rm_X0_add_f n σ [.ref k0, .ref sa] (fun rv n2 σ2 => some (.int (-1)) = rv ∧ n = n2 ∧ σ = σ2) := by
  refine GM.intro (by decide +kernel) (Nat.le_of_ble_eq_true rfl) (fun p e s m args below meth c C hr hlocks hname po hpo => ?_)
  have C : Cx p s m args c cX0_add 3 RX0 G := C
  refine r_aload_n C dX0_add_0 rfl 0 rfl ?_
  refine r_get (Cn := RX0) (T := TX0) (N := 7) (v := .int (nI (kN K))) C inlX0 hc0 rfl 0 (by decide) wF_X0_9 (fun _ h => h) rfl dX0_add_1 ?_
  refine r_if_ltN C dX0_add_4 (tgt := 19) (by decide) (by omega) ?_
  refine r_aload_n C dX0_add_7 rfl 0 rfl ?_
  refine r_get (Cn := RX0) (T := TX0) (N := 7) (v := .int (nI (kN K))) C inlX0 hc0 rfl 0 (by decide) wF_X0_9 (fun _ h => h) rfl dX0_add_8 ?_
  refine r_aload_n C dX0_add_11 rfl 0 rfl ?_
  refine r_get (Cn := RX0) (T := TX0) (N := 7) (v := .ref (k0 + 3)) C inlX0 hc0 rfl 4 (by decide) wF_X0_27 (fun _ h => h) rfl dX0_add_12 ?_
  refine r_alenR C 4 hc1 rfl dX0_add_15 ?_
  refine r_icmp_ltN (tgt := 21) C dX0_add_16 (by decide) (by omega) (by decide) (fun c16 => ?_) (fun c16 => ?_)
  · exact absurd c16 (by omega)
  · refine r_iconst (v := (-1)) C dX0_add_19 (by decide) ?_
    exact r_iret C hr hlocks (Nat.le_of_ble_eq_true rfl) (Nat.le_of_ble_eq_true rfl) dX0_add_20 (hpo _ _ _ ⟨by exact rfl, rfl, rfl⟩)

abbrev rm_X0_makeTurn_n : Room := { frames := 2, cells := 0, slots := 0, locals := 43 }
set_option maxRecDepth 100000 in
set_option maxHeartbeats 4000000 in
theorem c_X0_makeTurn_n {l : Launch} {G : gG} {n : Nat} {σ : gS} {k0 : Nat} {K : KT} {k w : Nat} {sa la : Nat} {kd N sr cfl : Nat} {sv : Value} {f3 : Nat → Int32} {f5 : Nat → Int32} {r : Nat} (hc0 : σ k0 = some (.inr (0, [.int (nI (kN K)), .int (nI (kH K)), .ref (k0 + 1), .ref (k0 + 2), .ref (k0 + 3), .ref (k0 + 4), .ref (k0 + 5)]))) (hc1 : σ (k0 + 1) = some (aI G 3 (kT K))) (hc2 : σ (k0 + 2) = some (aI G 3 (kW K))) (hc3 : σ (k0 + 3) = some (aR 4 G 5 (kS K))) (hc4 : σ (k0 + 4) = some (aI G 5 (kR K))) (hc5 : σ (k0 + 5) = some (aI G 5 (kM K))) (hc6 : σ sa = some (.inr (2, [.int (nI kd), .int (nI sr), .int (nI N), .ref la, .ref (sa + 1), sv]))) (hc7 : σ (sa + 1) = some (aI G (rR (sid kd) N) f5)) (hc8 : σ la = some (.inr (1, [.int (nI N), .int (nI (rR (sid kd) N)), .int (nI (sbN (sid kd) N)), .int (nI (sm (sid kd) N - 1)), .ref (la + 1), .ref (la + 2), .ref (la + 3), .ref (la + 4)]))) (hc9 : σ (la + 3) = some (aI G (rR (sid kd) N * N) f3)) (hk : k < kN K) (hk5 : kN K ≤ 5) (hH : kH K < 3) (hs : kS K k = some sa) (hr9 : kR K k = nI r) (hL : LOK (sid kd) N) (h5 : ∀ r, r < rR (sid kd) N → f5 r = nI (psR kd sr N r)) (h3 : ∀ r, r < rR (sid kd) N → ∀ k, 1 ≤ k → k ≤ N → f3 (r * N + k - 1) = nI (nx (sid kd) N r k)) (hrk : r < rR (sid kd) N) (hw : w < 10) (hok : okR kd sr N r w = false) : GM l G yX0_makeTurn cX0_makeTurn 4 (some .boolean) rm_X0_makeTurn_n n σ [.ref k0, .int (nI k), .int (nI w)] (fun rv n2 σ2 => some (.int (bI false)) = rv ∧ n = n2 ∧ σ = σ2) := by
  refine GM.intro (by decide +kernel) (Nat.le_of_ble_eq_true rfl) (fun p e s m args below meth c C hr hlocks hname po hpo => ?_)
  have C : Cx p s m args c cX0_makeTurn 4 RX0 G := C
  have hb9 := hL.b
  refine r_aload_n C dX0_makeTurn_0 rfl 0 rfl ?_
  refine r_iload_n C dX0_makeTurn_1 rfl 1 rfl ?_
  refine r_callV (As := [.int (nI k)]) C (c_X0_shapeOf_y (k0 := k0) (K := K) (k := k) (sa := sa) hc0 hc3 (by first | assumption | omega) (by first | assumption | omega) (by first | assumption | omega)) wM_X0_49 wI_X0_shapeOf wN_X0 wC_X0_shapeOf wV_X0_shapeOf hd_X0_shapeOf ⟨Nat.le_of_ble_eq_true rfl, Nat.le_of_ble_eq_true rfl⟩ rfl hc0 rfl rfl (Nat.le_of_ble_eq_true rfl) dX0_makeTurn_2 ⟨(Nat.le_of_ble_eq_true rfl), (Nat.le_of_ble_eq_true rfl)⟩ (fun rv n2 σ2 hp => ?_)
  obtain ⟨rfl, rfl, rfl⟩ := hp
  refine V.eq (σ2 := σ) (n2 := n) (st2 := [.ref sa]) rfl rfl rfl rfl ?_
  refine r_astore_n (lv2 := [(3, .ref sa), (0, .ref k0), (1, .int (nI k)), (2, .int (nI w))]) C dX0_makeTurn_5 rfl (by decide) rfl ?_
  refine r_aload_n C dX0_makeTurn_6 rfl 0 rfl ?_
  refine r_ifnull C dX0_makeTurn_7 ?_
  refine r_aload_n C dX0_makeTurn_10 rfl 0 rfl ?_
  refine r_aload_n C dX0_makeTurn_11 rfl 1 rfl ?_
  refine r_iload_n C dX0_makeTurn_12 rfl 2 rfl ?_
  refine r_callV (As := [.int (nI k)]) C (c_X0_rankOf (k0 := k0) (K := K) (k := k) hc0 hc4 (by omega)) wM_X0_53 wI_X0_rankOf wN_X0 wC_X0_rankOf wV_X0_rankOf hd_X0_rankOf ⟨Nat.le_of_ble_eq_true rfl, Nat.le_of_ble_eq_true rfl⟩ rfl hc0 rfl rfl (Nat.le_of_ble_eq_true rfl) dX0_makeTurn_13 ⟨(Nat.le_of_ble_eq_true rfl), (Nat.le_of_ble_eq_true rfl)⟩ (fun rv n2 σ2 hp => ?_)
  obtain ⟨rfl, rfl, rfl⟩ := hp
  refine V.eq (σ2 := σ) (n2 := n) (st2 := [.int (kR K k), .ref sa]) rfl rfl rfl rfl ?_
  refine V.top (y := nI r) (hr9) ?_
  refine r_iload_n C dX0_makeTurn_16 rfl 3 rfl ?_
  refine r_callV (As := [.int (nI r), .int (nI w)]) C (c_X2_allows (sa := sa) (la := la) (kd := kd) (N := N) (sr := sr) (sv := sv) (f5 := f5) (r := r) (k := w) hc6 hc7 (by first | assumption | omega) (by first | assumption | omega) (by first | assumption | omega) (by first | assumption | omega)) wM_X0_57 wI_X2_allows wN_X2 wC_X2_allows wV_X2_allows hd_X2_allows ⟨Nat.le_of_ble_eq_true rfl, Nat.le_of_ble_eq_true rfl⟩ rfl hc6 rfl rfl (Nat.le_of_ble_eq_true rfl) dX0_makeTurn_17 ⟨(Nat.le_of_ble_eq_true rfl), (Nat.le_of_ble_eq_true rfl)⟩ (fun rv n2 σ2 hp => ?_)
  obtain ⟨rfl, rfl, rfl⟩ := hp
  refine V.eq (σ2 := σ) (n2 := n) (st2 := [.int (bI (okR kd sr N r w))]) rfl rfl rfl rfl ?_
  refine r_if_neB (tgt := 25) C dX0_makeTurn_20 (by decide) (fun c20 => ?_) (fun c20 => ?_)
  · exact absurd (hok.symm.trans c20) (by decide)
  · refine r_iconst (v := nI 0) C dX0_makeTurn_23 (by decide) ?_
    exact r_zret C (by decide) hr hlocks (Nat.le_of_ble_eq_true rfl) (Nat.le_of_ble_eq_true rfl) dX0_makeTurn_24 (hpo _ _ _ ⟨bI_f (by first | assumption | (simp; omega) | simp_all), rfl, rfl⟩)

abbrev rm_X0_makeTurn_y : Room := { frames := 2, cells := 0, slots := 0, locals := 44 }
set_option maxRecDepth 100000 in
set_option maxHeartbeats 4000000 in
theorem c_X0_makeTurn_y {l : Launch} {G : gG} {n : Nat} {σ : gS} {k0 : Nat} {K : KT} {k w : Nat} {sa la : Nat} {kd N sr cfl : Nat} {sv : Value} {f3 : Nat → Int32} {f5 : Nat → Int32} {r : Nat} (hc0 : σ k0 = some (.inr (0, [.int (nI (kN K)), .int (nI (kH K)), .ref (k0 + 1), .ref (k0 + 2), .ref (k0 + 3), .ref (k0 + 4), .ref (k0 + 5)]))) (hc1 : σ (k0 + 1) = some (aI G 3 (kT K))) (hc2 : σ (k0 + 2) = some (aI G 3 (kW K))) (hc3 : σ (k0 + 3) = some (aR 4 G 5 (kS K))) (hc4 : σ (k0 + 4) = some (aI G 5 (kR K))) (hc5 : σ (k0 + 5) = some (aI G 5 (kM K))) (hc6 : σ sa = some (.inr (2, [.int (nI kd), .int (nI sr), .int (nI N), .ref la, .ref (sa + 1), sv]))) (hc7 : σ (sa + 1) = some (aI G (rR (sid kd) N) f5)) (hc8 : σ la = some (.inr (1, [.int (nI N), .int (nI (rR (sid kd) N)), .int (nI (sbN (sid kd) N)), .int (nI (sm (sid kd) N - 1)), .ref (la + 1), .ref (la + 2), .ref (la + 3), .ref (la + 4)]))) (hc9 : σ (la + 3) = some (aI G (rR (sid kd) N * N) f3)) (hk : k < kN K) (hk5 : kN K ≤ 5) (hH : kH K < 3) (hs : kS K k = some sa) (hr9 : kR K k = nI r) (hL : LOK (sid kd) N) (h5 : ∀ r, r < rR (sid kd) N → f5 r = nI (psR kd sr N r)) (h3 : ∀ r, r < rR (sid kd) N → ∀ k, 1 ≤ k → k ≤ N → f3 (r * N + k - 1) = nI (nx (sid kd) N r k)) (hrk : r < rR (sid kd) N) (hw : w < 10) (hok : okR kd sr N r w = true) (hap : (sa + 2 ≤ k0 ∨ k0 + 6 ≤ sa) ∧ (la + 5 ≤ k0 ∨ k0 + 6 ≤ la)) : GM l G yX0_makeTurn cX0_makeTurn 4 (some .boolean) rm_X0_makeTurn_y n σ [.ref k0, .int (nI k), .int (nI w)] (fun rv n2 σ2 => some (.int (bI true)) = rv ∧ n = n2 ∧ (RW σ k0 [(.inr (0, [.int (nI (kN (kTn K k (nx (sid kd) N r w) w))), .int (nI (kH (kTn K k (nx (sid kd) N r w) w))), .ref (k0 + 1), .ref (k0 + 2), .ref (k0 + 3), .ref (k0 + 4), .ref (k0 + 5)])), (aI G 3 (kT (kTn K k (nx (sid kd) N r w) w))), (aI G 3 (kW (kTn K k (nx (sid kd) N r w) w))), (aR 4 G 5 (kS (kTn K k (nx (sid kd) N r w) w))), (aI G 5 (kR (kTn K k (nx (sid kd) N r w) w))), (aI G 5 (kM (kTn K k (nx (sid kd) N r w) w)))]) = σ2) := by
  refine GM.intro (by decide +kernel) (Nat.le_of_ble_eq_true rfl) (fun p e s m args below meth c C hr hlocks hname po hpo => ?_)
  have C : Cx p s m args c cX0_makeTurn 4 RX0 G := C
  have hb9 := hL.b
  have hw1 := okR_rng hok
  refine V.hp (σ2 := (RW σ k0 [(.inr (0, [.int (nI (kN K)), .int (nI (kH K)), .ref (k0 + 1), .ref (k0 + 2), .ref (k0 + 3), .ref (k0 + 4), .ref (k0 + 5)])), (aI G 3 (kT K)), (aI G 3 (kW K)), (aR 4 G 5 (kS K)), (aI G 5 (kR K)), (aI G 5 (kM K))])) (RW_cons hc0 (RW_cons hc1 (RW_cons hc2 (RW_cons hc3 (RW_cons hc4 (RW_cons hc5 (RW_nil _ _))))))).symm ?_
  refine r_aload_n C dX0_makeTurn_0 rfl 0 rfl ?_
  refine r_iload_n C dX0_makeTurn_1 rfl 1 rfl ?_
  refine r_callV (As := [.int (nI k)]) C (c_X0_shapeOf_y (k0 := k0) (K := K) (k := k) (sa := sa) (RW_at0 rfl) (RW_at 3 rfl) (by first | assumption | omega) (by first | assumption | omega) (by first | assumption | omega)) wM_X0_49 wI_X0_shapeOf wN_X0 wC_X0_shapeOf wV_X0_shapeOf hd_X0_shapeOf ⟨Nat.le_of_ble_eq_true rfl, Nat.le_of_ble_eq_true rfl⟩ rfl (RW_at0 rfl) rfl rfl (Nat.le_of_ble_eq_true rfl) dX0_makeTurn_2 ⟨(Nat.le_of_ble_eq_true rfl), (Nat.le_of_ble_eq_true rfl)⟩ (fun rv n2 σ2 hp => ?_)
  obtain ⟨rfl, rfl, rfl⟩ := hp
  refine V.eq (σ2 := (RW σ k0 [(.inr (0, [.int (nI (kN K)), .int (nI (kH K)), .ref (k0 + 1), .ref (k0 + 2), .ref (k0 + 3), .ref (k0 + 4), .ref (k0 + 5)])), (aI G 3 (kT K)), (aI G 3 (kW K)), (aR 4 G 5 (kS K)), (aI G 5 (kR K)), (aI G 5 (kM K))])) (n2 := n) (st2 := [.ref sa]) rfl rfl rfl rfl ?_
  refine r_astore_n (lv2 := [(3, .ref sa), (0, .ref k0), (1, .int (nI k)), (2, .int (nI w))]) C dX0_makeTurn_5 rfl (by decide) rfl ?_
  refine r_aload_n C dX0_makeTurn_6 rfl 0 rfl ?_
  refine r_ifnull C dX0_makeTurn_7 ?_
  refine r_aload_n C dX0_makeTurn_10 rfl 0 rfl ?_
  refine r_aload_n C dX0_makeTurn_11 rfl 1 rfl ?_
  refine r_iload_n C dX0_makeTurn_12 rfl 2 rfl ?_
  refine r_callV (As := [.int (nI k)]) C (c_X0_rankOf (k0 := k0) (K := K) (k := k) (RW_at0 rfl) (RW_at 4 rfl) (by omega)) wM_X0_53 wI_X0_rankOf wN_X0 wC_X0_rankOf wV_X0_rankOf hd_X0_rankOf ⟨Nat.le_of_ble_eq_true rfl, Nat.le_of_ble_eq_true rfl⟩ rfl (RW_at0 rfl) rfl rfl (Nat.le_of_ble_eq_true rfl) dX0_makeTurn_13 ⟨(Nat.le_of_ble_eq_true rfl), (Nat.le_of_ble_eq_true rfl)⟩ (fun rv n2 σ2 hp => ?_)
  obtain ⟨rfl, rfl, rfl⟩ := hp
  refine V.eq (σ2 := (RW σ k0 [(.inr (0, [.int (nI (kN K)), .int (nI (kH K)), .ref (k0 + 1), .ref (k0 + 2), .ref (k0 + 3), .ref (k0 + 4), .ref (k0 + 5)])), (aI G 3 (kT K)), (aI G 3 (kW K)), (aR 4 G 5 (kS K)), (aI G 5 (kR K)), (aI G 5 (kM K))])) (n2 := n) (st2 := [.int (kR K k), .ref sa]) rfl rfl rfl rfl ?_
  refine V.top (y := nI r) (hr9) ?_
  refine r_iload_n C dX0_makeTurn_16 rfl 3 rfl ?_
  refine r_callV (As := [.int (nI r), .int (nI w)]) C (c_X2_allows (sa := sa) (la := la) (kd := kd) (N := N) (sr := sr) (sv := sv) (f5 := f5) (r := r) (k := w) ((RW_ne (m := 6) rfl (by omega)).trans hc6) ((RW_ne (m := 6) rfl (by omega)).trans hc7) (by first | assumption | omega) (by first | assumption | omega) (by first | assumption | omega) (by first | assumption | omega)) wM_X0_57 wI_X2_allows wN_X2 wC_X2_allows wV_X2_allows hd_X2_allows ⟨Nat.le_of_ble_eq_true rfl, Nat.le_of_ble_eq_true rfl⟩ rfl ((RW_ne (m := 6) rfl (by omega)).trans hc6) rfl rfl (Nat.le_of_ble_eq_true rfl) dX0_makeTurn_17 ⟨(Nat.le_of_ble_eq_true rfl), (Nat.le_of_ble_eq_true rfl)⟩ (fun rv n2 σ2 hp => ?_)
  obtain ⟨rfl, rfl, rfl⟩ := hp
  refine V.eq (σ2 := (RW σ k0 [(.inr (0, [.int (nI (kN K)), .int (nI (kH K)), .ref (k0 + 1), .ref (k0 + 2), .ref (k0 + 3), .ref (k0 + 4), .ref (k0 + 5)])), (aI G 3 (kT K)), (aI G 3 (kW K)), (aR 4 G 5 (kS K)), (aI G 5 (kR K)), (aI G 5 (kM K))])) (n2 := n) (st2 := [.int (bI (okR kd sr N r w))]) rfl rfl rfl rfl ?_
  refine r_if_neB (tgt := 25) C dX0_makeTurn_20 (by decide) (fun c20 => ?_) (fun c20 => ?_)
  · refine r_aload_n C dX0_makeTurn_25 rfl 1 rfl ?_
    refine r_iload_n C dX0_makeTurn_26 rfl 2 rfl ?_
    refine r_aload_n C dX0_makeTurn_27 rfl 0 rfl ?_
    refine r_get (Cn := RX2) (T := TX2) (N := 6) (v := .ref la) C inlX2 ((RW_ne (m := 6) rfl (by omega)).trans hc6) rfl 3 (by decide) wF_X0_61 (fun _ h => h) rfl dX0_makeTurn_28 ?_
    refine r_aload_n C dX0_makeTurn_31 rfl 1 rfl ?_
    refine r_iload_n C dX0_makeTurn_32 rfl 2 rfl ?_
    refine r_callV (As := [.int (nI k)]) C (c_X0_rankOf (k0 := k0) (K := K) (k := k) (RW_at0 rfl) (RW_at 4 rfl) (by omega)) wM_X0_53 wI_X0_rankOf wN_X0 wC_X0_rankOf wV_X0_rankOf hd_X0_rankOf ⟨Nat.le_of_ble_eq_true rfl, Nat.le_of_ble_eq_true rfl⟩ rfl (RW_at0 rfl) rfl rfl (Nat.le_of_ble_eq_true rfl) dX0_makeTurn_33 ⟨(Nat.le_of_ble_eq_true rfl), (Nat.le_of_ble_eq_true rfl)⟩ (fun rv n2 σ2 hp => ?_)
    obtain ⟨rfl, rfl, rfl⟩ := hp
    refine V.eq (σ2 := (RW σ k0 [(.inr (0, [.int (nI (kN K)), .int (nI (kH K)), .ref (k0 + 1), .ref (k0 + 2), .ref (k0 + 3), .ref (k0 + 4), .ref (k0 + 5)])), (aI G 3 (kT K)), (aI G 3 (kW K)), (aR 4 G 5 (kS K)), (aI G 5 (kR K)), (aI G 5 (kM K))])) (n2 := n) (st2 := [.int (kR K k), .ref la, .int (nI k), .ref k0]) rfl rfl rfl rfl ?_
    refine V.top (y := nI r) (hr9) ?_
    refine r_iload_n C dX0_makeTurn_36 rfl 3 rfl ?_
    refine r_callV (As := [.int (nI r), .int (nI w)]) C (c_X1_behind (la := la) (N := N) (cfl := cfl) (sb := (sid kd)) (f3 := f3) (r := r) (k := w) ((RW_ne (m := 6) rfl (by omega)).trans hc8) ((RW_ne (m := 6) rfl (by omega)).trans hc9) (by first | assumption | omega) (by first | assumption | omega) (by first | assumption | omega) (hw1.1) (hw1.2)) wM_X0_65 wI_X1_behind wN_X1 wC_X1_behind wV_X1_behind hd_X1_behind ⟨Nat.le_of_ble_eq_true rfl, Nat.le_of_ble_eq_true rfl⟩ rfl ((RW_ne (m := 6) rfl (by omega)).trans hc8) rfl rfl (Nat.le_of_ble_eq_true rfl) dX0_makeTurn_37 ⟨(Nat.le_of_ble_eq_true rfl), (Nat.le_of_ble_eq_true rfl)⟩ (fun rv n2 σ2 hp => ?_)
    obtain ⟨rfl, rfl, rfl⟩ := hp
    refine V.eq (σ2 := (RW σ k0 [(.inr (0, [.int (nI (kN K)), .int (nI (kH K)), .ref (k0 + 1), .ref (k0 + 2), .ref (k0 + 3), .ref (k0 + 4), .ref (k0 + 5)])), (aI G 3 (kT K)), (aI G 3 (kW K)), (aR 4 G 5 (kS K)), (aI G 5 (kR K)), (aI G 5 (kM K))])) (n2 := n) (st2 := [.int (nI (nx (sid kd) N r w)), .int (nI k), .ref k0]) rfl rfl rfl rfl ?_
    refine r_callV (As := [.int (nI k), .int (nI (nx (sid kd) N r w))]) C (c_X0_putRank (k0 := k0) (K := K) (k := k) (x := nI (nx (sid kd) N r w)) (RW_at0 rfl) (RW_at 4 rfl) (by omega)) wM_X0_71 wI_X0_putRank wN_X0 wC_X0_putRank wV_X0_putRank hd_X0_putRank ⟨Nat.le_of_ble_eq_true rfl, Nat.le_of_ble_eq_true rfl⟩ rfl (RW_at0 rfl) rfl rfl (Nat.le_of_ble_eq_true rfl) dX0_makeTurn_40 ⟨(Nat.le_of_ble_eq_true rfl), (Nat.le_of_ble_eq_true rfl)⟩ (fun rv n2 σ2 hp => ?_)
    obtain ⟨rfl, rfl, rfl⟩ := hp
    refine V.eq (σ2 := (hU (RW σ k0 [(.inr (0, [.int (nI (kN K)), .int (nI (kH K)), .ref (k0 + 1), .ref (k0 + 2), .ref (k0 + 3), .ref (k0 + 4), .ref (k0 + 5)])), (aI G 3 (kT K)), (aI G 3 (kW K)), (aR 4 G 5 (kS K)), (aI G 5 (kR K)), (aI G 5 (kM K))]) (k0 + 4) (aI G 5 (upd (kR K) k (nI (nx (sid kd) N r w)))))) (n2 := n) (st2 := []) rfl rfl rfl rfl ?_
    refine V.hp (σ2 := (RW σ k0 [(.inr (0, [.int (nI (kN K)), .int (nI (kH K)), .ref (k0 + 1), .ref (k0 + 2), .ref (k0 + 3), .ref (k0 + 4), .ref (k0 + 5)])), (aI G 3 (kT K)), (aI G 3 (kW K)), (aR 4 G 5 (kS K)), (aI G 5 (upd (kR K) k (nI (nx (sid kd) N r w)))), (aI G 5 (kM K))])) (RW_set 4 (Nat.le_of_ble_eq_true rfl) rfl) ?_
    refine r_aload_n C dX0_makeTurn_43 rfl 1 rfl ?_
    refine r_get (Cn := RX0) (T := TX0) (N := 7) (v := .ref (k0 + 5)) C inlX0 (RW_at0 rfl) rfl 6 (by decide) wF_X0_34 (fun _ h => h) rfl dX0_makeTurn_44 ?_
    refine r_iload_n C dX0_makeTurn_47 rfl 2 rfl ?_
    refine r_aload_n C dX0_makeTurn_48 rfl 1 rfl ?_
    refine r_iload_n C dX0_makeTurn_49 rfl 2 rfl ?_
    refine r_callV (As := [.int (nI k)]) C (c_X0_madeOf (k0 := k0) (K := K) (k := k) (RW_at0 rfl) (RW_at 5 rfl) (by omega)) wM_X0_75 wI_X0_madeOf wN_X0 wC_X0_madeOf wV_X0_madeOf hd_X0_madeOf ⟨Nat.le_of_ble_eq_true rfl, Nat.le_of_ble_eq_true rfl⟩ rfl (RW_at0 rfl) rfl rfl (Nat.le_of_ble_eq_true rfl) dX0_makeTurn_50 ⟨(Nat.le_of_ble_eq_true rfl), (Nat.le_of_ble_eq_true rfl)⟩ (fun rv n2 σ2 hp => ?_)
    obtain ⟨rfl, rfl, rfl⟩ := hp
    refine V.eq (σ2 := (RW σ k0 [(.inr (0, [.int (nI (kN K)), .int (nI (kH K)), .ref (k0 + 1), .ref (k0 + 2), .ref (k0 + 3), .ref (k0 + 4), .ref (k0 + 5)])), (aI G 3 (kT K)), (aI G 3 (kW K)), (aR 4 G 5 (kS K)), (aI G 5 (upd (kR K) k (nI (nx (sid kd) N r w)))), (aI G 5 (kM K))])) (n2 := n) (st2 := [.int (kM K k), .int (nI k), .ref (k0 + 5)]) rfl rfl rfl rfl ?_
    refine r_iconst (v := nI 1) C dX0_makeTurn_53 (by decide) ?_
    refine r_iadd C dX0_makeTurn_54 ?_
    refine r_callSN (As := [.ref (k0 + 5), .int (nI k), .int ((kM K k) + (nI 1))]) C (c_X6_put (a := k0 + 5) (len := 5) (f := kM K) (i := k) (x := (kM K k) + (nI 1)) (RW_at 5 rfl) (by omega) (by first | assumption | omega)) wZ_X0_45 wS_X6_put wN_X6 wC_X6_put hd_X6_put ⟨Nat.le_of_ble_eq_true rfl, Nat.le_of_ble_eq_true rfl⟩ rfl rfl (Nat.le_of_ble_eq_true rfl) dX0_makeTurn_55 ⟨(Nat.le_of_ble_eq_true rfl), (Nat.le_of_ble_eq_true rfl)⟩ (fun rv n2 σ2 hp => ?_)
    obtain ⟨rfl, rfl, rfl⟩ := hp
    refine V.eq (σ2 := (hU (RW σ k0 [(.inr (0, [.int (nI (kN K)), .int (nI (kH K)), .ref (k0 + 1), .ref (k0 + 2), .ref (k0 + 3), .ref (k0 + 4), .ref (k0 + 5)])), (aI G 3 (kT K)), (aI G 3 (kW K)), (aR 4 G 5 (kS K)), (aI G 5 (upd (kR K) k (nI (nx (sid kd) N r w)))), (aI G 5 (kM K))]) (k0 + 5) (aI G 5 (upd (kM K) k ((kM K k) + (nI 1)))))) (n2 := n) (st2 := []) rfl rfl rfl rfl ?_
    refine V.hp (σ2 := (RW σ k0 [(.inr (0, [.int (nI (kN K)), .int (nI (kH K)), .ref (k0 + 1), .ref (k0 + 2), .ref (k0 + 3), .ref (k0 + 4), .ref (k0 + 5)])), (aI G 3 (kT K)), (aI G 3 (kW K)), (aR 4 G 5 (kS K)), (aI G 5 (upd (kR K) k (nI (nx (sid kd) N r w)))), (aI G 5 (upd (kM K) k ((kM K k) + (nI 1))))])) (RW_set 5 (Nat.le_of_ble_eq_true rfl) rfl) ?_
    refine r_aload_n C dX0_makeTurn_58 rfl 1 rfl ?_
    refine r_get (Cn := RX0) (T := TX0) (N := 7) (v := .ref (k0 + 1)) C inlX0 (RW_at0 rfl) rfl 2 (by decide) wF_X0_18 (fun _ h => h) rfl dX0_makeTurn_59 ?_
    refine r_aload_n C dX0_makeTurn_62 rfl 1 rfl ?_
    refine r_get (Cn := RX0) (T := TX0) (N := 7) (v := .int (nI (kH K))) C inlX0 (RW_at0 rfl) rfl 1 (by decide) wF_X0_15 (fun _ h => h) rfl dX0_makeTurn_63 ?_
    refine r_aload_n C dX0_makeTurn_66 rfl 1 rfl ?_
    refine r_get (Cn := RX0) (T := TX0) (N := 7) (v := .ref (k0 + 1)) C inlX0 (RW_at0 rfl) rfl 2 (by decide) wF_X0_18 (fun _ h => h) rfl dX0_makeTurn_67 ?_
    refine r_aload_n C dX0_makeTurn_70 rfl 1 rfl ?_
    refine r_get (Cn := RX0) (T := TX0) (N := 7) (v := .int (nI (kH K))) C inlX0 (RW_at0 rfl) rfl 1 (by decide) wF_X0_15 (fun _ h => h) rfl dX0_makeTurn_71 ?_
    refine r_callSN (As := [.ref (k0 + 1), .int (nI (kH K))]) C (c_X6_at_y (a := k0 + 1) (len := 3) (f := kT K) (i := kH K) (RW_at 1 rfl) (by omega) (by first | assumption | omega)) wZ_X0_41 wS_X6_at wN_X6 wC_X6_at hd_X6_at ⟨Nat.le_of_ble_eq_true rfl, Nat.le_of_ble_eq_true rfl⟩ rfl rfl (Nat.le_of_ble_eq_true rfl) dX0_makeTurn_74 ⟨(Nat.le_of_ble_eq_true rfl), (Nat.le_of_ble_eq_true rfl)⟩ (fun rv n2 σ2 hp => ?_)
    obtain ⟨rfl, rfl, rfl⟩ := hp
    refine V.eq (σ2 := (RW σ k0 [(.inr (0, [.int (nI (kN K)), .int (nI (kH K)), .ref (k0 + 1), .ref (k0 + 2), .ref (k0 + 3), .ref (k0 + 4), .ref (k0 + 5)])), (aI G 3 (kT K)), (aI G 3 (kW K)), (aR 4 G 5 (kS K)), (aI G 5 (upd (kR K) k (nI (nx (sid kd) N r w)))), (aI G 5 (upd (kM K) k ((kM K k) + (nI 1))))])) (n2 := n) (st2 := [.int ((kT K) (kH K)), .int (nI (kH K)), .ref (k0 + 1)]) rfl rfl rfl rfl ?_
    refine r_iconst (v := nI 1) C dX0_makeTurn_77 (by decide) ?_
    refine r_iadd C dX0_makeTurn_78 ?_
    refine r_callSN (As := [.ref (k0 + 1), .int (nI (kH K)), .int (((kT K) (kH K)) + (nI 1))]) C (c_X6_put (a := k0 + 1) (len := 3) (f := kT K) (i := kH K) (x := ((kT K) (kH K)) + (nI 1)) (RW_at 1 rfl) (by omega) (by first | assumption | omega)) wZ_X0_45 wS_X6_put wN_X6 wC_X6_put hd_X6_put ⟨Nat.le_of_ble_eq_true rfl, Nat.le_of_ble_eq_true rfl⟩ rfl rfl (Nat.le_of_ble_eq_true rfl) dX0_makeTurn_79 ⟨(Nat.le_of_ble_eq_true rfl), (Nat.le_of_ble_eq_true rfl)⟩ (fun rv n2 σ2 hp => ?_)
    obtain ⟨rfl, rfl, rfl⟩ := hp
    refine V.eq (σ2 := (hU (RW σ k0 [(.inr (0, [.int (nI (kN K)), .int (nI (kH K)), .ref (k0 + 1), .ref (k0 + 2), .ref (k0 + 3), .ref (k0 + 4), .ref (k0 + 5)])), (aI G 3 (kT K)), (aI G 3 (kW K)), (aR 4 G 5 (kS K)), (aI G 5 (upd (kR K) k (nI (nx (sid kd) N r w)))), (aI G 5 (upd (kM K) k ((kM K k) + (nI 1))))]) (k0 + 1) (aI G 3 (upd (kT K) (kH K) (((kT K) (kH K)) + (nI 1)))))) (n2 := n) (st2 := []) rfl rfl rfl rfl ?_
    refine V.hp (σ2 := (RW σ k0 [(.inr (0, [.int (nI (kN K)), .int (nI (kH K)), .ref (k0 + 1), .ref (k0 + 2), .ref (k0 + 3), .ref (k0 + 4), .ref (k0 + 5)])), (aI G 3 (upd (kT K) (kH K) (((kT K) (kH K)) + (nI 1)))), (aI G 3 (kW K)), (aR 4 G 5 (kS K)), (aI G 5 (upd (kR K) k (nI (nx (sid kd) N r w)))), (aI G 5 (upd (kM K) k ((kM K k) + (nI 1))))])) (RW_set 1 (Nat.le_of_ble_eq_true rfl) rfl) ?_
    refine r_aload_n C dX0_makeTurn_82 rfl 1 rfl ?_
    refine r_get (Cn := RX0) (T := TX0) (N := 7) (v := .ref (k0 + 2)) C inlX0 (RW_at0 rfl) rfl 3 (by decide) wF_X0_22 (fun _ h => h) rfl dX0_makeTurn_83 ?_
    refine r_aload_n C dX0_makeTurn_86 rfl 1 rfl ?_
    refine r_get (Cn := RX0) (T := TX0) (N := 7) (v := .int (nI (kH K))) C inlX0 (RW_at0 rfl) rfl 1 (by decide) wF_X0_15 (fun _ h => h) rfl dX0_makeTurn_87 ?_
    refine r_aload_n C dX0_makeTurn_90 rfl 1 rfl ?_
    refine r_get (Cn := RX0) (T := TX0) (N := 7) (v := .ref (k0 + 2)) C inlX0 (RW_at0 rfl) rfl 3 (by decide) wF_X0_22 (fun _ h => h) rfl dX0_makeTurn_91 ?_
    refine r_aload_n C dX0_makeTurn_94 rfl 1 rfl ?_
    refine r_get (Cn := RX0) (T := TX0) (N := 7) (v := .int (nI (kH K))) C inlX0 (RW_at0 rfl) rfl 1 (by decide) wF_X0_15 (fun _ h => h) rfl dX0_makeTurn_95 ?_
    refine r_callSN (As := [.ref (k0 + 2), .int (nI (kH K))]) C (c_X6_at_y (a := k0 + 2) (len := 3) (f := kW K) (i := kH K) (RW_at 2 rfl) (by omega) (by first | assumption | omega)) wZ_X0_41 wS_X6_at wN_X6 wC_X6_at hd_X6_at ⟨Nat.le_of_ble_eq_true rfl, Nat.le_of_ble_eq_true rfl⟩ rfl rfl (Nat.le_of_ble_eq_true rfl) dX0_makeTurn_98 ⟨(Nat.le_of_ble_eq_true rfl), (Nat.le_of_ble_eq_true rfl)⟩ (fun rv n2 σ2 hp => ?_)
    obtain ⟨rfl, rfl, rfl⟩ := hp
    refine V.eq (σ2 := (RW σ k0 [(.inr (0, [.int (nI (kN K)), .int (nI (kH K)), .ref (k0 + 1), .ref (k0 + 2), .ref (k0 + 3), .ref (k0 + 4), .ref (k0 + 5)])), (aI G 3 (upd (kT K) (kH K) (((kT K) (kH K)) + (nI 1)))), (aI G 3 (kW K)), (aR 4 G 5 (kS K)), (aI G 5 (upd (kR K) k (nI (nx (sid kd) N r w)))), (aI G 5 (upd (kM K) k ((kM K k) + (nI 1))))])) (n2 := n) (st2 := [.int ((kW K) (kH K)), .int (nI (kH K)), .ref (k0 + 2)]) rfl rfl rfl rfl ?_
    refine r_iload_n C dX0_makeTurn_101 rfl 3 rfl ?_
    refine r_iadd C dX0_makeTurn_102 ?_
    refine r_callSN (As := [.ref (k0 + 2), .int (nI (kH K)), .int (((kW K) (kH K)) + (nI w))]) C (c_X6_put (a := k0 + 2) (len := 3) (f := kW K) (i := kH K) (x := ((kW K) (kH K)) + (nI w)) (RW_at 2 rfl) (by omega) (by first | assumption | omega)) wZ_X0_45 wS_X6_put wN_X6 wC_X6_put hd_X6_put ⟨Nat.le_of_ble_eq_true rfl, Nat.le_of_ble_eq_true rfl⟩ rfl rfl (Nat.le_of_ble_eq_true rfl) dX0_makeTurn_103 ⟨(Nat.le_of_ble_eq_true rfl), (Nat.le_of_ble_eq_true rfl)⟩ (fun rv n2 σ2 hp => ?_)
    obtain ⟨rfl, rfl, rfl⟩ := hp
    refine V.eq (σ2 := (hU (RW σ k0 [(.inr (0, [.int (nI (kN K)), .int (nI (kH K)), .ref (k0 + 1), .ref (k0 + 2), .ref (k0 + 3), .ref (k0 + 4), .ref (k0 + 5)])), (aI G 3 (upd (kT K) (kH K) (((kT K) (kH K)) + (nI 1)))), (aI G 3 (kW K)), (aR 4 G 5 (kS K)), (aI G 5 (upd (kR K) k (nI (nx (sid kd) N r w)))), (aI G 5 (upd (kM K) k ((kM K k) + (nI 1))))]) (k0 + 2) (aI G 3 (upd (kW K) (kH K) (((kW K) (kH K)) + (nI w)))))) (n2 := n) (st2 := []) rfl rfl rfl rfl ?_
    refine V.hp (σ2 := (RW σ k0 [(.inr (0, [.int (nI (kN K)), .int (nI (kH K)), .ref (k0 + 1), .ref (k0 + 2), .ref (k0 + 3), .ref (k0 + 4), .ref (k0 + 5)])), (aI G 3 (upd (kT K) (kH K) (((kT K) (kH K)) + (nI 1)))), (aI G 3 (upd (kW K) (kH K) (((kW K) (kH K)) + (nI w)))), (aR 4 G 5 (kS K)), (aI G 5 (upd (kR K) k (nI (nx (sid kd) N r w)))), (aI G 5 (upd (kM K) k ((kM K k) + (nI 1))))])) (RW_set 2 (Nat.le_of_ble_eq_true rfl) rfl) ?_
    have L127 : ∀ (h2 : Nat), (h2 = if kH K + 1 < 3 then kH K + 1 else 0) → V p l e rm_X0_makeTurn_y s m args below meth c G 4 (MQ below (gQ G po) args s rm_X0_makeTurn_y.cells rm_X0_makeTurn_y.slots (gF G)) 0 0 n (RW σ k0 [(.inr (0, [.int (nI (kN K)), .int (nI (kH K)), .ref (k0 + 1), .ref (k0 + 2), .ref (k0 + 3), .ref (k0 + 4), .ref (k0 + 5)])), (aI G 3 (upd (kT K) (kH K) (((kT K) (kH K)) + (nI 1)))), (aI G 3 (upd (kW K) (kH K) (((kW K) (kH K)) + (nI w)))), (aR 4 G 5 (kS K)), (aI G 5 (upd (kR K) k (nI (nx (sid kd) N r w)))), (aI G 5 (upd (kM K) k ((kM K k) + (nI 1))))]) 127 [(0, .ref k0), (1, .int (nI k)), (2, .int (nI w)), (3, .ref sa)] [.int (nI h2), .ref k0] := by
      intro h2 hh2
      refine r_put (Cn := RX0) (T := TX0) (N := 7) (fs2 := [.int (nI (kN K)), .int (nI h2), .ref (k0 + 1), .ref (k0 + 2), .ref (k0 + 3), .ref (k0 + 4), .ref (k0 + 5)]) C inlX0 tyX0 tyX0_ok nmX0 (RW_at0 rfl) rfl 1 (by decide) wF_X0_15 (fun _ h => h) rfl (tyX0_ok 1 (by decide)) rfl rfl (Nat.le_of_ble_eq_true rfl) rfl dX0_makeTurn_127 ?_
      refine V.hp (σ2 := (RW σ k0 [(.inr (0, [.int (nI (kN K)), .int (nI h2), .ref (k0 + 1), .ref (k0 + 2), .ref (k0 + 3), .ref (k0 + 4), .ref (k0 + 5)])), (aI G 3 (upd (kT K) (kH K) (((kT K) (kH K)) + (nI 1)))), (aI G 3 (upd (kW K) (kH K) (((kW K) (kH K)) + (nI w)))), (aR 4 G 5 (kS K)), (aI G 5 (upd (kR K) k (nI (nx (sid kd) N r w)))), (aI G 5 (upd (kM K) k ((kM K k) + (nI 1))))])) (RW_set0 (Nat.le_of_ble_eq_true rfl) rfl) ?_
      refine r_iconst (v := nI 1) C dX0_makeTurn_130 (by decide) ?_
      exact r_zret C (by decide) hr hlocks (Nat.le_of_ble_eq_true rfl) (Nat.le_of_ble_eq_true rfl) dX0_makeTurn_131 (hpo _ _ _ ⟨bI_t (by first | assumption | (simp; omega) | simp_all), rfl, by rw [hh2]; rfl⟩)
    refine r_aload_n C dX0_makeTurn_106 rfl 1 rfl ?_
    refine r_aload_n C dX0_makeTurn_107 rfl 1 rfl ?_
    refine r_get (Cn := RX0) (T := TX0) (N := 7) (v := .int (nI (kH K))) C inlX0 (RW_at0 rfl) rfl 1 (by decide) wF_X0_15 (fun _ h => h) rfl dX0_makeTurn_108 ?_
    refine r_iconst (v := nI 1) C dX0_makeTurn_111 (by decide) ?_
    refine r_iaddN C dX0_makeTurn_112 ?_
    refine r_iconst (v := nI 3) C dX0_makeTurn_113 (by decide) ?_
    refine r_icmp_geN (tgt := 126) C dX0_makeTurn_114 (by decide) (by omega) (by decide) (fun c114 => ?_) (fun c114 => ?_)
    · refine r_iconst (v := nI 0) C dX0_makeTurn_126 (by decide) ?_
      refine V.sub (lv2 := [(0, .ref k0), (1, .int (nI k)), (2, .int (nI w)), (3, .ref sa)]) [1, 2, 3, 0] rfl ?_
      exact L127 0 (by first | (rw [if_pos (by omega)]; done) | (rw [if_neg (by omega)]; done))
    · refine r_aload_n C dX0_makeTurn_117 rfl 1 rfl ?_
      refine r_get (Cn := RX0) (T := TX0) (N := 7) (v := .int (nI (kH K))) C inlX0 (RW_at0 rfl) rfl 1 (by decide) wF_X0_15 (fun _ h => h) rfl dX0_makeTurn_118 ?_
      refine r_iconst (v := nI 1) C dX0_makeTurn_121 (by decide) ?_
      refine r_iaddN C dX0_makeTurn_122 ?_
      refine r_goto (tgt := 127) C dX0_makeTurn_123 (by decide) ?_
      refine V.sub (lv2 := [(0, .ref k0), (1, .int (nI k)), (2, .int (nI w)), (3, .ref sa)]) [1, 2, 3, 0] rfl ?_
      exact L127 (kH K + 1) (by first | (rw [if_pos (by omega)]; done) | (rw [if_neg (by omega)]; done))
  · exact absurd (hok.symm.trans c20) (by decide)
