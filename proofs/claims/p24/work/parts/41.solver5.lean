def cF (bw : Bool) (m : Nat) : Nat := if bw = true then m else 1
theorem cF_b {bw : Bool} {m N : Nat} (h1 : 1 ≤ m) (h2 : m ≤ N) (h3 : N ≤ 6) : 1 ≤ cF bw m ∧ cF bw m ≤ 6 := by
  unfold cF
  split <;> omega
/-- costs lowered from a rank k by the turns 1 .. i -/
def SPR (bw : Bool) (kd sr N k : Nat) (d0 : Nat → Nat) (i : Nat) (d : Nat → Nat) (g : Nat) : Prop :=
  d k = d0 k ∧ (∀ r, r < rR (sid kd) N → d r ≤ d0 r) ∧ (∀ r, r < rR (sid kd) N → d r = d0 r ∨ ∃ m, ed kd sr N r m k ∧ d r = d0 k + cF bw m ∧ d0 k + cF bw m ≤ g ∧ d r < d0 r) ∧ (∀ m, 1 ≤ m → m ≤ i → aR1 kd sr N (nx (sid kd) N k m) m = true → d (nx (sid kd) N k m) ≤ d0 k + cF bw m) ∧ g ≤ d0 k + 6
theorem SPR.init {bw : Bool} {kd sr N k : Nat} {d0 : Nat → Nat} : SPR bw kd sr N k d0 0 d0 0 := ⟨rfl, fun _ _ => Nat.le_refl _, fun _ _ => Or.inl rfl, fun m h1 h2 => absurd h2 (by omega), Nat.zero_le _⟩
theorem spr_no {bw : Bool} {kd sr N k i g : Nat} {d0 d : Nat → Nat} (h : SPR bw kd sr N k d0 i d g) (hs : aR1 kd sr N (nx (sid kd) N k (i + 1)) (i + 1) = false ∨ d (nx (sid kd) N k (i + 1)) ≤ d0 k + cF bw (i + 1)) : SPR bw kd sr N k d0 (i + 1) d g := by
  obtain ⟨h1, h2, h3, h4, h5⟩ := h
  refine ⟨h1, h2, h3, fun m m1 m2 ha => ?_, h5⟩
  rcases Nat.lt_or_eq_of_le m2 with e | e
  · exact h4 m m1 (by omega) ha
  · subst e
    rcases hs with hs | hs
    · rw [ha] at hs; cases hs
    · exact hs
theorem spr_set {bw : Bool} {kd sr N k i g cm : Nat} {d0 d : Nat → Nat} (hN : N ≤ 6) (hk : k < rR (sid kd) N) (h : SPR bw kd sr N k d0 i d g) (hi : i + 1 ≤ N) (hcm : cm = cF bw (i + 1)) (ha : aR1 kd sr N (nx (sid kd) N k (i + 1)) (i + 1) = true) (hl : d k + cm < d (nx (sid kd) N k (i + 1))) :
    SPR bw kd sr N k d0 (i + 1) (va_up d (nx (sid kd) N k (i + 1)) (d k + cm)) (max g (d k + cm)) := by
  obtain ⟨h1, h2, h3, h4, h5⟩ := h
  have hc := cF_b (bw := bw) (show 1 ≤ i + 1 by omega) hi hN
  have hb := nx_in hN hk hi
  generalize hx : nx (sid kd) N k (i + 1) = x at *
  have hxk : k ≠ x := fun z => by rw [← z] at hl; omega
  have e1 : va_up d x (d k + cm) x = d k + cm := by simp [va_up]
  have e2 : ∀ r, r ≠ x → va_up d x (d k + cm) r = d r := fun r hr => by simp [va_up, hr]
  have hmx : g ≤ max g (d k + cm) ∧ d k + cm ≤ max g (d k + cm) := ⟨Nat.le_max_left _ _, Nat.le_max_right _ _⟩
  refine ⟨by rw [e2 k hxk, h1], fun r hr => ?_, fun r hr => ?_, fun m m1 m2 hm => ?_, ?_⟩
  · by_cases e : r = x
    · subst e; rw [e1]; have := h2 r hr; omega
    · rw [e2 r e]; exact h2 r hr
  · by_cases e : r = x
    · subst e
      rw [e1]
      have := h2 r hr
      exact Or.inr ⟨i + 1, ⟨by omega, hi, ha, hb⟩, by omega, by omega, by omega⟩
    · rw [e2 r e]
      rcases h3 r hr with g1 | ⟨m, g1, g2, g3, g4⟩
      · exact Or.inl g1
      · exact Or.inr ⟨m, g1, g2, by omega, g4⟩
  · by_cases e : nx (sid kd) N k m = x
    · rw [e, e1]
      rcases Nat.lt_or_eq_of_le m2 with e3 | e3
      · have := h4 m m1 (by omega) hm
        rw [e] at this
        omega
      · subst e3; omega
    · rw [e2 _ e]
      rcases Nat.lt_or_eq_of_le m2 with e3 | e3
      · exact h4 m m1 (by omega) hm
      · subst e3; exact absurd hx e
  · have : d k + cm ≤ d0 k + 6 := by omega
    exact Nat.max_le.mpr ⟨h5, this⟩
theorem cI_none {d : Nat} (hb : d ≤ 1000000) (h : cI d = -1) : d = 1000000 := by
  rw [cI] at h
  split at h
  · assumption
  · exact absurd h (nI_m1n (by omega))
theorem upd_cI {f : Nat → Int32} {d : Nat → Nat} {R x v : Nat} (h : ∀ r, r < R → f r = cI (d r)) (hv : v < 1000000) : ∀ r, r < R → upd f x (nI v) r = cI (va_up d x v r) := fun r hr => by
  by_cases e : r = x
  · subst e
    rw [pk_us, show va_up d r v r = v by simp [va_up], cI_n hv]
  · rw [pk_un e, h r hr]
    simp [va_up, e]
theorem mx_N {x y : Nat} (hx : x < 2 ^ 31) (hy : y < 2 ^ 31) : (if nI x < nI y then nI y else nI x) = nI (max x y) := by
  by_cases h : x < y
  · rw [if_pos ((nI_ltI hx hy).mpr h), Nat.max_eq_right (Nat.le_of_lt h)]
  · rw [if_neg (fun z => h ((nI_ltI hx hy).mp z)), Nat.max_eq_left (Nat.le_of_not_lt h)]

abbrev rm_X4_spreadCost : Room := { frames := 2, cells := 0, slots := 0, locals := 60 }
set_option maxRecDepth 100000 in
set_option maxHeartbeats 4000000 in
theorem c_X4_spreadCost {l : Launch} {G : gG} {n : Nat} {σ : gS} {va sa la : Nat} {kd N sr cfl : Nat} {sv : Value} {tk wk : Bool} {f3 : Nat → Int32} {f5 : Nat → Int32} {ca : Nat} {f6 : Nat → Int32} {bw : Bool} {k : Nat} {d0 : Nat → Nat} (hc0 : σ va = some (.inr (4, [.ref sa, .ref la, .ref (va + 1), .int (bI tk), .ref (va + 2), .int (bI wk)]))) (hc1 : σ sa = some (.inr (2, [.int (nI kd), .int (nI sr), .int (nI N), .ref la, .ref (sa + 1), sv]))) (hc2 : σ (sa + 1) = some (aI G (rR (sid kd) N) f5)) (hc3 : σ la = some (.inr (1, [.int (nI N), .int (nI (rR (sid kd) N)), .int (nI (sbN (sid kd) N)), .int (nI (sm (sid kd) N - 1)), .ref (la + 1), .ref (la + 2), .ref (la + 3), .ref (la + 4)]))) (hc4 : σ (la + 3) = some (aI G (rR (sid kd) N * N) f3)) (hc5 : σ ca = some (aI G (rR (sid kd) N) f6)) (hL : LOK (sid kd) N) (h5 : ∀ r, r < rR (sid kd) N → f5 r = nI (psR kd sr N r)) (h3 : ∀ r, r < rR (sid kd) N → ∀ k, 1 ≤ k → k ≤ N → f3 (r * N + k - 1) = nI (nx (sid kd) N r k)) (hap : va ≠ ca ∧ sa ≠ ca ∧ sa + 1 ≠ ca ∧ la ≠ ca ∧ la + 3 ≠ ca) (hrk : k < rR (sid kd) N) (h6 : ∀ r, r < rR (sid kd) N → f6 r = cI (d0 r)) (hd0 : ∀ r, r < rR (sid kd) N → d0 r ≤ 1000000) (hdk : d0 k ≤ 19200) : GM l G yX4_spreadCost cX4_spreadCost 9 (some .int) rm_X4_spreadCost n σ [.ref va, .ref ca, .int (nI k), .int (bI bw)] (fun rv n2 σ2 => ∃ (g2 : Nat) (d2 : Nat → Nat) (g6 : Nat → Int32), some (.int (nI g2)) = rv ∧ n = n2 ∧ (RW σ ca [(aI G (rR (sid kd) N) g6)]) = σ2 ∧ (∀ r, r < rR (sid kd) N → g6 r = cI (d2 r)) ∧ (SPR bw kd sr N k d0 N d2 g2)) := by
  refine GM.intro (by decide +kernel) (Nat.le_of_ble_eq_true rfl) (fun p e s m args below meth c C hr hlocks hname po hpo => ?_)
  have C : Cx p s m args c cX4_spreadCost 9 RX4 G := C
  have hb9 := hL.b
  refine V.hp (σ2 := (RW σ ca [(aI G (rR (sid kd) N) f6)])) (RW_cons hc5 (RW_nil _ _)).symm ?_
  refine r_iconst (v := nI 0) C dX4_spreadCost_0 (by decide) ?_
  refine r_istore (lv2 := [(4, .int (nI 0)), (0, .ref va), (1, .ref ca), (2, .int (nI k)), (3, .int (bI bw))]) C dX4_spreadCost_1 (by decide) rfl ?_
  refine r_iconst (v := nI 1) C dX4_spreadCost_3 (by decide) ?_
  refine r_istore (lv2 := [(5, .int (nI 1)), (4, .int (nI 0)), (0, .ref va), (1, .ref ca), (2, .int (nI k)), (3, .int (bI bw))]) C dX4_spreadCost_4 (by decide) rfl ?_
  have L6 : ∀ (fu : Nat) (i : Nat) (w6 : Nat → Int32) (d9 : Nat → Nat) (g : Nat), (i ≤ N) → (∀ r, r < rR (sid kd) N → w6 r = cI (d9 r)) → (SPR bw kd sr N k d0 i d9 g) → (N + 1 - i) < fu → V p l e rm_X4_spreadCost s m args below meth c G 9 (MQ below (gQ G po) args s rm_X4_spreadCost.cells rm_X4_spreadCost.slots (gF G)) 0 0 n (RW σ ca [(aI G (rR (sid kd) N) w6)]) 6 [(0, .ref va), (1, .ref ca), (2, .int (nI k)), (3, .int (bI bw)), (4, .int (nI g)), (5, .int (nI (i + 1)))] [] := by
    intro fu
    induction fu with
    | zero => intro i w6 d9 g hi hw6 hS hm; exact absurd hm (Nat.not_lt_zero _)
    | succ fu ih6 =>
      intro i w6 d9 g hi hw6 hS hm6
      have hSk := hS.1
      have hSg := hS.2.2.2.2
      refine r_iload C dX4_spreadCost_6 5 rfl ?_
      refine r_aload_n C dX4_spreadCost_8 rfl 0 rfl ?_
      refine r_get (Cn := RX4) (T := TX4) (N := 6) (v := .ref sa) C inlX4 ((RW_ne (m := 1) rfl (by omega)).trans hc0) rfl 0 (by decide) wF_X4_18 (fun _ h => h) rfl dX4_spreadCost_9 ?_
      refine r_get (Cn := RX2) (T := TX2) (N := 6) (v := .int (nI N)) C inlX2 ((RW_ne (m := 1) rfl (by omega)).trans hc1) rfl 2 (by decide) wF_X4_65 (fun _ h => h) rfl dX4_spreadCost_12 ?_
      refine r_icmp_gtN (tgt := 106) C dX4_spreadCost_15 (by decide) (by omega) (by omega) (fun c15 => ?_) (fun c15 => ?_)
      · have hiN : i = N := by omega
        refine r_iload C dX4_spreadCost_106 4 rfl ?_
        exact r_iret C hr hlocks (Nat.le_of_ble_eq_true rfl) (Nat.le_of_ble_eq_true rfl) dX4_spreadCost_108 (hpo _ _ _ ⟨g, d9, w6, rfl, rfl, rfl, hw6, hiN ▸ hS⟩)
      · have hxl := nx_lt hL.2.1 hrk (show i + 1 ≤ N by omega)
        refine r_aload_n C dX4_spreadCost_18 rfl 0 rfl ?_
        refine r_get (Cn := RX4) (T := TX4) (N := 6) (v := .ref la) C inlX4 ((RW_ne (m := 1) rfl (by omega)).trans hc0) rfl 1 (by decide) wF_X4_28 (fun _ h => h) rfl dX4_spreadCost_19 ?_
        refine r_iload_n C dX4_spreadCost_22 rfl 2 rfl ?_
        refine r_iload C dX4_spreadCost_23 5 rfl ?_
        refine r_callV (As := [.int (nI k), .int (nI (i + 1))]) C (c_X1_behind (la := la) (N := N) (cfl := cfl) (sb := (sid kd)) (f3 := f3) (r := k) (k := i + 1) ((RW_ne (m := 1) rfl (by omega)).trans hc3) ((RW_ne (m := 1) rfl (by omega)).trans hc4) (by first | assumption | omega) (by first | assumption | omega) (by first | assumption | omega) (by first | assumption | omega) (by first | assumption | omega)) wM_X4_62 wI_X1_behind wN_X1 wC_X1_behind wV_X1_behind hd_X1_behind ⟨Nat.le_of_ble_eq_true rfl, Nat.le_of_ble_eq_true rfl⟩ rfl ((RW_ne (m := 1) rfl (by omega)).trans hc3) rfl rfl (Nat.le_of_ble_eq_true rfl) dX4_spreadCost_25 ⟨(Nat.le_of_ble_eq_true rfl), (Nat.le_of_ble_eq_true rfl)⟩ (fun rv n2 σ2 hp => ?_)
        obtain ⟨rfl, rfl, rfl⟩ := hp
        refine V.eq (σ2 := (RW σ ca [(aI G (rR (sid kd) N) w6)])) (n2 := n) (st2 := [.int (nI (nx (sid kd) N k (i + 1)))]) rfl rfl rfl rfl ?_
        refine r_istore (lv2 := [(6, .int (nI (nx (sid kd) N k (i + 1)))), (0, .ref va), (1, .ref ca), (2, .int (nI k)), (3, .int (bI bw)), (4, .int (nI g)), (5, .int (nI (i + 1)))]) C dX4_spreadCost_28 (by decide) rfl ?_
        refine r_aload_n C dX4_spreadCost_30 rfl 2 rfl ?_
        refine r_iload_n C dX4_spreadCost_31 rfl 3 rfl ?_
        refine r_callSN (As := [.ref ca, .int (nI k)]) C (c_X6_at_y (a := ca) (len := rR (sid kd) N) (f := w6) (i := k) (RW_at0 rfl) (hrk) (by first | assumption | omega)) wZ_X4_50 wS_X6_at wN_X6 wC_X6_at hd_X6_at ⟨Nat.le_of_ble_eq_true rfl, Nat.le_of_ble_eq_true rfl⟩ rfl rfl (Nat.le_of_ble_eq_true rfl) dX4_spreadCost_32 ⟨(Nat.le_of_ble_eq_true rfl), (Nat.le_of_ble_eq_true rfl)⟩ (fun rv n2 σ2 hp => ?_)
        obtain ⟨rfl, rfl, rfl⟩ := hp
        refine V.eq (σ2 := (RW σ ca [(aI G (rR (sid kd) N) w6)])) (n2 := n) (st2 := [.int (w6 k)]) rfl rfl rfl rfl ?_
        refine V.top (y := nI (d9 k)) (by rw [hw6 k hrk, cI_n (by omega)]) ?_
        refine r_iload_n C dX4_spreadCost_35 rfl 4 rfl ?_
        have L45 : ∀ (cm : Nat), (cm = cF bw (i + 1)) → (1 ≤ cm ∧ cm ≤ 6) → V p l e rm_X4_spreadCost s m args below meth c G 9 (MQ below (gQ G po) args s rm_X4_spreadCost.cells rm_X4_spreadCost.slots (gF G)) 0 0 n (RW σ ca [(aI G (rR (sid kd) N) w6)]) 45 [(0, .ref va), (1, .ref ca), (2, .int (nI k)), (3, .int (bI bw)), (4, .int (nI g)), (5, .int (nI (i + 1))), (6, .int (nI (nx (sid kd) N k (i + 1))))] [.int (nI cm), .int (nI (d9 k))] := by
          intro cm hcm hcm6
          refine r_iaddN C dX4_spreadCost_45 ?_
          refine r_istore (lv2 := [(7, .int (nI (d9 k + cm))), (0, .ref va), (1, .ref ca), (2, .int (nI k)), (3, .int (bI bw)), (4, .int (nI g)), (5, .int (nI (i + 1))), (6, .int (nI (nx (sid kd) N k (i + 1))))]) C dX4_spreadCost_46 (by decide) rfl ?_
          refine r_aload_n C dX4_spreadCost_48 rfl 2 rfl ?_
          refine r_iload C dX4_spreadCost_49 7 rfl ?_
          refine r_callSN (As := [.ref ca, .int (nI (nx (sid kd) N k (i + 1)))]) C (c_X6_at_y (a := ca) (len := rR (sid kd) N) (f := w6) (i := nx (sid kd) N k (i + 1)) (RW_at0 rfl) (hxl) (by first | assumption | omega)) wZ_X4_50 wS_X6_at wN_X6 wC_X6_at hd_X6_at ⟨Nat.le_of_ble_eq_true rfl, Nat.le_of_ble_eq_true rfl⟩ rfl rfl (Nat.le_of_ble_eq_true rfl) dX4_spreadCost_51 ⟨(Nat.le_of_ble_eq_true rfl), (Nat.le_of_ble_eq_true rfl)⟩ (fun rv n2 σ2 hp => ?_)
          obtain ⟨rfl, rfl, rfl⟩ := hp
          refine V.eq (σ2 := (RW σ ca [(aI G (rR (sid kd) N) w6)])) (n2 := n) (st2 := [.int (w6 (nx (sid kd) N k (i + 1)))]) rfl rfl rfl rfl ?_
          refine V.top (y := cI (d9 (nx (sid kd) N k (i + 1)))) (hw6 _ hxl) ?_
          refine r_istore (lv2 := [(8, .int (cI (d9 (nx (sid kd) N k (i + 1))))), (7, .int (nI (d9 k + cm))), (0, .ref va), (1, .ref ca), (2, .int (nI k)), (3, .int (bI bw)), (4, .int (nI g)), (5, .int (nI (i + 1))), (6, .int (nI (nx (sid kd) N k (i + 1))))]) C dX4_spreadCost_54 (by decide) rfl ?_
          refine r_iload C dX4_spreadCost_56 0 rfl ?_
          refine r_iconst (v := (-1)) C dX4_spreadCost_58 (by decide) ?_
          refine r_icmp_eq (tgt := 69) C dX4_spreadCost_59 (by decide) (fun c59 => ?_) (fun c59 => ?_)
          · have c66 : d9 k + cm < d9 (nx (sid kd) N k (i + 1)) := by rw [cI_none (Nat.le_trans (hS.2.1 _ hxl) (hd0 _ hxl)) c59]; omega
            refine r_aload_n C dX4_spreadCost_69 rfl 2 rfl ?_
            refine r_get (Cn := RX4) (T := TX4) (N := 6) (v := .ref sa) C inlX4 ((RW_ne (m := 1) rfl (by omega)).trans hc0) rfl 0 (by decide) wF_X4_18 (fun _ h => h) rfl dX4_spreadCost_70 ?_
            refine r_iload C dX4_spreadCost_73 8 rfl ?_
            refine r_iload C dX4_spreadCost_75 7 rfl ?_
            refine r_callV (As := [.int (nI (nx (sid kd) N k (i + 1))), .int (nI (i + 1))]) C (c_X2_allows (sa := sa) (la := la) (kd := kd) (N := N) (sr := sr) (sv := sv) (f5 := f5) (r := nx (sid kd) N k (i + 1)) (k := i + 1) ((RW_ne (m := 1) rfl (by omega)).trans hc1) ((RW_ne (m := 1) rfl (by omega)).trans hc2) (by first | assumption | omega) (by first | assumption | omega) (hxl) (by omega)) wM_X4_68 wI_X2_allows wN_X2 wC_X2_allows wV_X2_allows hd_X2_allows ⟨Nat.le_of_ble_eq_true rfl, Nat.le_of_ble_eq_true rfl⟩ rfl ((RW_ne (m := 1) rfl (by omega)).trans hc1) rfl rfl (Nat.le_of_ble_eq_true rfl) dX4_spreadCost_77 ⟨(Nat.le_of_ble_eq_true rfl), (Nat.le_of_ble_eq_true rfl)⟩ (fun rv n2 σ2 hp => ?_)
            obtain ⟨rfl, rfl, rfl⟩ := hp
            refine V.eq (σ2 := (RW σ ca [(aI G (rR (sid kd) N) w6)])) (n2 := n) (st2 := [.int (bI (okR kd sr N (nx (sid kd) N k (i + 1)) (i + 1)))]) rfl rfl rfl rfl ?_
            refine r_if_eqB (tgt := 100) C dX4_spreadCost_80 (by decide) (fun c80 => ?_) (fun c80 => ?_)
            · refine r_iinc (v := nI (i + 2)) (lv2 := [(5, .int (nI (i + 2))), (8, .int (cI (d9 (nx (sid kd) N k (i + 1))))), (7, .int (nI (d9 k + cm))), (0, .ref va), (1, .ref ca), (2, .int (nI k)), (3, .int (bI bw)), (4, .int (nI g)), (6, .int (nI (nx (sid kd) N k (i + 1))))]) C dX4_spreadCost_100 (k := 7) rfl (nI_add _ 1) (by decide) rfl ?_
              refine r_goto (tgt := 6) C dX4_spreadCost_103 (by decide) ?_
              refine V.sub (lv2 := [(0, .ref va), (1, .ref ca), (2, .int (nI k)), (3, .int (bI bw)), (4, .int (nI g)), (5, .int (nI (i + 2)))]) [3, 4, 5, 6, 7, 0] rfl ?_
              refine V.eq (σ2 := (RW σ ca [(aI G (rR (sid kd) N) w6)])) (lv2 := [(0, .ref va), (1, .ref ca), (2, .int (nI k)), (3, .int (bI bw)), (4, .int (nI g)), (5, .int (nI ((i + 1) + 1)))]) (st2 := []) rfl rfl rfl rfl ?_
              exact ih6 (i + 1) w6 d9 g (by omega) (by first | exact hw6 | exact upd_cI hw6 (by omega)) (by first | exact spr_set hL.2.1 hrk hS (by omega) hcm c80a c66 | exact spr_no hS (Or.inr (by rw [← hcm, ← hSk]; omega)) | exact spr_no hS (Or.inl (okR_na c80 (by omega)))) (by omega)
            · have c80a : aR1 kd sr N (nx (sid kd) N k (i + 1)) (i + 1) = true := okR_al c80
              refine r_aload_n C dX4_spreadCost_83 rfl 3 rfl ?_
              refine r_iload C dX4_spreadCost_84 8 rfl ?_
              refine r_iload C dX4_spreadCost_86 1 rfl ?_
              refine r_callSN (As := [.ref ca, .int (nI (nx (sid kd) N k (i + 1))), .int (nI (d9 k + cm))]) C (c_X6_put (a := ca) (len := rR (sid kd) N) (f := w6) (i := nx (sid kd) N k (i + 1)) (x := nI (d9 k + cm)) (RW_at0 rfl) (hxl) (by first | assumption | omega)) wZ_X4_72 wS_X6_put wN_X6 wC_X6_put hd_X6_put ⟨Nat.le_of_ble_eq_true rfl, Nat.le_of_ble_eq_true rfl⟩ rfl rfl (Nat.le_of_ble_eq_true rfl) dX4_spreadCost_88 ⟨(Nat.le_of_ble_eq_true rfl), (Nat.le_of_ble_eq_true rfl)⟩ (fun rv n2 σ2 hp => ?_)
              obtain ⟨rfl, rfl, rfl⟩ := hp
              refine V.eq (σ2 := (hU (RW σ ca [(aI G (rR (sid kd) N) w6)]) ca (aI G (rR (sid kd) N) (upd w6 (nx (sid kd) N k (i + 1)) (nI (d9 k + cm)))))) (n2 := n) (st2 := []) rfl rfl rfl rfl ?_
              refine V.hp (σ2 := (RW σ ca [(aI G (rR (sid kd) N) (upd w6 (nx (sid kd) N k (i + 1)) (nI (d9 k + cm))))])) (RW_set0 (Nat.le_of_ble_eq_true rfl) rfl) ?_
              refine r_iload C dX4_spreadCost_91 6 rfl ?_
              refine r_iload C dX4_spreadCost_93 1 rfl ?_
              refine r_mmax C wM_X4_80 dX4_spreadCost_95 (mx_N (by omega) (by omega)) (Nat.le_of_ble_eq_true rfl) (Nat.le_of_ble_eq_true rfl) (Nat.le_of_ble_eq_true rfl) (Nat.le_of_ble_eq_true rfl) (Nat.le_of_ble_eq_true rfl) ?_
              refine r_istore (lv2 := [(4, .int (nI (max g (d9 k + cm)))), (8, .int (cI (d9 (nx (sid kd) N k (i + 1))))), (7, .int (nI (d9 k + cm))), (0, .ref va), (1, .ref ca), (2, .int (nI k)), (3, .int (bI bw)), (5, .int (nI (i + 1))), (6, .int (nI (nx (sid kd) N k (i + 1))))]) C dX4_spreadCost_98 (by decide) rfl ?_
              refine r_iinc (v := nI (i + 2)) (lv2 := [(5, .int (nI (i + 2))), (4, .int (nI (max g (d9 k + cm)))), (8, .int (cI (d9 (nx (sid kd) N k (i + 1))))), (7, .int (nI (d9 k + cm))), (0, .ref va), (1, .ref ca), (2, .int (nI k)), (3, .int (bI bw)), (6, .int (nI (nx (sid kd) N k (i + 1))))]) C dX4_spreadCost_100 (k := 7) rfl (nI_add _ 1) (by decide) rfl ?_
              refine r_goto (tgt := 6) C dX4_spreadCost_103 (by decide) ?_
              refine V.sub (lv2 := [(0, .ref va), (1, .ref ca), (2, .int (nI k)), (3, .int (bI bw)), (4, .int (nI (max g (d9 k + cm)))), (5, .int (nI (i + 2)))]) [4, 5, 6, 7, 1, 0] rfl ?_
              refine V.eq (σ2 := (RW σ ca [(aI G (rR (sid kd) N) (upd w6 (nx (sid kd) N k (i + 1)) (nI (d9 k + cm))))])) (lv2 := [(0, .ref va), (1, .ref ca), (2, .int (nI k)), (3, .int (bI bw)), (4, .int (nI (max g (d9 k + cm)))), (5, .int (nI ((i + 1) + 1)))]) (st2 := []) rfl rfl rfl rfl ?_
              exact ih6 (i + 1) (upd w6 (nx (sid kd) N k (i + 1)) (nI (d9 k + cm))) (va_up d9 (nx (sid kd) N k (i + 1)) (d9 k + cm)) (max g (d9 k + cm)) (by omega) (by first | exact hw6 | exact upd_cI hw6 (by omega)) (by first | exact spr_set hL.2.1 hrk hS (by omega) hcm c80a c66 | exact spr_no hS (Or.inr (by rw [← hcm, ← hSk]; omega)) | exact spr_no hS (Or.inl (okR_na c80 (by omega)))) (by omega)
          · have h59 : d9 (nx (sid kd) N k (i + 1)) ≠ 1000000 := fun z => c59 (by rw [z]; rfl)
            have hx9 : d9 (nx (sid kd) N k (i + 1)) ≤ 1000000 := Nat.le_trans (hS.2.1 _ hxl) (hd0 _ hxl)
            refine V.eq (lv2 := [(8, .int (nI (d9 (nx (sid kd) N k (i + 1))))), (7, .int (nI (d9 k + cm))), (0, .ref va), (1, .ref ca), (2, .int (nI k)), (3, .int (bI bw)), (4, .int (nI g)), (5, .int (nI (i + 1))), (6, .int (nI (nx (sid kd) N k (i + 1))))]) rfl rfl (by rw [(show cI (d9 (nx (sid kd) N k (i + 1))) = nI (d9 (nx (sid kd) N k (i + 1))) from cI_n (by omega))]) rfl ?_
            refine r_iload C dX4_spreadCost_62 0 rfl ?_
            refine r_iload C dX4_spreadCost_64 1 rfl ?_
            refine r_icmp_leN (tgt := 100) C dX4_spreadCost_66 (by decide) (by omega) (by omega) (fun c66 => ?_) (fun c66 => ?_)
            · refine r_iinc (v := nI (i + 2)) (lv2 := [(5, .int (nI (i + 2))), (8, .int (nI (d9 (nx (sid kd) N k (i + 1))))), (7, .int (nI (d9 k + cm))), (0, .ref va), (1, .ref ca), (2, .int (nI k)), (3, .int (bI bw)), (4, .int (nI g)), (6, .int (nI (nx (sid kd) N k (i + 1))))]) C dX4_spreadCost_100 (k := 7) rfl (nI_add _ 1) (by decide) rfl ?_
              refine r_goto (tgt := 6) C dX4_spreadCost_103 (by decide) ?_
              refine V.sub (lv2 := [(0, .ref va), (1, .ref ca), (2, .int (nI k)), (3, .int (bI bw)), (4, .int (nI g)), (5, .int (nI (i + 2)))]) [3, 4, 5, 6, 7, 0] rfl ?_
              refine V.eq (σ2 := (RW σ ca [(aI G (rR (sid kd) N) w6)])) (lv2 := [(0, .ref va), (1, .ref ca), (2, .int (nI k)), (3, .int (bI bw)), (4, .int (nI g)), (5, .int (nI ((i + 1) + 1)))]) (st2 := []) rfl rfl rfl rfl ?_
              exact ih6 (i + 1) w6 d9 g (by omega) (by first | exact hw6 | exact upd_cI hw6 (by omega)) (by first | exact spr_set hL.2.1 hrk hS (by omega) hcm c80a c66 | exact spr_no hS (Or.inr (by rw [← hcm, ← hSk]; omega)) | exact spr_no hS (Or.inl (okR_na c80 (by omega)))) (by omega)
            · refine r_aload_n C dX4_spreadCost_69 rfl 2 rfl ?_
              refine r_get (Cn := RX4) (T := TX4) (N := 6) (v := .ref sa) C inlX4 ((RW_ne (m := 1) rfl (by omega)).trans hc0) rfl 0 (by decide) wF_X4_18 (fun _ h => h) rfl dX4_spreadCost_70 ?_
              refine r_iload C dX4_spreadCost_73 8 rfl ?_
              refine r_iload C dX4_spreadCost_75 7 rfl ?_
              refine r_callV (As := [.int (nI (nx (sid kd) N k (i + 1))), .int (nI (i + 1))]) C (c_X2_allows (sa := sa) (la := la) (kd := kd) (N := N) (sr := sr) (sv := sv) (f5 := f5) (r := nx (sid kd) N k (i + 1)) (k := i + 1) ((RW_ne (m := 1) rfl (by omega)).trans hc1) ((RW_ne (m := 1) rfl (by omega)).trans hc2) (by first | assumption | omega) (by first | assumption | omega) (hxl) (by omega)) wM_X4_68 wI_X2_allows wN_X2 wC_X2_allows wV_X2_allows hd_X2_allows ⟨Nat.le_of_ble_eq_true rfl, Nat.le_of_ble_eq_true rfl⟩ rfl ((RW_ne (m := 1) rfl (by omega)).trans hc1) rfl rfl (Nat.le_of_ble_eq_true rfl) dX4_spreadCost_77 ⟨(Nat.le_of_ble_eq_true rfl), (Nat.le_of_ble_eq_true rfl)⟩ (fun rv n2 σ2 hp => ?_)
              obtain ⟨rfl, rfl, rfl⟩ := hp
              refine V.eq (σ2 := (RW σ ca [(aI G (rR (sid kd) N) w6)])) (n2 := n) (st2 := [.int (bI (okR kd sr N (nx (sid kd) N k (i + 1)) (i + 1)))]) rfl rfl rfl rfl ?_
              refine r_if_eqB (tgt := 100) C dX4_spreadCost_80 (by decide) (fun c80 => ?_) (fun c80 => ?_)
              · refine r_iinc (v := nI (i + 2)) (lv2 := [(5, .int (nI (i + 2))), (8, .int (nI (d9 (nx (sid kd) N k (i + 1))))), (7, .int (nI (d9 k + cm))), (0, .ref va), (1, .ref ca), (2, .int (nI k)), (3, .int (bI bw)), (4, .int (nI g)), (6, .int (nI (nx (sid kd) N k (i + 1))))]) C dX4_spreadCost_100 (k := 7) rfl (nI_add _ 1) (by decide) rfl ?_
                refine r_goto (tgt := 6) C dX4_spreadCost_103 (by decide) ?_
                refine V.sub (lv2 := [(0, .ref va), (1, .ref ca), (2, .int (nI k)), (3, .int (bI bw)), (4, .int (nI g)), (5, .int (nI (i + 2)))]) [3, 4, 5, 6, 7, 0] rfl ?_
                refine V.eq (σ2 := (RW σ ca [(aI G (rR (sid kd) N) w6)])) (lv2 := [(0, .ref va), (1, .ref ca), (2, .int (nI k)), (3, .int (bI bw)), (4, .int (nI g)), (5, .int (nI ((i + 1) + 1)))]) (st2 := []) rfl rfl rfl rfl ?_
                exact ih6 (i + 1) w6 d9 g (by omega) (by first | exact hw6 | exact upd_cI hw6 (by omega)) (by first | exact spr_set hL.2.1 hrk hS (by omega) hcm c80a c66 | exact spr_no hS (Or.inr (by rw [← hcm, ← hSk]; omega)) | exact spr_no hS (Or.inl (okR_na c80 (by omega)))) (by omega)
              · have c80a : aR1 kd sr N (nx (sid kd) N k (i + 1)) (i + 1) = true := okR_al c80
                refine r_aload_n C dX4_spreadCost_83 rfl 3 rfl ?_
                refine r_iload C dX4_spreadCost_84 8 rfl ?_
                refine r_iload C dX4_spreadCost_86 1 rfl ?_
                refine r_callSN (As := [.ref ca, .int (nI (nx (sid kd) N k (i + 1))), .int (nI (d9 k + cm))]) C (c_X6_put (a := ca) (len := rR (sid kd) N) (f := w6) (i := nx (sid kd) N k (i + 1)) (x := nI (d9 k + cm)) (RW_at0 rfl) (hxl) (by first | assumption | omega)) wZ_X4_72 wS_X6_put wN_X6 wC_X6_put hd_X6_put ⟨Nat.le_of_ble_eq_true rfl, Nat.le_of_ble_eq_true rfl⟩ rfl rfl (Nat.le_of_ble_eq_true rfl) dX4_spreadCost_88 ⟨(Nat.le_of_ble_eq_true rfl), (Nat.le_of_ble_eq_true rfl)⟩ (fun rv n2 σ2 hp => ?_)
                obtain ⟨rfl, rfl, rfl⟩ := hp
                refine V.eq (σ2 := (hU (RW σ ca [(aI G (rR (sid kd) N) w6)]) ca (aI G (rR (sid kd) N) (upd w6 (nx (sid kd) N k (i + 1)) (nI (d9 k + cm)))))) (n2 := n) (st2 := []) rfl rfl rfl rfl ?_
                refine V.hp (σ2 := (RW σ ca [(aI G (rR (sid kd) N) (upd w6 (nx (sid kd) N k (i + 1)) (nI (d9 k + cm))))])) (RW_set0 (Nat.le_of_ble_eq_true rfl) rfl) ?_
                refine r_iload C dX4_spreadCost_91 6 rfl ?_
                refine r_iload C dX4_spreadCost_93 1 rfl ?_
                refine r_mmax C wM_X4_80 dX4_spreadCost_95 (mx_N (by omega) (by omega)) (Nat.le_of_ble_eq_true rfl) (Nat.le_of_ble_eq_true rfl) (Nat.le_of_ble_eq_true rfl) (Nat.le_of_ble_eq_true rfl) (Nat.le_of_ble_eq_true rfl) ?_
                refine r_istore (lv2 := [(4, .int (nI (max g (d9 k + cm)))), (8, .int (nI (d9 (nx (sid kd) N k (i + 1))))), (7, .int (nI (d9 k + cm))), (0, .ref va), (1, .ref ca), (2, .int (nI k)), (3, .int (bI bw)), (5, .int (nI (i + 1))), (6, .int (nI (nx (sid kd) N k (i + 1))))]) C dX4_spreadCost_98 (by decide) rfl ?_
                refine r_iinc (v := nI (i + 2)) (lv2 := [(5, .int (nI (i + 2))), (4, .int (nI (max g (d9 k + cm)))), (8, .int (nI (d9 (nx (sid kd) N k (i + 1))))), (7, .int (nI (d9 k + cm))), (0, .ref va), (1, .ref ca), (2, .int (nI k)), (3, .int (bI bw)), (6, .int (nI (nx (sid kd) N k (i + 1))))]) C dX4_spreadCost_100 (k := 7) rfl (nI_add _ 1) (by decide) rfl ?_
                refine r_goto (tgt := 6) C dX4_spreadCost_103 (by decide) ?_
                refine V.sub (lv2 := [(0, .ref va), (1, .ref ca), (2, .int (nI k)), (3, .int (bI bw)), (4, .int (nI (max g (d9 k + cm)))), (5, .int (nI (i + 2)))]) [4, 5, 6, 7, 1, 0] rfl ?_
                refine V.eq (σ2 := (RW σ ca [(aI G (rR (sid kd) N) (upd w6 (nx (sid kd) N k (i + 1)) (nI (d9 k + cm))))])) (lv2 := [(0, .ref va), (1, .ref ca), (2, .int (nI k)), (3, .int (bI bw)), (4, .int (nI (max g (d9 k + cm)))), (5, .int (nI ((i + 1) + 1)))]) (st2 := []) rfl rfl rfl rfl ?_
                exact ih6 (i + 1) (upd w6 (nx (sid kd) N k (i + 1)) (nI (d9 k + cm))) (va_up d9 (nx (sid kd) N k (i + 1)) (d9 k + cm)) (max g (d9 k + cm)) (by omega) (by first | exact hw6 | exact upd_cI hw6 (by omega)) (by first | exact spr_set hL.2.1 hrk hS (by omega) hcm c80a c66 | exact spr_no hS (Or.inr (by rw [← hcm, ← hSk]; omega)) | exact spr_no hS (Or.inl (okR_na c80 (by omega)))) (by omega)
        refine r_if_eqB (tgt := 44) C dX4_spreadCost_36 (by decide) (fun c36 => ?_) (fun c36 => ?_)
        · refine r_iconst (v := nI 1) C dX4_spreadCost_44 (by decide) ?_
          refine V.sub (lv2 := [(0, .ref va), (1, .ref ca), (2, .int (nI k)), (3, .int (bI bw)), (4, .int (nI g)), (5, .int (nI (i + 1))), (6, .int (nI (nx (sid kd) N k (i + 1))))]) [1, 2, 3, 4, 5, 6, 0] rfl ?_
          exact L45 1 (by rw [c36]; rfl) (by omega)
        · refine r_iload C dX4_spreadCost_39 6 rfl ?_
          refine r_goto (tgt := 45) C dX4_spreadCost_41 (by decide) ?_
          refine V.sub (lv2 := [(0, .ref va), (1, .ref ca), (2, .int (nI k)), (3, .int (bI bw)), (4, .int (nI g)), (5, .int (nI (i + 1))), (6, .int (nI (nx (sid kd) N k (i + 1))))]) [1, 2, 3, 4, 5, 6, 0] rfl ?_
          exact L45 (i + 1) (by rw [c36]; rfl) (by omega)
  refine V.sub (lv2 := [(0, .ref va), (1, .ref ca), (2, .int (nI k)), (3, .int (bI bw)), (4, .int (nI 0)), (5, .int (nI 1))]) [2, 3, 4, 5, 1, 0] rfl ?_
  refine V.eq (σ2 := (RW σ ca [(aI G (rR (sid kd) N) f6)])) (lv2 := [(0, .ref va), (1, .ref ca), (2, .int (nI k)), (3, .int (bI bw)), (4, .int (nI 0)), (5, .int (nI (0 + 1)))]) (st2 := []) rfl rfl rfl rfl ?_
  exact L6 _ 0 f6 d0 0 (by omega) (h6) (SPR.init) (Nat.lt_succ_self _)
