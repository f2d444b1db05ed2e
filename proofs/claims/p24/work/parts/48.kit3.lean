theorem rk_31 {a : AK} {k : Nat} (hA : AOK a) (hk : k < aN a) : rk (sid (aKd a k)) (aCk a k) (aO a k) (aSd a k) < 2 ^ 31 := by
  have h1 := rk_at hA hk rfl rfl
  have h2 := rR_le (hA.2.2 k hk).1
  omega
theorem rk_0 {kd N sr o sd : Nat} (hv : Vld kd N sr o sd) : srp N o sd N = true ↔ rk (sid kd) N o sd = 0 := by
  rw [srt_iff hv]
  unfold rk
  have h2 := hv.2.2
  cases e : sid kd with
  | true =>
    have := two_pos N
    simp only [Bool.and_eq_true, beq_iff_eq, if_true]
    constructor
    · rintro ⟨rfl, rfl⟩; simp
    · intro h
      have h3 : o * 2 ^ N = 0 := by omega
      rcases Nat.mul_eq_zero.mp h3 with h4 | h4
      · exact ⟨h4, by omega⟩
      · omega
  | false =>
    rw [e] at h2
    have : sd = 0 := by simpa [sm] using h2
    simp [this]
theorem ofa1_t {a : AK} {i : Nat} (hA : AOK a) (hi : i < aN a) (h : rk (sid (aKd a i)) (aCk a i) (aO a i) (aSd a i) = 0) : ofa a 1 (i + 1) = ofa a 1 i + 1 := by
  rw [ofa, if_pos rfl, (rk_0 (hA.2.2 i hi)).mpr h]
  rfl
theorem ofa1_f {a : AK} {i : Nat} (hA : AOK a) (hi : i < aN a) (h : rk (sid (aKd a i)) (aCk a i) (aO a i) (aSd a i) ≠ 0) : ofa a 1 (i + 1) = ofa a 1 i := by
  rw [ofa, if_pos rfl]
  cases e : srp (aCk a i) (aO a i) (aSd a i) (aCk a i) with
  | true => exact absurd ((rk_0 (hA.2.2 i hi)).mp e) h
  | false => rfl
theorem ofa2 {a : AK} {i : Nat} (hA : AOK a) (hi : i < aN a) : ofa a 2 (i + 1) = ofa a 2 i + gp (sid (aKd a i)) (aCk a i) (oR (sid (aKd a i)) (aCk a i) (rk (sid (aKd a i)) (aCk a i) (aO a i) (aSd a i))) (sR (sid (aKd a i)) (aCk a i) (rk (sid (aKd a i)) (aCk a i) (aO a i) (aSd a i))) := by
  have hs := (hA.2.2 i hi).2.2
  rw [ofa, if_neg (by decide), oR_rk hs, sR_rk hs, gpA]

abbrev rm_X0_sortedStacks : Room := { frames := 2, cells := 0, slots := 0, locals := 42 }
set_option maxRecDepth 100000 in
set_option maxHeartbeats 4000000 in
theorem c_X0_sortedStacks {l : Launch} {G : gG} {n : Nat} {σ : gS} {k0 : Nat} {K : KT} {a : AK} (hc0 : σ k0 = some (.inr (0, [.int (nI (kN K)), .int (nI (kH K)), .ref (k0 + 1), .ref (k0 + 2), .ref (k0 + 3), .ref (k0 + 4), .ref (k0 + 5)]))) (hc1 : σ (k0 + 4) = some (aI G 5 (kR K))) (hKA : KA K a) (hA : AOK a) : GM l G yX0_sortedStacks cX0_sortedStacks 3 (some .int) rm_X0_sortedStacks n σ [.ref k0] (fun rv n2 σ2 => some (.int (nI (ofa a 1 (aN a)))) = rv ∧ n = n2 ∧ σ = σ2) := by
  refine GM.intro (by decide +kernel) (Nat.le_of_ble_eq_true rfl) (fun p e s m args below meth c C hr hlocks hname po hpo => ?_)
  have C : Cx p s m args c cX0_sortedStacks 3 RX0 G := C
  have hg1 := hKA.1
  have hg3 := hA.1
  refine r_iconst (v := nI 0) C dX0_sortedStacks_0 (by decide) ?_
  refine r_istore_n (lv2 := [(1, .int (nI 0)), (0, .ref k0)]) C dX0_sortedStacks_1 rfl (by decide) rfl ?_
  refine r_iconst (v := nI 0) C dX0_sortedStacks_2 (by decide) ?_
  refine r_istore_n (lv2 := [(2, .int (nI 0)), (1, .int (nI 0)), (0, .ref k0)]) C dX0_sortedStacks_3 rfl (by decide) rfl ?_
  have L4 : ∀ (fu : Nat) (i : Nat), (i ≤ aN a) → (aN a + 1 - i) < fu → V p l e rm_X0_sortedStacks s m args below meth c G 3 (MQ below (gQ G po) args s rm_X0_sortedStacks.cells rm_X0_sortedStacks.slots (gF G)) 0 0 n σ 4 [(0, .ref k0), (1, .int (nI (ofa a 1 i))), (2, .int (nI i))] [] := by
    intro fu
    induction fu with
    | zero => intro i hi hm; exact absurd hm (Nat.not_lt_zero _)
    | succ fu ih4 =>
      intro i hi hm4
      refine r_iload_n C dX0_sortedStacks_4 rfl 2 rfl ?_
      refine r_aload_n C dX0_sortedStacks_5 rfl 0 rfl ?_
      refine r_get (Cn := RX0) (T := TX0) (N := 7) (v := .int (nI (kN K))) C inlX0 hc0 rfl 0 (by decide) wF_X0_9 (fun _ h => h) rfl dX0_sortedStacks_6 ?_
      refine r_icmp_geN (tgt := 29) C dX0_sortedStacks_9 (by decide) (by omega) (by omega) (fun c9 => ?_) (fun c9 => ?_)
      · have hiN : i = aN a := by omega
        refine r_iload_n C dX0_sortedStacks_29 rfl 1 rfl ?_
        exact r_iret C hr hlocks (Nat.le_of_ble_eq_true rfl) (Nat.le_of_ble_eq_true rfl) dX0_sortedStacks_30 (hpo _ _ _ ⟨by rw [hiN], rfl, rfl⟩)
      · have hiN : i < aN a := by omega
        have hrr := rk_31 hA hiN
        refine r_aload_n C dX0_sortedStacks_12 rfl 0 rfl ?_
        refine r_iload_n C dX0_sortedStacks_13 rfl 2 rfl ?_
        refine r_callV (As := [.int (nI i)]) C (c_X0_rankOf (k0 := k0) (K := K) (k := i) hc0 hc1 (by omega)) wM_X0_53 wI_X0_rankOf wN_X0 wC_X0_rankOf wV_X0_rankOf hd_X0_rankOf ⟨Nat.le_of_ble_eq_true rfl, Nat.le_of_ble_eq_true rfl⟩ rfl hc0 rfl rfl (Nat.le_of_ble_eq_true rfl) dX0_sortedStacks_14 ⟨(Nat.le_of_ble_eq_true rfl), (Nat.le_of_ble_eq_true rfl)⟩ (fun rv n2 σ2 hp => ?_)
        obtain ⟨rfl, rfl, rfl⟩ := hp
        refine V.eq (σ2 := σ) (n2 := n) (st2 := [.int (kR K i)]) rfl rfl rfl rfl ?_
        refine V.top (y := nI (rk (sid (aKd a i)) (aCk a i) (aO a i) (aSd a i))) ((hKA.2.2.2.2 i hiN).1) ?_
        refine r_if_neN (tgt := 23) C dX0_sortedStacks_17 (by decide) (by omega) (fun c17 => ?_) (fun c17 => ?_)
        · refine r_iinc (v := nI (i + 1)) (lv2 := [(2, .int (nI (i + 1))), (0, .ref k0), (1, .int (nI (ofa a 1 i)))]) C dX0_sortedStacks_23 (k := 2) rfl (nI_add _ 1) (by decide) rfl ?_
          refine r_goto (tgt := 4) C dX0_sortedStacks_26 (by decide) ?_
          refine V.sub (lv2 := [(0, .ref k0), (1, .int (nI (ofa a 1 i))), (2, .int (nI (i + 1)))]) [1, 2, 0] rfl ?_
          refine V.eq (σ2 := σ) (lv2 := [(0, .ref k0), (1, .int (nI (ofa a 1 (i + 1)))), (2, .int (nI (i + 1)))]) (st2 := []) rfl rfl (by rw [(show nI (ofa a 1 i) = nI (ofa a 1 (i + 1)) from by first | (rw [ofa1_f hA hiN c17]; done) | (rw [ofa1_t hA hiN c17]; done))]) rfl ?_
          exact ih4 (i + 1) (by omega) (by omega)
        · refine r_iinc (v := nI (ofa a 1 i + 1)) (lv2 := [(1, .int (nI (ofa a 1 i + 1))), (0, .ref k0), (2, .int (nI i))]) C dX0_sortedStacks_20 (k := 1) rfl (nI_add _ 1) (by decide) rfl ?_
          refine r_iinc (v := nI (i + 1)) (lv2 := [(2, .int (nI (i + 1))), (1, .int (nI (ofa a 1 i + 1))), (0, .ref k0)]) C dX0_sortedStacks_23 (k := 2) rfl (nI_add _ 1) (by decide) rfl ?_
          refine r_goto (tgt := 4) C dX0_sortedStacks_26 (by decide) ?_
          refine V.sub (lv2 := [(0, .ref k0), (1, .int (nI (ofa a 1 i + 1))), (2, .int (nI (i + 1)))]) [2, 1, 0] rfl ?_
          refine V.eq (σ2 := σ) (lv2 := [(0, .ref k0), (1, .int (nI (ofa a 1 (i + 1)))), (2, .int (nI (i + 1)))]) (st2 := []) rfl rfl (by rw [(show nI (ofa a 1 i + 1) = nI (ofa a 1 (i + 1)) from by first | (rw [ofa1_f hA hiN c17]; done) | (rw [ofa1_t hA hiN c17]; done))]) rfl ?_
          exact ih4 (i + 1) (by omega) (by omega)
  refine V.sub (lv2 := [(0, .ref k0), (1, .int (nI 0)), (2, .int (nI 0))]) [2, 1, 0] rfl ?_
  refine V.eq (σ2 := σ) (lv2 := [(0, .ref k0), (1, .int (nI (ofa a 1 0))), (2, .int (nI 0))]) (st2 := []) rfl rfl rfl rfl ?_
  exact L4 _ 0 (by omega) (Nat.lt_succ_self _)

abbrev rm_X0_allGaps : Room := { frames := 2, cells := 0, slots := 0, locals := 42 }
set_option maxRecDepth 100000 in
set_option maxHeartbeats 4000000 in
theorem c_X0_allGaps {l : Launch} {G : gG} {n : Nat} {σ : gS} {k0 : Nat} {K : KT} {a : AK} {B : Nat} (hc0 : σ k0 = some (.inr (0, [.int (nI (kN K)), .int (nI (kH K)), .ref (k0 + 1), .ref (k0 + 2), .ref (k0 + 3), .ref (k0 + 4), .ref (k0 + 5)]))) (hc1 : σ (k0 + 3) = some (aR 4 G 5 (kS K))) (hc2 : σ (k0 + 4) = some (aI G 5 (kR K))) (hKA : KA K a) (hA : AOK a) (hSh : ∀ k, k < aN a → ∃ sa, kS K k = some sa ∧ ShpAt G B σ sa (aKd a k) (aCk a k) (aSr a k)) : GM l G yX0_allGaps cX0_allGaps 4 (some .int) rm_X0_allGaps n σ [.ref k0] (fun rv n2 σ2 => some (.int (nI (ofa a 2 (aN a)))) = rv ∧ n = n2 ∧ σ = σ2) := by
  refine GM.intro (by decide +kernel) (Nat.le_of_ble_eq_true rfl) (fun p e s m args below meth c C hr hlocks hname po hpo => ?_)
  have C : Cx p s m args c cX0_allGaps 4 RX0 G := C
  have hg1 := hKA.1
  have hg3 := hA.1
  refine r_iconst (v := nI 0) C dX0_allGaps_0 (by decide) ?_
  refine r_istore_n (lv2 := [(1, .int (nI 0)), (0, .ref k0)]) C dX0_allGaps_1 rfl (by decide) rfl ?_
  refine r_iconst (v := nI 0) C dX0_allGaps_2 (by decide) ?_
  refine r_istore_n (lv2 := [(2, .int (nI 0)), (1, .int (nI 0)), (0, .ref k0)]) C dX0_allGaps_3 rfl (by decide) rfl ?_
  have L4 : ∀ (fu : Nat) (i : Nat), (i ≤ aN a) → (aN a + 1 - i) < fu → V p l e rm_X0_allGaps s m args below meth c G 4 (MQ below (gQ G po) args s rm_X0_allGaps.cells rm_X0_allGaps.slots (gF G)) 0 0 n σ 4 [(0, .ref k0), (1, .int (nI (ofa a 2 i))), (2, .int (nI i))] [] := by
    intro fu
    induction fu with
    | zero => intro i hi hm; exact absurd hm (Nat.not_lt_zero _)
    | succ fu ih4 =>
      intro i hi hm4
      refine r_iload_n C dX0_allGaps_4 rfl 2 rfl ?_
      refine r_aload_n C dX0_allGaps_5 rfl 0 rfl ?_
      refine r_get (Cn := RX0) (T := TX0) (N := 7) (v := .int (nI (kN K))) C inlX0 hc0 rfl 0 (by decide) wF_X0_9 (fun _ h => h) rfl dX0_allGaps_6 ?_
      refine r_icmp_geN (tgt := 43) C dX0_allGaps_9 (by decide) (by omega) (by omega) (fun c9 => ?_) (fun c9 => ?_)
      · have hiN : i = aN a := by omega
        refine r_iload_n C dX0_allGaps_43 rfl 1 rfl ?_
        exact r_iret C hr hlocks (Nat.le_of_ble_eq_true rfl) (Nat.le_of_ble_eq_true rfl) dX0_allGaps_44 (hpo _ _ _ ⟨by rw [hiN], rfl, rfl⟩)
      · have hiN : i < aN a := by omega
        have hrr := rk_31 hA hiN
        obtain ⟨sa, hs, hSA⟩ := hSh i hiN
        obtain ⟨hso_, hBs_, la_, cfl_, sv_, f1_, f2_, f3_, f4_, f5_, hBl_, hz0_, hz1_, hz2_, hz3_, hz4_, hz5_, hz6_, h1_, h2_, h3_, h4_, h5_⟩ := hSA
        have hL_ := hso_.L
        have hb9_ := hL_.b
        refine r_aload_n C dX0_allGaps_12 rfl 0 rfl ?_
        refine r_iload_n C dX0_allGaps_13 rfl 2 rfl ?_
        refine r_callV (As := [.int (nI i)]) C (c_X0_shapeOf_y (k0 := k0) (K := K) (k := i) (sa := sa) hc0 hc1 (by first | assumption | omega) (by first | assumption | omega) (hs)) wM_X0_49 wI_X0_shapeOf wN_X0 wC_X0_shapeOf wV_X0_shapeOf hd_X0_shapeOf ⟨Nat.le_of_ble_eq_true rfl, Nat.le_of_ble_eq_true rfl⟩ rfl hc0 rfl rfl (Nat.le_of_ble_eq_true rfl) dX0_allGaps_14 ⟨(Nat.le_of_ble_eq_true rfl), (Nat.le_of_ble_eq_true rfl)⟩ (fun rv n2 σ2 hp => ?_)
        obtain ⟨rfl, rfl, rfl⟩ := hp
        refine V.eq (σ2 := σ) (n2 := n) (st2 := [.ref sa]) rfl rfl rfl rfl ?_
        refine r_astore_n (lv2 := [(3, .ref sa), (0, .ref k0), (1, .int (nI (ofa a 2 i))), (2, .int (nI i))]) C dX0_allGaps_17 rfl (by decide) rfl ?_
        refine r_aload_n C dX0_allGaps_18 rfl 0 rfl ?_
        refine r_ifnull C dX0_allGaps_19 ?_
        refine r_iload_n C dX0_allGaps_22 rfl 2 rfl ?_
        refine r_aload_n C dX0_allGaps_23 rfl 0 rfl ?_
        refine r_get (Cn := RX2) (T := TX2) (N := 6) (v := .ref la_) C inlX2 hz0_ rfl 3 (by decide) wF_X0_61 (fun _ h => h) rfl dX0_allGaps_24 ?_
        refine r_aload_n C dX0_allGaps_27 rfl 1 rfl ?_
        refine r_iload_n C dX0_allGaps_28 rfl 3 rfl ?_
        refine r_callV (As := [.int (nI i)]) C (c_X0_rankOf (k0 := k0) (K := K) (k := i) hc0 hc2 (by omega)) wM_X0_53 wI_X0_rankOf wN_X0 wC_X0_rankOf wV_X0_rankOf hd_X0_rankOf ⟨Nat.le_of_ble_eq_true rfl, Nat.le_of_ble_eq_true rfl⟩ rfl hc0 rfl rfl (Nat.le_of_ble_eq_true rfl) dX0_allGaps_29 ⟨(Nat.le_of_ble_eq_true rfl), (Nat.le_of_ble_eq_true rfl)⟩ (fun rv n2 σ2 hp => ?_)
        obtain ⟨rfl, rfl, rfl⟩ := hp
        refine V.eq (σ2 := σ) (n2 := n) (st2 := [.int (kR K i), .ref la_, .int (nI (ofa a 2 i))]) rfl rfl rfl rfl ?_
        refine V.top (y := nI (rk (sid (aKd a i)) (aCk a i) (aO a i) (aSd a i))) ((hKA.2.2.2.2 i hiN).1) ?_
        refine r_callV (As := [.int (nI (rk (sid (aKd a i)) (aCk a i) (aO a i) (aSd a i)))]) C (c_X1_gaps (la := la_) (N := (aCk a i)) (cfl := cfl_) (sb := (sid (aKd a i))) (f4 := f4_) (r := (rk (sid (aKd a i)) (aCk a i) (aO a i) (aSd a i))) hz2_ hz6_ (by first | assumption | omega) (by first | assumption | omega) (rk_at hA hiN rfl rfl)) wM_X0_82 wI_X1_gaps wN_X1 wC_X1_gaps wV_X1_gaps hd_X1_gaps ⟨Nat.le_of_ble_eq_true rfl, Nat.le_of_ble_eq_true rfl⟩ rfl hz2_ rfl rfl (Nat.le_of_ble_eq_true rfl) dX0_allGaps_32 ⟨(Nat.le_of_ble_eq_true rfl), (Nat.le_of_ble_eq_true rfl)⟩ (fun rv n2 σ2 hp => ?_)
        obtain ⟨rfl, rfl, rfl⟩ := hp
        refine V.eq (σ2 := σ) (n2 := n) (st2 := [.int (nI (gp (sid (aKd a i)) (aCk a i) (oR (sid (aKd a i)) (aCk a i) (rk (sid (aKd a i)) (aCk a i) (aO a i) (aSd a i))) (sR (sid (aKd a i)) (aCk a i) (rk (sid (aKd a i)) (aCk a i) (aO a i) (aSd a i))))), .int (nI (ofa a 2 i))]) rfl rfl rfl rfl ?_
        refine r_iaddN C dX0_allGaps_35 ?_
        refine r_istore_n (lv2 := [(1, .int (nI (ofa a 2 i + (gp (sid (aKd a i)) (aCk a i) (oR (sid (aKd a i)) (aCk a i) (rk (sid (aKd a i)) (aCk a i) (aO a i) (aSd a i))) (sR (sid (aKd a i)) (aCk a i) (rk (sid (aKd a i)) (aCk a i) (aO a i) (aSd a i))))))), (3, .ref sa), (0, .ref k0), (2, .int (nI i))]) C dX0_allGaps_36 rfl (by decide) rfl ?_
        refine r_iinc (v := nI (i + 1)) (lv2 := [(2, .int (nI (i + 1))), (1, .int (nI (ofa a 2 i + (gp (sid (aKd a i)) (aCk a i) (oR (sid (aKd a i)) (aCk a i) (rk (sid (aKd a i)) (aCk a i) (aO a i) (aSd a i))) (sR (sid (aKd a i)) (aCk a i) (rk (sid (aKd a i)) (aCk a i) (aO a i) (aSd a i))))))), (3, .ref sa), (0, .ref k0)]) C dX0_allGaps_37 (k := 3) rfl (nI_add _ 1) (by decide) rfl ?_
        refine r_goto (tgt := 4) C dX0_allGaps_40 (by decide) ?_
        refine V.sub (lv2 := [(0, .ref k0), (1, .int (nI (ofa a 2 i + (gp (sid (aKd a i)) (aCk a i) (oR (sid (aKd a i)) (aCk a i) (rk (sid (aKd a i)) (aCk a i) (aO a i) (aSd a i))) (sR (sid (aKd a i)) (aCk a i) (rk (sid (aKd a i)) (aCk a i) (aO a i) (aSd a i))))))), (2, .int (nI (i + 1)))]) [3, 1, 0] rfl ?_
        refine V.eq (σ2 := σ) (lv2 := [(0, .ref k0), (1, .int (nI (ofa a 2 (i + 1)))), (2, .int (nI (i + 1)))]) (st2 := []) rfl rfl (by rw [(show nI (ofa a 2 i + (gp (sid (aKd a i)) (aCk a i) (oR (sid (aKd a i)) (aCk a i) (rk (sid (aKd a i)) (aCk a i) (aO a i) (aSd a i))) (sR (sid (aKd a i)) (aCk a i) (rk (sid (aKd a i)) (aCk a i) (aO a i) (aSd a i))))) = nI (ofa a 2 (i + 1)) from by rw [ofa2 hA hiN])]) rfl ?_
        exact ih4 (i + 1) (by omega) (by omega)
  refine V.sub (lv2 := [(0, .ref k0), (1, .int (nI 0)), (2, .int (nI 0))]) [2, 1, 0] rfl ?_
  refine V.eq (σ2 := σ) (lv2 := [(0, .ref k0), (1, .int (nI (ofa a 2 0))), (2, .int (nI 0))]) (st2 := []) rfl rfl rfl rfl ?_
  exact L4 _ 0 (by omega) (Nat.lt_succ_self _)

abbrev rm_X0_allTurns : Room := { frames := 0, cells := 0, slots := 0, locals := 0 }
set_option maxRecDepth 100000 in
set_option maxHeartbeats 4000000 in
theorem c_X0_allTurns {l : Launch} {G : gG} {n : Nat} {σ : gS} {k0 : Nat} {K : KT} (hc0 : σ k0 = some (.inr (0, [.int (nI (kN K)), .int (nI (kH K)), .ref (k0 + 1), .ref (k0 + 2), .ref (k0 + 3), .ref (k0 + 4), .ref (k0 + 5)]))) (hc1 : σ (k0 + 1) = some (aI G 3 (kT K)))  : GM l G yX0_allTurns cX0_allTurns 3 (some .int) rm_X0_allTurns n σ [.ref k0] (fun rv n2 σ2 => some (.int (kT K 0 + kT K 1 + kT K 2)) = rv ∧ n = n2 ∧ σ = σ2) := by
  refine GM.intro (by decide +kernel) (Nat.le_of_ble_eq_true rfl) (fun p e s m args below meth c C hr hlocks hname po hpo => ?_)
  have C : Cx p s m args c cX0_allTurns 3 RX0 G := C
  refine r_iconst (v := nI 0) C dX0_allTurns_0 (by decide) ?_
  refine r_istore_n (lv2 := [(1, .int (nI 0)), (0, .ref k0)]) C dX0_allTurns_1 rfl (by decide) rfl ?_
  refine r_iconst (v := nI 0) C dX0_allTurns_2 (by decide) ?_
  refine r_istore_n (lv2 := [(2, .int (nI 0)), (1, .int (nI 0)), (0, .ref k0)]) C dX0_allTurns_3 rfl (by decide) rfl ?_
  refine r_iload_n C dX0_allTurns_4 rfl 0 rfl ?_
  refine r_aload_n C dX0_allTurns_5 rfl 2 rfl ?_
  refine r_get (Cn := RX0) (T := TX0) (N := 7) (v := .ref (k0 + 1)) C inlX0 hc0 rfl 2 (by decide) wF_X0_18 (fun _ h => h) rfl dX0_allTurns_6 ?_
  refine r_alenI C hc1 dX0_allTurns_9 ?_
  refine r_icmp_geN (tgt := 28) C dX0_allTurns_10 (by decide) (by decide) (by decide) (fun z => absurd z (by decide)) (fun _ => ?_)
  refine r_iload_n C dX0_allTurns_13 rfl 1 rfl ?_
  refine r_aload_n C dX0_allTurns_14 rfl 2 rfl ?_
  refine r_get (Cn := RX0) (T := TX0) (N := 7) (v := .ref (k0 + 1)) C inlX0 hc0 rfl 2 (by decide) wF_X0_18 (fun _ h => h) rfl dX0_allTurns_15 ?_
  refine r_iload_n C dX0_allTurns_18 rfl 0 rfl ?_
  refine r_ialdN C hc1 (by decide) (by decide) dX0_allTurns_19 ?_
  refine r_iadd C dX0_allTurns_20 ?_
  refine r_istore_n (lv2 := [(1, .int ((nI 0) + ((kT K) 0))), (2, .int (nI 0)), (0, .ref k0)]) C dX0_allTurns_21 rfl (by decide) rfl ?_
  refine r_iinc (v := nI 1) (lv2 := [(2, .int (nI 1)), (1, .int ((nI 0) + ((kT K) 0))), (0, .ref k0)]) C dX0_allTurns_22 (k := 1) rfl (by decide) (by decide) rfl ?_
  refine r_goto (tgt := 4) C dX0_allTurns_25 (by decide) ?_
  refine r_iload_n C dX0_allTurns_4 rfl 0 rfl ?_
  refine r_aload_n C dX0_allTurns_5 rfl 2 rfl ?_
  refine r_get (Cn := RX0) (T := TX0) (N := 7) (v := .ref (k0 + 1)) C inlX0 hc0 rfl 2 (by decide) wF_X0_18 (fun _ h => h) rfl dX0_allTurns_6 ?_
  refine r_alenI C hc1 dX0_allTurns_9 ?_
  refine r_icmp_geN (tgt := 28) C dX0_allTurns_10 (by decide) (by decide) (by decide) (fun z => absurd z (by decide)) (fun _ => ?_)
  refine r_iload_n C dX0_allTurns_13 rfl 1 rfl ?_
  refine r_aload_n C dX0_allTurns_14 rfl 2 rfl ?_
  refine r_get (Cn := RX0) (T := TX0) (N := 7) (v := .ref (k0 + 1)) C inlX0 hc0 rfl 2 (by decide) wF_X0_18 (fun _ h => h) rfl dX0_allTurns_15 ?_
  refine r_iload_n C dX0_allTurns_18 rfl 0 rfl ?_
  refine r_ialdN C hc1 (by decide) (by decide) dX0_allTurns_19 ?_
  refine r_iadd C dX0_allTurns_20 ?_
  refine r_istore_n (lv2 := [(1, .int (((nI 0) + ((kT K) 0)) + ((kT K) 1))), (2, .int (nI 1)), (0, .ref k0)]) C dX0_allTurns_21 rfl (by decide) rfl ?_
  refine r_iinc (v := nI 2) (lv2 := [(2, .int (nI 2)), (1, .int (((nI 0) + ((kT K) 0)) + ((kT K) 1))), (0, .ref k0)]) C dX0_allTurns_22 (k := 1) rfl (by decide) (by decide) rfl ?_
  refine r_goto (tgt := 4) C dX0_allTurns_25 (by decide) ?_
  refine r_iload_n C dX0_allTurns_4 rfl 0 rfl ?_
  refine r_aload_n C dX0_allTurns_5 rfl 2 rfl ?_
  refine r_get (Cn := RX0) (T := TX0) (N := 7) (v := .ref (k0 + 1)) C inlX0 hc0 rfl 2 (by decide) wF_X0_18 (fun _ h => h) rfl dX0_allTurns_6 ?_
  refine r_alenI C hc1 dX0_allTurns_9 ?_
  refine r_icmp_geN (tgt := 28) C dX0_allTurns_10 (by decide) (by decide) (by decide) (fun z => absurd z (by decide)) (fun _ => ?_)
  refine r_iload_n C dX0_allTurns_13 rfl 1 rfl ?_
  refine r_aload_n C dX0_allTurns_14 rfl 2 rfl ?_
  refine r_get (Cn := RX0) (T := TX0) (N := 7) (v := .ref (k0 + 1)) C inlX0 hc0 rfl 2 (by decide) wF_X0_18 (fun _ h => h) rfl dX0_allTurns_15 ?_
  refine r_iload_n C dX0_allTurns_18 rfl 0 rfl ?_
  refine r_ialdN C hc1 (by decide) (by decide) dX0_allTurns_19 ?_
  refine r_iadd C dX0_allTurns_20 ?_
  refine r_istore_n (lv2 := [(1, .int ((((nI 0) + ((kT K) 0)) + ((kT K) 1)) + ((kT K) 2))), (2, .int (nI 2)), (0, .ref k0)]) C dX0_allTurns_21 rfl (by decide) rfl ?_
  refine r_iinc (v := nI 3) (lv2 := [(2, .int (nI 3)), (1, .int ((((nI 0) + ((kT K) 0)) + ((kT K) 1)) + ((kT K) 2))), (0, .ref k0)]) C dX0_allTurns_22 (k := 1) rfl (by decide) (by decide) rfl ?_
  refine r_goto (tgt := 4) C dX0_allTurns_25 (by decide) ?_
  refine r_iload_n C dX0_allTurns_4 rfl 0 rfl ?_
  refine r_aload_n C dX0_allTurns_5 rfl 2 rfl ?_
  refine r_get (Cn := RX0) (T := TX0) (N := 7) (v := .ref (k0 + 1)) C inlX0 hc0 rfl 2 (by decide) wF_X0_18 (fun _ h => h) rfl dX0_allTurns_6 ?_
  refine r_alenI C hc1 dX0_allTurns_9 ?_
  refine r_icmp_geN (tgt := 28) C dX0_allTurns_10 (by decide) (by decide) (by decide) (fun _ => ?_) (fun z => absurd z (by decide))
  refine r_iload_n C dX0_allTurns_28 rfl 1 rfl ?_
  exact r_iret C hr hlocks (Nat.le_of_ble_eq_true rfl) (Nat.le_of_ble_eq_true rfl) dX0_allTurns_29 (hpo _ _ _ ⟨by rw [show nI 0 + kT K 0 = kT K 0 from Int32.zero_add _], rfl, rfl⟩)

abbrev rm_X5_init : Room := { frames := 1, cells := 1, slots := 50, locals := 20 }
set_option maxRecDepth 100000 in
set_option maxHeartbeats 4000000 in
theorem c_X5_init {l : Launch} {G : gG} {σ : gS} {x0 : Nat} (hc0 : σ x0 = some (.inr (5, [.int (nI 0), .int (nI 0), .int (nI 0), .int (nI 0), .null, .int (nI 0), .int (nI 0)])))  : GM l G yX5_init cX5_init 1 none rm_X5_init (x0 + 1) σ [.ref x0] (fun rv n2 σ2 => (none : Option Value) = rv ∧ x0 + 2 = n2 ∧ (RW σ x0 [(.inr (5, [.int (nI 0), .int (nI 0), .int (nI 0), .int (nI 0), .ref (x0 + 1), .int (-1), .int (nI 0)])), (aI G 50 (fun _ => 0))]) = σ2) := by
  refine GM.intro (by decide +kernel) (Nat.le_of_ble_eq_true rfl) (fun p e s m args below meth c C hr hlocks hname po hpo => ?_)
  have C : Cx p s m args c cX5_init 1 RX5 G := C
  refine V.hp (σ2 := (RW σ x0 [(.inr (5, [.int (nI 0), .int (nI 0), .int (nI 0), .int (nI 0), .null, .int (nI 0), .int (nI 0)]))])) (RW_cons hc0 (RW_nil _ _)).symm ?_
  refine r_aload_n C dX5_init_0 rfl 0 rfl ?_
  refine r_objInit C wM_X5_3 wI_objectInit wC_objectInit (by decide) dX5_init_1 (by decide) (by decide) ?_
  refine r_aload_n C dX5_init_4 rfl 0 rfl ?_
  refine r_iconst (v := nI 0) C dX5_init_5 (by decide) ?_
  refine r_put (Cn := RX5) (T := TX5) (N := 7) (fs2 := [.int (nI 0), .int (nI 0), .int (nI 0), .int (nI 0), .null, .int (nI 0), .int (nI 0)]) C inlX5 tyX5 tyX5_ok nmX5 (RW_at0 rfl) rfl 0 (by decide) wF_X5_9 (fun _ h => h) rfl (tyX5_ok 0 (by decide)) rfl rfl (Nat.le_of_ble_eq_true rfl) rfl dX5_init_6 ?_
  refine V.hp (σ2 := (RW σ x0 [(.inr (5, [.int (nI 0), .int (nI 0), .int (nI 0), .int (nI 0), .null, .int (nI 0), .int (nI 0)]))])) (RW_set0 (Nat.le_of_ble_eq_true rfl) rfl) ?_
  refine r_aload_n C dX5_init_9 rfl 0 rfl ?_
  refine r_iconst (v := nI 0) C dX5_init_10 (by decide) ?_
  refine r_put (Cn := RX5) (T := TX5) (N := 7) (fs2 := [.int (nI 0), .int (nI 0), .int (nI 0), .int (nI 0), .null, .int (nI 0), .int (nI 0)]) C inlX5 tyX5 tyX5_ok nmX5 (RW_at0 rfl) rfl 1 (by decide) wF_X5_15 (fun _ h => h) rfl (tyX5_ok 1 (by decide)) rfl rfl (Nat.le_of_ble_eq_true rfl) rfl dX5_init_11 ?_
  refine V.hp (σ2 := (RW σ x0 [(.inr (5, [.int (nI 0), .int (nI 0), .int (nI 0), .int (nI 0), .null, .int (nI 0), .int (nI 0)]))])) (RW_set0 (Nat.le_of_ble_eq_true rfl) rfl) ?_
  refine r_aload_n C dX5_init_14 rfl 0 rfl ?_
  refine r_iconst (v := nI 0) C dX5_init_15 (by decide) ?_
  refine r_put (Cn := RX5) (T := TX5) (N := 7) (fs2 := [.int (nI 0), .int (nI 0), .int (nI 0), .int (nI 0), .null, .int (nI 0), .int (nI 0)]) C inlX5 tyX5 tyX5_ok nmX5 (RW_at0 rfl) rfl 2 (by decide) wF_X5_18 (fun _ h => h) rfl (tyX5_ok 2 (by decide)) rfl rfl (Nat.le_of_ble_eq_true rfl) rfl dX5_init_16 ?_
  refine V.hp (σ2 := (RW σ x0 [(.inr (5, [.int (nI 0), .int (nI 0), .int (nI 0), .int (nI 0), .null, .int (nI 0), .int (nI 0)]))])) (RW_set0 (Nat.le_of_ble_eq_true rfl) rfl) ?_
  refine r_aload_n C dX5_init_19 rfl 0 rfl ?_
  refine r_iconst (v := nI 0) C dX5_init_20 (by decide) ?_
  refine r_put (Cn := RX5) (T := TX5) (N := 7) (fs2 := [.int (nI 0), .int (nI 0), .int (nI 0), .int (nI 0), .null, .int (nI 0), .int (nI 0)]) C inlX5 tyX5 tyX5_ok nmX5 (RW_at0 rfl) rfl 3 (by decide) wF_X5_21 (fun _ h => h) rfl (tyX5_ok 3 (by decide)) rfl rfl (Nat.le_of_ble_eq_true rfl) rfl dX5_init_21 ?_
  refine V.hp (σ2 := (RW σ x0 [(.inr (5, [.int (nI 0), .int (nI 0), .int (nI 0), .int (nI 0), .null, .int (nI 0), .int (nI 0)]))])) (RW_set0 (Nat.le_of_ble_eq_true rfl) rfl) ?_
  refine r_aload_n C dX5_init_24 rfl 0 rfl ?_
  refine r_bipush (v := nI 50) C dX5_init_25 (by decide) ?_
  refine r_newarrI C wA_int (by decide) (Nat.le_of_ble_eq_true rfl) (Nat.le_of_ble_eq_true rfl) dX5_init_27 ?_
  refine V.eq (σ2 := (hU (RW σ x0 [(.inr (5, [.int (nI 0), .int (nI 0), .int (nI 0), .int (nI 0), .null, .int (nI 0), .int (nI 0)]))]) (x0 + 1) (aI G 50 (fun _ => 0)))) (n2 := x0 + 2) rfl rfl rfl rfl ?_
  refine V.hp (σ2 := (RW σ x0 [(.inr (5, [.int (nI 0), .int (nI 0), .int (nI 0), .int (nI 0), .null, .int (nI 0), .int (nI 0)])), (aI G 50 (fun _ => 0))])) (RW_snoc (m := 1) rfl rfl) ?_
  refine r_putF (Cn := RX5) (T := TX5) (N := 7) (fs2 := [.int (nI 0), .int (nI 0), .int (nI 0), .int (nI 0), .ref (x0 + 1), .int (nI 0), .int (nI 0)]) C inlX5 tyX5 tyX5_ok nmX5 (RW_at0 rfl) rfl 4 (by decide) wF_X5_24 (fun _ h => h) rfl hname rfl (tyX5_ok 4 (by decide)) rfl rfl (Nat.le_of_ble_eq_true rfl) rfl dX5_init_29 ?_
  refine V.hp (σ2 := (RW σ x0 [(.inr (5, [.int (nI 0), .int (nI 0), .int (nI 0), .int (nI 0), .ref (x0 + 1), .int (nI 0), .int (nI 0)])), (aI G 50 (fun _ => 0))])) (RW_set0 (Nat.le_of_ble_eq_true rfl) rfl) ?_
  refine r_aload_n C dX5_init_32 rfl 0 rfl ?_
  refine r_iconst (v := (-1)) C dX5_init_33 (by decide) ?_
  refine r_put (Cn := RX5) (T := TX5) (N := 7) (fs2 := [.int (nI 0), .int (nI 0), .int (nI 0), .int (nI 0), .ref (x0 + 1), .int (-1), .int (nI 0)]) C inlX5 tyX5 tyX5_ok nmX5 (RW_at0 rfl) rfl 5 (by decide) wF_X5_28 (fun _ h => h) rfl (tyX5_ok 5 (by decide)) rfl rfl (Nat.le_of_ble_eq_true rfl) rfl dX5_init_34 ?_
  refine V.hp (σ2 := (RW σ x0 [(.inr (5, [.int (nI 0), .int (nI 0), .int (nI 0), .int (nI 0), .ref (x0 + 1), .int (-1), .int (nI 0)])), (aI G 50 (fun _ => 0))])) (RW_set0 (Nat.le_of_ble_eq_true rfl) rfl) ?_
  refine r_aload_n C dX5_init_37 rfl 0 rfl ?_
  refine r_iconst (v := nI 0) C dX5_init_38 (by decide) ?_
  refine r_put (Cn := RX5) (T := TX5) (N := 7) (fs2 := [.int (nI 0), .int (nI 0), .int (nI 0), .int (nI 0), .ref (x0 + 1), .int (-1), .int (nI 0)]) C inlX5 tyX5 tyX5_ok nmX5 (RW_at0 rfl) rfl 6 (by decide) wF_X5_31 (fun _ h => h) rfl (tyX5_ok 6 (by decide)) rfl rfl (Nat.le_of_ble_eq_true rfl) rfl dX5_init_39 ?_
  refine V.hp (σ2 := (RW σ x0 [(.inr (5, [.int (nI 0), .int (nI 0), .int (nI 0), .int (nI 0), .ref (x0 + 1), .int (-1), .int (nI 0)])), (aI G 50 (fun _ => 0))])) (RW_set0 (Nat.le_of_ble_eq_true rfl) rfl) ?_
  exact r_vret C hr hlocks (Nat.le_of_ble_eq_true rfl) (Nat.le_of_ble_eq_true rfl) dX5_init_42 (hpo _ _ _ ⟨rfl, rfl, rfl⟩)
