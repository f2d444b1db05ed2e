theorem rk_31 {a : AK} {k : Nat} (hA : AOK a) (hk : k < aN a) : rk (sid (aKd a k)) (aCk a k) (aO a k) (aSd a k) < 2 ^ 31 := by
  have h1 := rk_at hA hk rfl rfl
  have h2 := rR_le (hA.2.2 k hk).1
  omega
theorem rk_0 {kd N sr o sd : Nat} (hv : Vld kd N sr o sd) : srp N o sd N = true ↔ rk (sid kd) N o sd = 0 := by
  rw [srt_iff hv]
  unfold rk
  have h2 := hv.2.2
  cases e : sid kd with
  | true =>
    have := two_pos N
    simp only [Bool.and_eq_true, beq_iff_eq, if_true]
    constructor
    · rintro ⟨rfl, rfl⟩; simp
    · intro h
      have h3 : o * 2 ^ N = 0 := by omega
      rcases Nat.mul_eq_zero.mp h3 with h4 | h4
      · exact ⟨h4, by omega⟩
      · omega
  | false =>
    rw [e] at h2
    have : sd = 0 := by simpa [sm] using h2
    simp [this]
theorem ofa1_t {a : AK} {i : Nat} (hA : AOK a) (hi : i < aN a) (h : rk (sid (aKd a i)) (aCk a i) (aO a i) (aSd a i) = 0) : ofa a 1 (i + 1) = ofa a 1 i + 1 := by
  rw [ofa, if_pos rfl, (rk_0 (hA.2.2 i hi)).mpr h]
  rfl
theorem ofa1_f {a : AK} {i : Nat} (hA : AOK a) (hi : i < aN a) (h : rk (sid (aKd a i)) (aCk a i) (aO a i) (aSd a i) ≠ 0) : ofa a 1 (i + 1) = ofa a 1 i := by
  rw [ofa, if_pos rfl]
  cases e : srp (aCk a i) (aO a i) (aSd a i) (aCk a i) with
  | true => exact absurd ((rk_0 (hA.2.2 i hi)).mp e) h
  | false => rfl
theorem ofa2 {a : AK} {i : Nat} (hA : AOK a) (hi : i < aN a) : ofa a 2 (i + 1) = ofa a 2 i + gp (sid (aKd a i)) (aCk a i) (oR (sid (aKd a i)) (aCk a i) (rk (sid (aKd a i)) (aCk a i) (aO a i) (aSd a i))) (sR (sid (aKd a i)) (aCk a i) (rk (sid (aKd a i)) (aCk a i) (aO a i) (aSd a i))) := by
  have hs := (hA.2.2 i hi).2.2
  rw [ofa, if_neg (by decide), oR_rk hs, sR_rk hs, gpA]

abbrev rm_X0_sortedStacks : Room := { frames := 2, cells := 0, slots := 0, locals := 42 }
set_option maxRecDepth 100000 in
set_option maxHeartbeats 4000000 in
theorem c_X0_sortedStacks {l : Launch} {G : gG} {n : Nat} {σ : gS} {k0 : Nat} {K : KT} {a : AK} (hc0 : σ k0 = some (.inr (0, [.int (nI (kN K)), .int (nI (kH K)), .ref (k0 + 1), .ref (k0 + 2), .ref (k0 + 3), .ref (k0 + 4), .ref (k0 + 5)]))) (hc1 : σ (k0 + 4) = some (aI G 5 (kR K))) (hKA : KA K a) (hA : AOK a) : GM l G yX0_sortedStacks cX0_sortedStacks 3 (some .int) rm_X0_sortedStacks n σ [.ref k0] (fun rv n2 σ2 => some (.int (nI (ofa a 1 (aN a)))) = rv ∧ n = n2 ∧ σ = σ2) := by
  refine GM.intro (by decide +kernel) (Nat.le_of_ble_eq_true rfl) (fun p e s m args below meth c C hr hlocks hname po hpo => ?_)
  have C : Cx p s m args c cX0_sortedStacks 3 RX0 G := C
  have hg1 := hKA.1
  have hg3 := hA.1
  refine r_iconst (v := nI 0) C dX0_sortedStacks_0 (by decide) ?_
  refine r_istore_n (lv2 := [(1, .int (nI 0)), (0, .ref k0)]) C dX0_sortedStacks_1 rfl (by decide) rfl ?_
  refine r_iconst (v := nI 0) C dX0_sortedStacks_2 (by decide) ?_
  refine r_istore_n (lv2 := [(2, .int (nI 0)), (1, .int (nI 0)), (0, .ref k0)]) C dX0_sortedStacks_3 rfl (by decide) rfl ?_
  have L4 : ∀ (fu : Nat) (i : Nat), (i ≤ aN a) → (aN a + 1 - i) < fu → V p l e rm_X0_sortedStacks s m args below meth c G 3 (MQ below (gQ G po) args s rm_X0_sortedStacks.cells rm_X0_sortedStacks.slots (gF G)) 0 0 n σ 4 [(0, .ref k0), (1, .int (nI (ofa a 1 i))), (2, .int (nI i))] [] := by
    intro fu
    induction fu with
    | zero => intro i hi hm; exact absurd hm (Nat.not_lt_zero _)
    | succ fu ih4 =>
      intro i hi hm4
      refine r_iload_n C dX0_sortedStacks_4 rfl 2 rfl ?_
      refine r_aload_n C dX0_sortedStacks_5 rfl 0 rfl ?_
      refine r_get (Cn := RX0) (T := TX0) (N := 7) (v := .int (nI (kN K))) C inlX0 hc0 rfl 0 (by decide) wF_X0_9 (fun _ h => h) rfl dX0_sortedStacks_6 ?_
      refine r_icmp_geN (tgt := 29) C dX0_sortedStacks_9 (by decide) (by omega) (by omega) (fun c9 => ?_) (fun c9 => ?_)
      · have hiN : i = aN a := by omega
        refine r_iload_n C dX0_sortedStacks_29 rfl 1 rfl ?_
        exact r_iret C hr hlocks (Nat.le_of_ble_eq_true rfl) (Nat.le_of_ble_eq_true rfl) dX0_sortedStacks_30 (hpo _ _ _ ⟨by rw [hiN], rfl, rfl⟩)
      · have hiN : i < aN a := by omega
        have hrr := rk_31 hA hiN
        refine r_aload_n C dX0_sortedStacks_12 rfl 0 rfl ?_
        refine r_iload_n C dX0_sortedStacks_13 rfl 2 rfl ?_
        refine r_callV (As := [.int (nI i)]) C (c_X0_rankOf (k0 := k0) (K := K) (k := i) hc0 hc1 (by omega)) wM_X0_53 wI_X0_rankOf wN_X0 wC_X0_rankOf wV_X0_rankOf hd_X0_rankOf ⟨Nat.le_of_ble_eq_true rfl, Nat.le_of_ble_eq_true rfl⟩ rfl hc0 rfl rfl (Nat.le_of_ble_eq_true rfl) dX0_sortedStacks_14 ⟨(Nat.le_of_ble_eq_true rfl), (Nat.le_of_ble_eq_true rfl)⟩ (fun rv n2 σ2 hp => ?_)
        obtain ⟨rfl, rfl, rfl⟩ := hp
        refine V.eq (σ2 := σ) (n2 := n) (st2 := [.int (kR K i)]) rfl rfl rfl rfl ?_
        refine V.top (y := nI (rk (sid (aKd a i)) (aCk a i) (aO a i) (aSd a i))) ((hKA.2.2.2.2 i hiN).1) ?_
        refine r_if_neN (tgt := 23) C dX0_sortedStacks_17 (by decide) (by omega) (fun c17 => ?_) (fun c17 => ?_)
        · refine r_iinc (v := nI (i + 1)) (lv2 := [(2, .int (nI (i + 1))), (0, .ref k0), (1, .int (nI (ofa a 1 i)))]) C dX0_sortedStacks_23 (k := 2) rfl (nI_add _ 1) (by decide) rfl ?_
          refine r_goto (tgt := 4) C dX0_sortedStacks_26 (by decide) ?_
          refine V.sub (lv2 := [(0, .ref k0), (1, .int (nI (ofa a 1 i))), (2, .int (nI (i + 1)))]) [1, 2, 0] rfl ?_
          refine V.eq (σ2 := σ) (lv2 := [(0, .ref k0), (1, .int (nI (ofa a 1 (i + 1)))), (2, .int (nI (i + 1)))]) (st2 := []) rfl rfl (by rw [(show nI (ofa a 1 i) = nI (ofa a 1 (i + 1)) from by first | (rw [ofa1_f hA hiN c17]; done) | (rw [ofa1_t hA hiN c17]; done))]) rfl ?_
          exact ih4 (i + 1) (by omega) (by omega)
        · refine r_iinc (v := nI (ofa a 1 i + 1)) (lv2 := [(1, .int (nI (ofa a 1 i + 1))), (0, .ref k0), (2, .int (nI i))]) C dX0_sortedStacks_20 (k := 1) rfl (nI_add _ 1) (by decide) rfl ?_
          refine r_iinc (v := nI (i + 1)) (lv2 := [(2, .int (nI (i + 1))), (1, .int (nI (ofa a 1 i + 1))), (0, .ref k0)]) C dX0_sortedStacks_23 (k := 2) rfl (nI_add _ 1) (by decide) rfl ?_
          refine r_goto (tgt := 4) C dX0_sortedStacks_26 (by decide) ?_
          refine V.sub (lv2 := [(0, .ref k0), (1, .int (nI (ofa a 1 i + 1))), (2, .int (nI (i + 1)))]) [2, 1, 0] rfl ?_
          refine V.eq (σ2 := σ) (lv2 := [(0, .ref k0), (1, .int (nI (ofa a 1 (i + 1)))), (2, .int (nI (i + 1)))]) (st2 := []) rfl rfl (by rw [(show nI (ofa a 1 i + 1) = nI (ofa a 1 (i + 1)) from by first | (rw [ofa1_f hA hiN c17]; done) | (rw [ofa1_t hA hiN c17]; done))]) rfl ?_
          exact ih4 (i + 1) (by omega) (by omega)
  refine V.sub (lv2 := [(0, .ref k0), (1, .int (nI 0)), (2, .int (nI 0))]) [2, 1, 0] rfl ?_
  refine V.eq (σ2 := σ) (lv2 := [(0, .ref k0), (1, .int (nI (ofa a 1 0))), (2, .int (nI 0))]) (st2 := []) rfl rfl rfl rfl ?_
  exact L4 _ 0 (by omega) (Nat.lt_succ_self _)

abbrev rm_X0_allGaps : Room := { frames := 2, cells := 0, slots := 0, locals := 42 }
set_option maxRecDepth 100000 in
set_option maxHeartbeats 4000000 in
theorem c_X0_allGaps {l : Launch} {G : gG} {n : Nat} {σ : gS} {k0 : Nat} {K : KT} {a : AK} {B : Nat} (hc0 : σ k0 = some (.inr (0, [.int (nI (kN K)), .int (nI (kH K)), .ref (k0 + 1), .ref (k0 + 2), .ref (k0 + 3), .ref (k0 + 4), .ref (k0 + 5)]))) (hc1 : σ (k0 + 3) = some (aR 4 G 5 (kS K))) (hc2 : σ (k0 + 4) = some (aI G 5 (kR K))) (hKA : KA K a) (hA : AOK a) (hSh : ∀ k, k < aN a → ∃ sa, kS K k = some sa ∧ ShpAt G B σ sa (aKd a k) (aCk a k) (aSr a k)) : GM l G yX0_allGaps cX0_allGaps 4 (some .int) rm_X0_allGaps n σ [.ref k0] (fun rv n2 σ2 => some (.int (nI (ofa a 2 (aN a)))) = rv ∧ n = n2 ∧ σ = σ2) := by
  refine GM.intro (by decide +kernel) (Nat.le_of_ble_eq_true rfl) (fun p e s m args below meth c C hr hlocks hname po hpo => ?_)
  have C : Cx p s m args c cX0_allGaps 4 RX0 G := C
  have hg1 := hKA.1
  have hg3 := hA.1
  refine r_iconst (v := nI 0) C dX0_allGaps_0 (by decide) ?_
  refine r_istore_n (lv2 := [(1, .int (nI 0)), (0, .ref k0)]) C dX0_allGaps_1 rfl (by decide) rfl ?_
  refine r_iconst (v := nI 0) C dX0_allGaps_2 (by decide) ?_
  refine r_istore_n (lv2 := [(2, .int (nI 0)), (1, .int (nI 0)), (0, .ref k0)]) C dX0_allGaps_3 rfl (by decide) rfl ?_
  have L4 : ∀ (fu : Nat) (i : Nat), (i ≤ aN a) → (aN a + 1 - i) < fu → V p l e rm_X0_allGaps s m args below meth c G 4 (MQ below (gQ G po) args s rm_X0_allGaps.cells rm_X0_allGaps.slots (gF G)) 0 0 n σ 4 [(0, .ref k0), (1, .int (nI (ofa a 2 i))), (2, .int (nI i))] [] := by
    intro fu
    induction fu with
    | zero => intro i hi hm; exact absurd hm (Nat.not_lt_zero _)
    | succ fu ih4 =>
      intro i hi hm4
      refine r_iload_n C dX0_allGaps_4 rfl 2 rfl ?_
      refine r_aload_n C dX0_allGaps_5 rfl 0 rfl ?_
      refine r_get (Cn := RX0) (T := TX0) (N := 7) (v := .int (nI (kN K))) C inlX0 hc0 rfl 0 (by decide) wF_X0_9 (fun _ h => h) rfl dX0_allGaps_6 ?_
      refine r_icmp_geN (tgt := 43) C dX0_allGaps_9 (by decide) (by omega) (by omega) (fun c9 => ?_) (fun c9 => ?_)
      · have hiN : i = aN a := by omega
        refine r_iload_n C dX0_allGaps_43 rfl 1 rfl ?_
        exact r_iret C hr hlocks (Nat.le_of_ble_eq_true rfl) (Nat.le_of_ble_eq_true rfl) dX0_allGaps_44 (hpo _ _ _ ⟨by rw [hiN], rfl, rfl⟩)
      · have hiN : i < aN a := by omega
        have hrr := rk_31 hA hiN
        obtain ⟨sa, hs, hSA⟩ := hSh i hiN
        obtain ⟨hso_, hBs_, la_, cfl_, sv_, f1_, f2_, f3_, f4_, f5_, hBl_, hz0_, hz1_, hz2_, hz3_, hz4_, hz5_, hz6_, h1_, h2_, h3_, h4_, h5_⟩ := hSA
        have hL_ := hso_.L
        have hb9_ := hL_.b
        refine r_aload_n C dX0_allGaps_12 rfl 0 rfl ?_
        refine r_iload_n C dX0_allGaps_13 rfl 2 rfl ?_
        refine r_callV (As := [.int (nI i)]) C (c_X0_shapeOf_y (k0 := k0) (K := K) (k := i) (sa := sa) hc0 hc1 (by first | assumption | omega) (by first | assumption | omega) (hs)) wM_X0_49 wI_X0_shapeOf wN_X0 wC_X0_shapeOf wV_X0_shapeOf hd_X0_shapeOf ⟨Nat.le_of_ble_eq_true rfl, Nat.le_of_ble_eq_true rfl⟩ rfl hc0 rfl rfl (Nat.le_of_ble_eq_true rfl) dX0_allGaps_14 ⟨(Nat.le_of_ble_eq_true rfl), (Nat.le_of_ble_eq_true rfl)⟩ (fun rv n2 σ2 hp => ?_)
        obtain ⟨rfl, rfl, rfl⟩ := hp
        refine V.eq (σ2 := σ) (n2 := n) (st2 := [.ref sa]) rfl rfl rfl rfl ?_
        refine r_astore_n (lv2 := [(3, .ref sa), (0, .ref k0), (1, .int (nI (ofa a 2 i))), (2, .int (nI i))]) C dX0_allGaps_17 rfl (by decide) rfl ?_
        refine r_aload_n C dX0_allGaps_18 rfl 0 rfl ?_
        refine r_ifnull C dX0_allGaps_19 ?_
        refine r_iload_n C dX0_allGaps_22 rfl 2 rfl ?_
        refine r_aload_n C dX0_allGaps_23 rfl 0 rfl ?_
        refine r_get (Cn := RX2) (T := TX2) (N := 6) (v := .ref la_) C inlX2 hz0_ rfl 3 (by decide) wF_X0_61 (fun _ h => h) rfl dX0_allGaps_24 ?_
        refine r_aload_n C dX0_allGaps_27 rfl 1 rfl ?_
        refine r_iload_n C dX0_allGaps_28 rfl 3 rfl ?_
        refine r_callV (As := [.int (nI i)]) C (c_X0_rankOf (k0 := k0) (K := K) (k := i) hc0 hc2 (by omega)) wM_X0_53 wI_X0_rankOf wN_X0 wC_X0_rankOf wV_X0_rankOf hd_X0_rankOf ⟨Nat.le_of_ble_eq_true rfl, Nat.le_of_ble_eq_true rfl⟩ rfl hc0 rfl rfl (Nat.le_of_ble_eq_true rfl) dX0_allGaps_29 ⟨(Nat.le_of_ble_eq_true rfl), (Nat.le_of_ble_eq_true rfl)⟩ (fun rv n2 σ2 hp => ?_)
        obtain ⟨rfl, rfl, rfl⟩ := hp
        refine V.eq (σ2 := σ) (n2 := n) (st2 := [.int (kR K i), .ref la_, .int (nI (ofa a 2 i))]) rfl rfl rfl rfl ?_
        refine V.top (y := nI (rk (sid (aKd a i)) (aCk a i) (aO a i) (aSd a i))) ((hKA.2.2.2.2 i hiN).1) ?_
        refine r_callV (As := [.int (nI (rk (sid (aKd a i)) (aCk a i) (aO a i) (aSd a i)))]) C (c_X1_gaps (la := la_) (N := (aCk a i)) (cfl := cfl_) (sb := (sid (aKd a i))) (f4 := f4_) (r := (rk (sid (aKd a i)) (aCk a i) (aO a i) (aSd a i))) hz2_ hz6_ (by first | assumption | omega) (by first | assumption | omega) (rk_at hA hiN rfl rfl)) wM_X0_82 wI_X1_gaps wN_X1 wC_X1_gaps wV_X1_gaps hd_X1_gaps ⟨Nat.le_of_ble_eq_true rfl, Nat.le_of_ble_eq_true rfl⟩ rfl hz2_ rfl rfl (Nat.le_of_ble_eq_true rfl) dX0_allGaps_32 ⟨(Nat.le_of_ble_eq_true rfl), (Nat.le_of_ble_eq_true rfl)⟩ (fun rv n2 σ2 hp => ?_)
        obtain ⟨rfl, rfl, rfl⟩ := hp
        refine V.eq (σ2 := σ) (n2 := n) (st2 := [.int (nI (gp (sid (aKd a i)) (aCk a i) (oR (sid (aKd a i)) (aCk a i) (rk (sid (aKd a i)) (aCk a i) (aO a i) (aSd a i))) (sR (sid (aKd a i)) (aCk a i) (rk (sid (aKd a i)) (aCk a i) (aO a i) (aSd a i))))), .int (nI (ofa a 2 i))]) rfl rfl rfl rfl ?_
        refine r_iaddN C dX0_allGaps_35 ?_
        refine r_istore_n (lv2 := [(1, .int (nI (ofa a 2 i + (gp (sid (aKd a i)) (aCk a i) (oR (sid (aKd a i)) (aCk a i) (rk (sid (aKd a i)) (aCk a i) (aO a i) (aSd a i))) (sR (sid (aKd a i)) (aCk a i) (rk (sid (aKd a i)) (aCk a i) (aO a i) (aSd a i))))))), (3, .ref sa), (0, .ref k0), (2, .int (nI i))]) C dX0_allGaps_36 rfl (by decide) rfl ?_
        refine r_iinc (v := nI (i + 1)) (lv2 := [(2, .int (nI (i + 1))), (1, .int (nI (ofa a 2 i + (gp (sid (aKd a i)) (aCk a i) (oR (sid (aKd a i)) (aCk a i) (rk (sid (aKd a i)) (aCk a i) (aO a i) (aSd a i))) (sR (sid (aKd a i)) (aCk a i) (rk (sid (aKd a i)) (aCk a i) (aO a i) (aSd a i))))))), (3, .ref sa), (0, .ref k0)]) C dX0_allGaps_37 (k := 3) rfl (nI_add _ 1) (by decide) rfl ?_
        refine r_goto (tgt := 4) C dX0_allGaps_40 (by decide) ?_
        refine V.sub (lv2 := [(0, .ref k0), (1, .int (nI (ofa a 2 i + (gp (sid (aKd a i)) (aCk a i) (oR (sid (aKd a i)) (aCk a i) (rk (sid (aKd a i)) (aCk a i) (aO a i) (aSd a i))) (sR (sid (aKd a i)) (aCk a i) (rk (sid (aKd a i)) (aCk a i) (aO a i) (aSd a i))))))), (2, .int (nI (i + 1)))]) [3, 1, 0] rfl ?_
        refine V.eq (σ2 := σ) (lv2 := [(0, .ref k0), (1, .int (nI (ofa a 2 (i + 1)))), (2, .int (nI (i + 1)))]) (st2 := []) rfl rfl (by rw [(show nI (ofa a 2 i + (gp (sid (aKd a i)) (aCk a i) (oR (sid (aKd a i)) (aCk a i) (rk (sid (aKd a i)) (aCk a i) (aO a i) (aSd a i))) (sR (sid (aKd a i)) (aCk a i) (rk (sid (aKd a i)) (aCk a i) (aO a i) (aSd a i))))) = nI (ofa a 2 (i + 1)) from by rw [ofa2 hA hiN])]) rfl ?_
        exact ih4 (i + 1) (by omega) (by omega)
  refine V.sub (lv2 := [(0, .ref k0), (1, .int (nI 0)), (2, .int (nI 0))]) [2, 1, 0] rfl ?_
  refine V.eq (σ2 := σ) (lv2 := [(0, .ref k0), (1, .int (nI (ofa a 2 0))), (2, .int (nI 0))]) (st2 := []) rfl rfl rfl rfl ?_
  exact L4 _ 0 (by omega) (Nat.lt_succ_self _)

abbrev rm_X0_allTurns : Room := { frames := 0, cells := 0, slots := 0, locals := 0 }
set_option maxRecDepth 100000 in
set_option maxHeartbeats 4000000 in
theorem c_X0_allTurns {l : Launch} {G : gG} {n : Nat} {σ : gS} {k0 : Nat} {K : KT} (hc0 : σ k0 = some (.inr (0, [.int (nI (kN K)), .int (nI (kH K)), .ref (k0 + 1), .ref (k0 + 2), .ref (k0 + 3), .ref (k0 + 4), .ref (k0 + 5)]))) (hc1 : σ (k0 + 1) = some (aI G 3 (kT K)))  : GM l G yX0_allTurns cX0_allTurns 3 (some .int) rm_X0_allTurns n σ [.ref k0] (fun rv n2 σ2 => some (.int (kT K 0 + kT K 1 + kT K 2)) = rv ∧ n = n2 ∧ σ = σ2) := by
  refine GM.intro (by decide +kernel) (Nat.le_of_ble_eq_true rfl) (fun p e s m args below meth c C hr hlocks hname po hpo => ?_)
  have C : Cx p s m args c cX0_allTurns 3 RX0 G := C
  refine r_iconst (v := nI 0) C dX0_allTurns_0 (by decide) ?_
  refine r_istore_n (lv2 := [(1, .int (nI 0)), (0, .ref k0)]) C dX0_allTurns_1 rfl (by decide) rfl ?_
  refine r_iconst (v := nI 0) C dX0_allTurns_2 (by decide) ?_
  refine r_istore_n (lv2 := [(2, .int (nI 0)), (1, .int (nI 0)), (0, .ref k0)]) C dX0_allTurns_3 rfl (by decide) rfl ?_
  refine r_iload_n C dX0_allTurns_4 rfl 0 rfl ?_
  refine r_aload_n C dX0_allTurns_5 rfl 2 rfl ?_
  refine r_get (Cn := RX0) (T := TX0) (N := 7) (v := .ref (k0 + 1)) C inlX0 hc0 rfl 2 (by decide) wF_X0_18 (fun _ h => h) rfl dX0_allTurns_6 ?_
  refine r_alenI C hc1 dX0_allTurns_9 ?_
  refine r_icmp_geN (tgt := 28) C dX0_allTurns_10 (by decide) (by decide) (by decide) (fun z => absurd z (by decide)) (fun _ => ?_)
  refine r_iload_n C dX0_allTurns_13 rfl 1 rfl ?_
  refine r_aload_n C dX0_allTurns_14 rfl 2 rfl ?_
  refine r_get (Cn := RX0) (T := TX0) (N := 7) (v := .ref (k0 + 1)) C inlX0 hc0 rfl 2 (by decide) wF_X0_18 (fun _ h => h) rfl dX0_allTurns_15 ?_
  refine r_iload_n C dX0_allTurns_18 rfl 0 rfl ?_
  refine r_ialdN C hc1 (by decide) (by decide) dX0_allTurns_19 ?_
  refine r_iadd C dX0_allTurns_20 ?_
  refine r_istore_n (lv2 := [(1, .int ((nI 0) + ((kT K) 0))), (2, .int (nI 0)), (0, .ref k0)]) C dX0_allTurns_21 rfl (by decide) rfl ?_
  refine r_iinc (v := nI 1) (lv2 := [(2, .int (nI 1)), (1, .int ((nI 0) + ((kT K) 0))), (0, .ref k0)]) C dX0_allTurns_22 (k := 1) rfl (by decide) (by decide) rfl ?_
  refine r_goto (tgt := 4) C dX0_allTurns_25 (by decide) ?_
  refine r_iload_n C dX0_allTurns_4 rfl 0 rfl ?_
  refine r_aload_n C dX0_allTurns_5 rfl 2 rfl ?_
  refine r_get (Cn := RX0) (T := TX0) (N := 7) (v := .ref (k0 + 1)) C inlX0 hc0 rfl 2 (by decide) wF_X0_18 (fun _ h => h) rfl dX0_allTurns_6 ?_
  refine r_alenI C hc1 dX0_allTurns_9 ?_
  refine r_icmp_geN (tgt := 28) C dX0_allTurns_10 (by decide) (by decide) (by decide) (fun z => absurd z (by decide)) (fun _ => ?_)
  refine r_iload_n C dX0_allTurns_13 rfl 1 rfl ?_
  refine r_aload_n C dX0_allTurns_14 rfl 2 rfl ?_
  refine r_get (Cn := RX0) (T := TX0) (N := 7) (v := .ref (k0 + 1)) C inlX0 hc0 rfl 2 (by decide) wF_X0_18 (fun _ h => h) rfl dX0_allTurns_15 ?_
  refine r_iload_n C dX0_allTurns_18 rfl 0 rfl ?_
  refine r_ialdN C hc1 (by decide) (by decide) dX0_allTurns_19 ?_
  refine r_iadd C dX0_allTurns_20 ?_
  refine r_istore_n (lv2 := [(1, .int (((nI 0) + ((kT K) 0)) + ((kT K) 1))), (2, .int (nI 1)), (0, .ref k0)]) C dX0_allTurns_21 rfl (by decide) rfl ?_
  refine r_iinc (v := nI 2) (lv2 := [(2, .int (nI 2)), (1, .int (((nI 0) + ((kT K) 0)) + ((kT K) 1))), (0, .ref k0)]) C dX0_allTurns_22 (k := 1) rfl (by decide) (by decide) rfl ?_
  refine r_goto (tgt := 4) C dX0_allTurns_25 (by decide) ?_
  refine r_iload_n C dX0_allTurns_4 rfl 0 rfl ?_
  refine r_aload_n C dX0_allTurns_5 rfl 2 rfl ?_
  refine r_get (Cn := RX0) (T := TX0) (N := 7) (v := .ref (k0 + 1)) C inlX0 hc0 rfl 2 (by decide) wF_X0_18 (fun _ h => h) rfl dX0_allTurns_6 ?_
  refine r_alenI C hc1 dX0_allTurns_9 ?_
  refine r_icmp_geN (tgt := 28) C dX0_allTurns_10 (by decide) (by decide) (by decide) (fun z => absurd z (by decide)) (fun _ => ?_)
  refine r_iload_n C dX0_allTurns_13 rfl 1 rfl ?_
  refine r_aload_n C dX0_allTurns_14 rfl 2 rfl ?_
  refine r_get (Cn := RX0) (T := TX0) (N := 7) (v := .ref (k0 + 1)) C inlX0 hc0 rfl 2 (by decide) wF_X0_18 (fun _ h => h) rfl dX0_allTurns_15 ?_
  refine r_iload_n C dX0_allTurns_18 rfl 0 rfl ?_
  refine r_ialdN C hc1 (by decide) (by decide) dX0_allTurns_19 ?_
  refine r_iadd C dX0_allTurns_20 ?_
  refine r_istore_n (lv2 := [(1, .int ((((nI 0) + ((kT K) 0)) + ((kT K) 1)) + ((kT K) 2))), (2, .int (nI 2)), (0, .ref k0)]) C dX0_allTurns_21 rfl (by decide) rfl ?_
  refine r_iinc (v := nI 3) (lv2 := [(2, .int (nI 3)), (1, .int ((((nI 0) + ((kT K) 0)) + ((kT K) 1)) + ((kT K) 2))), (0, .ref k0)]) C dX0_allTurns_22 (k := 1) rfl (by decide) (by decide) rfl ?_
  refine r_goto (tgt := 4) C dX0_allTurns_25 (by decide) ?_
  refine r_iload_n C dX0_allTurns_4 rfl 0 rfl ?_
  refine r_aload_n C dX0_allTurns_5 rfl 2 rfl ?_
  refine r_get (Cn := RX0) (T := TX0) (N := 7) (v := .ref (k0 + 1)) C inlX0 hc0 rfl 2 (by decide) wF_X0_18 (fun _ h => h) rfl dX0_allTurns_6 ?_
  refine r_alenI C hc1 dX0_allTurns_9 ?_
  refine r_icmp_geN (tgt := 28) C dX0_allTurns_10 (by decide) (by decide) (by decide) (fun _ => ?_) (fun z => absurd z (by decide))
  refine r_iload_n C dX0_allTurns_28 rfl 1 rfl ?_
  exact r_iret C hr hlocks (Nat.le_of_ble_eq_true rfl) (Nat.le_of_ble_eq_true rfl) dX0_allTurns_29 (hpo _ _ _ ⟨by rw [show nI 0 + kT K 0 = kT K 0 from Int32.zero_add _], rfl, rfl⟩)

abbrev rm_X5_init : Room := { frames := 1, cells := 1, slots := 50, locals := 20 }
set_option maxRecDepth 100000 in
set_option maxHeartbeats 4000000 in
theorem c_X5_init {l : Launch} {G : gG} {σ : gS} {x0 : Nat} (hc0 : σ x0 = some (.inr (5, [.int (nI 0), .int (nI 0), .int (nI 0), .int (nI 0), .null, .int (nI 0), .int (nI 0)])))  : GM l G yX5_init cX5_init 1 none rm_X5_init (x0 + 1) σ [.ref x0] (fun rv n2 σ2 => (none : Option Value) = rv ∧ x0 + 2 = n2 ∧ (RW σ x0 [(.inr (5, [.int (nI 0), .int (nI 0), .int (nI 0), .int (nI 0), .ref (x0 + 1), .int (-1), .int (nI 0)])), (aI G 50 (fun _ => 0))]) = σ2) := by
  refine GM.intro (by decide +kernel) (Nat.le_of_ble_eq_true rfl) (fun p e s m args below meth c C hr hlocks hname po hpo => ?_)
  have C : Cx p s m args c cX5_init 1 RX5 G := C
  refine V.hp (σ2 := (RW σ x0 [(.inr (5, [.int (nI 0), .int (nI 0), .int (nI 0), .int (nI 0), .null, .int (nI 0), .int (nI 0)]))])) (RW_cons hc0 (RW_nil _ _)).symm ?_
  refine r_aload_n C dX5_init_0 rfl 0 rfl ?_
  refine r_objInit C wM_X5_3 wI_objectInit wC_objectInit (by decide) dX5_init_1 (by decide) (by decide) ?_
  refine r_aload_n C dX5_init_4 rfl 0 rfl ?_
  refine r_iconst (v := nI 0) C dX5_init_5 (by decide) ?_
  refine r_put (Cn := RX5) (T := TX5) (N := 7) (fs2 := [.int (nI 0), .int (nI 0), .int (nI 0), .int (nI 0), .null, .int (nI 0), .int (nI 0)]) C inlX5 tyX5 tyX5_ok nmX5 (RW_at0 rfl) rfl 0 (by decide) wF_X5_9 (fun _ h => h) rfl (tyX5_ok 0 (by decide)) rfl rfl (Nat.le_of_ble_eq_true rfl) rfl dX5_init_6 ?_
  refine V.hp (σ2 := (RW σ x0 [(.inr (5, [.int (nI 0), .int (nI 0), .int (nI 0), .int (nI 0), .null, .int (nI 0), .int (nI 0)]))])) (RW_set0 (Nat.le_of_ble_eq_true rfl) rfl) ?_
  refine r_aload_n C dX5_init_9 rfl 0 rfl ?_
  refine r_iconst (v := nI 0) C dX5_init_10 (by decide) ?_
  refine r_put (Cn := RX5) (T := TX5) (N := 7) (fs2 := [.int (nI 0), .int (nI 0), .int (nI 0), .int (nI 0), .null, .int (nI 0), .int (nI 0)]) C inlX5 tyX5 tyX5_ok nmX5 (RW_at0 rfl) rfl 1 (by decide) wF_X5_15 (fun _ h => h) rfl (tyX5_ok 1 (by decide)) rfl rfl (Nat.le_of_ble_eq_true rfl) rfl dX5_init_11 ?_
  refine V.hp (σ2 := (RW σ x0 [(.inr (5, [.int (nI 0), .int (nI 0), .int (nI 0), .int (nI 0), .null, .int (nI 0), .int (nI 0)]))])) (RW_set0 (Nat.le_of_ble_eq_true rfl) rfl) ?_
  refine r_aload_n C dX5_init_14 rfl 0 rfl ?_
  refine r_iconst (v := nI 0) C dX5_init_15 (by decide) ?_
  refine r_put (Cn := RX5) (T := TX5) (N := 7) (fs2 := [.int (nI 0), .int (nI 0), .int (nI 0), .int (nI 0), .null, .int (nI 0), .int (nI 0)]) C inlX5 tyX5 tyX5_ok nmX5 (RW_at0 rfl) rfl 2 (by decide) wF_X5_18 (fun _ h => h) rfl (tyX5_ok 2 (by decide)) rfl rfl (Nat.le_of_ble_eq_true rfl) rfl dX5_init_16 ?_
  refine V.hp (σ2 := (RW σ x0 [(.inr (5, [.int (nI 0), .int (nI 0), .int (nI 0), .int (nI 0), .null, .int (nI 0), .int (nI 0)]))])) (RW_set0 (Nat.le_of_ble_eq_true rfl) rfl) ?_
  refine r_aload_n C dX5_init_19 rfl 0 rfl ?_
  refine r_iconst (v := nI 0) C dX5_init_20 (by decide) ?_
  refine r_put (Cn := RX5) (T := TX5) (N := 7) (fs2 := [.int (nI 0), .int (nI 0), .int (nI 0), .int (nI 0), .null, .int (nI 0), .int (nI 0)]) C inlX5 tyX5 tyX5_ok nmX5 (RW_at0 rfl) rfl 3 (by decide) wF_X5_21 (fun _ h => h) rfl (tyX5_ok 3 (by decide)) rfl rfl (Nat.le_of_ble_eq_true rfl) rfl dX5_init_21 ?_
  refine V.hp (σ2 := (RW σ x0 [(.inr (5, [.int (nI 0), .int (nI 0), .int (nI 0), .int (nI 0), .null, .int (nI 0), .int (nI 0)]))])) (RW_set0 (Nat.le_of_ble_eq_true rfl) rfl) ?_
  refine r_aload_n C dX5_init_24 rfl 0 rfl ?_
  refine r_bipush (v := nI 50) C dX5_init_25 (by decide) ?_
  refine r_newarrI C wA_int (by decide) (Nat.le_of_ble_eq_true rfl) (Nat.le_of_ble_eq_true rfl) dX5_init_27 ?_
  refine V.eq (σ2 := (hU (RW σ x0 [(.inr (5, [.int (nI 0), .int (nI 0), .int (nI 0), .int (nI 0), .null, .int (nI 0), .int (nI 0)]))]) (x0 + 1) (aI G 50 (fun _ => 0)))) (n2 := x0 + 2) rfl rfl rfl rfl ?_
  refine V.hp (σ2 := (RW σ x0 [(.inr (5, [.int (nI 0), .int (nI 0), .int (nI 0), .int (nI 0), .null, .int (nI 0), .int (nI 0)])), (aI G 50 (fun _ => 0))])) (RW_snoc (m := 1) rfl rfl) ?_
  refine r_putF (Cn := RX5) (T := TX5) (N := 7) (fs2 := [.int (nI 0), .int (nI 0), .int (nI 0), .int (nI 0), .ref (x0 + 1), .int (nI 0), .int (nI 0)]) C inlX5 tyX5 tyX5_ok nmX5 (RW_at0 rfl) rfl 4 (by decide) wF_X5_24 (fun _ h => h) rfl hname rfl (tyX5_ok 4 (by decide)) rfl rfl (Nat.le_of_ble_eq_true rfl) rfl dX5_init_29 ?_
  refine V.hp (σ2 := (RW σ x0 [(.inr (5, [.int (nI 0), .int (nI 0), .int (nI 0), .int (nI 0), .ref (x0 + 1), .int (nI 0), .int (nI 0)])), (aI G 50 (fun _ => 0))])) (RW_set0 (Nat.le_of_ble_eq_true rfl) rfl) ?_
  refine r_aload_n C dX5_init_32 rfl 0 rfl ?_
  refine r_iconst (v := (-1)) C dX5_init_33 (by decide) ?_
  refine r_put (Cn := RX5) (T := TX5) (N := 7) (fs2 := [.int (nI 0), .int (nI 0), .int (nI 0), .int (nI 0), .ref (x0 + 1), .int (-1), .int (nI 0)]) C inlX5 tyX5 tyX5_ok nmX5 (RW_at0 rfl) rfl 5 (by decide) wF_X5_28 (fun _ h => h) rfl (tyX5_ok 5 (by decide)) rfl rfl (Nat.le_of_ble_eq_true rfl) rfl dX5_init_34 ?_
  refine V.hp (σ2 := (RW σ x0 [(.inr (5, [.int (nI 0), .int (nI 0), .int (nI 0), .int (nI 0), .ref (x0 + 1), .int (-1), .int (nI 0)])), (aI G 50 (fun _ => 0))])) (RW_set0 (Nat.le_of_ble_eq_true rfl) rfl) ?_
  refine r_aload_n C dX5_init_37 rfl 0 rfl ?_
  refine r_iconst (v := nI 0) C dX5_init_38 (by decide) ?_
  refine r_put (Cn := RX5) (T := TX5) (N := 7) (fs2 := [.int (nI 0), .int (nI 0), .int (nI 0), .int (nI 0), .ref (x0 + 1), .int (-1), .int (nI 0)]) C inlX5 tyX5 tyX5_ok nmX5 (RW_at0 rfl) rfl 6 (by decide) wF_X5_31 (fun _ h => h) rfl (tyX5_ok 6 (by decide)) rfl rfl (Nat.le_of_ble_eq_true rfl) rfl dX5_init_39 ?_
  refine V.hp (σ2 := (RW σ x0 [(.inr (5, [.int (nI 0), .int (nI 0), .int (nI 0), .int (nI 0), .ref (x0 + 1), .int (-1), .int (nI 0)])), (aI G 50 (fun _ => 0))])) (RW_set0 (Nat.le_of_ble_eq_true rfl) rfl) ?_
  exact r_vret C hr hlocks (Nat.le_of_ble_eq_true rfl) (Nat.le_of_ble_eq_true rfl) dX5_init_42 (hpo _ _ _ ⟨rfl, rfl, rfl⟩)

abbrev rm_X5_append_f : Room := { frames := 0, cells := 0, slots := 0, locals := 0 }
set_option maxRecDepth 100000 in
set_option maxHeartbeats 4000000 in
theorem c_X5_append_f {l : Launch} {G : gG} {n : Nat} {σ : gS} {x0 L : Nat} {rs fp tn op dg : Int32} {fx : Nat → Int32} {x : Int32} (hc0 : σ x0 = some (.inr (5, [.int (nI L), .int rs, .int fp, .int tn, .ref (x0 + 1), .int op, .int dg]))) (hc1 : σ (x0 + 1) = some (aI G 50 fx)) (hL : L = 50) : GM l G yX5_append cX5_append 2 (some .boolean) rm_X5_append_f n σ [.ref x0, .int x] (fun rv n2 σ2 => some (.int (bI false)) = rv ∧ n = n2 ∧ σ = σ2) := by
  refine GM.intro (by decide +kernel) (Nat.le_of_ble_eq_true rfl) (fun p e s m args below meth c C hr hlocks hname po hpo => ?_)
  have C : Cx p s m args c cX5_append 2 RX5 G := C
  refine r_aload_n C dX5_append_0 rfl 0 rfl ?_
  refine r_get (Cn := RX5) (T := TX5) (N := 7) (v := .int (nI L)) C inlX5 hc0 rfl 0 (by decide) wF_X5_9 (fun _ h => h) rfl dX5_append_1 ?_
  refine r_aload_n C dX5_append_4 rfl 0 rfl ?_
  refine r_get (Cn := RX5) (T := TX5) (N := 7) (v := .ref (x0 + 1)) C inlX5 hc0 rfl 4 (by decide) wF_X5_24 (fun _ h => h) rfl dX5_append_5 ?_
  refine r_alenI C hc1 dX5_append_8 ?_
  refine r_icmp_ltN (tgt := 14) C dX5_append_9 (by decide) (by omega) (by decide) (fun c9 => ?_) (fun c9 => ?_)
  · exact absurd c9 (by omega)
  · refine r_iconst (v := nI 0) C dX5_append_12 (by decide) ?_
    exact r_zret C (by decide) hr hlocks (Nat.le_of_ble_eq_true rfl) (Nat.le_of_ble_eq_true rfl) dX5_append_13 (hpo _ _ _ ⟨bI_f (by first | assumption | (simp; omega) | simp_all), rfl, rfl⟩)

abbrev rm_X5_append_y : Room := { frames := 1, cells := 0, slots := 0, locals := 22 }
set_option maxRecDepth 100000 in
set_option maxHeartbeats 4000000 in
theorem c_X5_append_y {l : Launch} {G : gG} {n : Nat} {σ : gS} {x0 L : Nat} {rs fp tn op dg : Int32} {fx : Nat → Int32} {x : Int32} (hc0 : σ x0 = some (.inr (5, [.int (nI L), .int rs, .int fp, .int tn, .ref (x0 + 1), .int op, .int dg]))) (hc1 : σ (x0 + 1) = some (aI G 50 fx)) (hL : L < 50) : GM l G yX5_append cX5_append 2 (some .boolean) rm_X5_append_y n σ [.ref x0, .int x] (fun rv n2 σ2 => some (.int (bI true)) = rv ∧ n = n2 ∧ (RW σ x0 [(.inr (5, [.int (nI (L + 1)), .int rs, .int fp, .int tn, .ref (x0 + 1), .int op, .int dg])), (aI G 50 (upd fx L x))]) = σ2) := by
  refine GM.intro (by decide +kernel) (Nat.le_of_ble_eq_true rfl) (fun p e s m args below meth c C hr hlocks hname po hpo => ?_)
  have C : Cx p s m args c cX5_append 2 RX5 G := C
  refine V.hp (σ2 := (RW σ x0 [(.inr (5, [.int (nI L), .int rs, .int fp, .int tn, .ref (x0 + 1), .int op, .int dg])), (aI G 50 fx)])) (RW_cons hc0 (RW_cons hc1 (RW_nil _ _))).symm ?_
  refine r_aload_n C dX5_append_0 rfl 0 rfl ?_
  refine r_get (Cn := RX5) (T := TX5) (N := 7) (v := .int (nI L)) C inlX5 (RW_at0 rfl) rfl 0 (by decide) wF_X5_9 (fun _ h => h) rfl dX5_append_1 ?_
  refine r_aload_n C dX5_append_4 rfl 0 rfl ?_
  refine r_get (Cn := RX5) (T := TX5) (N := 7) (v := .ref (x0 + 1)) C inlX5 (RW_at0 rfl) rfl 4 (by decide) wF_X5_24 (fun _ h => h) rfl dX5_append_5 ?_
  refine r_alenI C (RW_at 1 rfl) dX5_append_8 ?_
  refine r_icmp_ltN (tgt := 14) C dX5_append_9 (by decide) (by omega) (by decide) (fun c9 => ?_) (fun c9 => ?_)
  · refine r_aload_n C dX5_append_14 rfl 0 rfl ?_
    refine r_get (Cn := RX5) (T := TX5) (N := 7) (v := .ref (x0 + 1)) C inlX5 (RW_at0 rfl) rfl 4 (by decide) wF_X5_24 (fun _ h => h) rfl dX5_append_15 ?_
    refine r_aload_n C dX5_append_18 rfl 0 rfl ?_
    refine r_get (Cn := RX5) (T := TX5) (N := 7) (v := .int (nI L)) C inlX5 (RW_at0 rfl) rfl 0 (by decide) wF_X5_9 (fun _ h => h) rfl dX5_append_19 ?_
    refine r_iload_n C dX5_append_22 rfl 1 rfl ?_
    refine r_callSN (As := [.ref (x0 + 1), .int (nI L), .int x]) C (c_X6_put (a := x0 + 1) (len := 50) (f := fx) (i := L) (x := x) (RW_at 1 rfl) (hL) (by first | assumption | omega)) wZ_X5_34 wS_X6_put wN_X6 wC_X6_put hd_X6_put ⟨Nat.le_of_ble_eq_true rfl, Nat.le_of_ble_eq_true rfl⟩ rfl rfl (Nat.le_of_ble_eq_true rfl) dX5_append_23 ⟨(Nat.le_of_ble_eq_true rfl), (Nat.le_of_ble_eq_true rfl)⟩ (fun rv n2 σ2 hp => ?_)
    obtain ⟨rfl, rfl, rfl⟩ := hp
    refine V.eq (σ2 := (hU (RW σ x0 [(.inr (5, [.int (nI L), .int rs, .int fp, .int tn, .ref (x0 + 1), .int op, .int dg])), (aI G 50 fx)]) (x0 + 1) (aI G 50 (upd fx L x)))) (n2 := n) (st2 := []) rfl rfl rfl rfl ?_
    refine V.hp (σ2 := (RW σ x0 [(.inr (5, [.int (nI L), .int rs, .int fp, .int tn, .ref (x0 + 1), .int op, .int dg])), (aI G 50 (upd fx L x))])) (RW_set 1 (Nat.le_of_ble_eq_true rfl) rfl) ?_
    refine r_aload_n C dX5_append_26 rfl 0 rfl ?_
    refine r_dup C dX5_append_27 rfl ?_
    refine r_get (Cn := RX5) (T := TX5) (N := 7) (v := .int (nI L)) C inlX5 (RW_at0 rfl) rfl 0 (by decide) wF_X5_9 (fun _ h => h) rfl dX5_append_28 ?_
    refine r_iconst (v := nI 1) C dX5_append_31 (by decide) ?_
    refine r_iaddN C dX5_append_32 ?_
    refine r_put (Cn := RX5) (T := TX5) (N := 7) (fs2 := [.int (nI (L + 1)), .int rs, .int fp, .int tn, .ref (x0 + 1), .int op, .int dg]) C inlX5 tyX5 tyX5_ok nmX5 (RW_at0 rfl) rfl 0 (by decide) wF_X5_9 (fun _ h => h) rfl (tyX5_ok 0 (by decide)) rfl rfl (Nat.le_of_ble_eq_true rfl) rfl dX5_append_33 ?_
    refine V.hp (σ2 := (RW σ x0 [(.inr (5, [.int (nI (L + 1)), .int rs, .int fp, .int tn, .ref (x0 + 1), .int op, .int dg])), (aI G 50 (upd fx L x))])) (RW_set0 (Nat.le_of_ble_eq_true rfl) rfl) ?_
    refine r_iconst (v := nI 1) C dX5_append_36 (by decide) ?_
    exact r_zret C (by decide) hr hlocks (Nat.le_of_ble_eq_true rfl) (Nat.le_of_ble_eq_true rfl) dX5_append_37 (hpo _ _ _ ⟨bI_t (by first | assumption | (simp; omega) | simp_all), rfl, rfl⟩)
  · exact absurd c9 (by omega)

abbrev rm_X5_empty : Room := { frames := 0, cells := 0, slots := 0, locals := 0 }
set_option maxRecDepth 100000 in
set_option maxHeartbeats 4000000 in
theorem c_X5_empty {l : Launch} {G : gG} {n : Nat} {σ : gS} {x0 L : Nat} {rs fp tn op dg : Int32} (hc0 : σ x0 = some (.inr (5, [.int (nI L), .int rs, .int fp, .int tn, .ref (x0 + 1), .int op, .int dg])))  : GM l G yX5_empty cX5_empty 2 (some .int) rm_X5_empty n σ [.ref x0] (fun rv n2 σ2 => some (.int (nI L)) = rv ∧ n = n2 ∧ (hU σ x0 (.inr (5, [.int (nI 0), .int rs, .int fp, .int tn, .ref (x0 + 1), .int op, .int dg]))) = σ2) := by
  refine GM.intro (by decide +kernel) (Nat.le_of_ble_eq_true rfl) (fun p e s m args below meth c C hr hlocks hname po hpo => ?_)
  have C : Cx p s m args c cX5_empty 2 RX5 G := C
  refine r_aload_n C dX5_empty_0 rfl 0 rfl ?_
  refine r_get (Cn := RX5) (T := TX5) (N := 7) (v := .int (nI L)) C inlX5 hc0 rfl 0 (by decide) wF_X5_9 (fun _ h => h) rfl dX5_empty_1 ?_
  refine r_istore_n (lv2 := [(1, .int (nI L)), (0, .ref x0)]) C dX5_empty_4 rfl (by decide) rfl ?_
  refine r_aload_n C dX5_empty_5 rfl 1 rfl ?_
  refine r_iconst (v := nI 0) C dX5_empty_6 (by decide) ?_
  refine r_put (Cn := RX5) (T := TX5) (N := 7) (fs2 := [.int (nI 0), .int rs, .int fp, .int tn, .ref (x0 + 1), .int op, .int dg]) C inlX5 tyX5 tyX5_ok nmX5 hc0 rfl 0 (by decide) wF_X5_9 (fun _ h => h) rfl (tyX5_ok 0 (by decide)) rfl rfl (Nat.le_of_ble_eq_true rfl) rfl dX5_empty_7 ?_
  refine r_iload_n C dX5_empty_10 rfl 0 rfl ?_
  exact r_iret C hr hlocks (Nat.le_of_ble_eq_true rfl) (Nat.le_of_ble_eq_true rfl) dX5_empty_11 (hpo _ _ _ ⟨rfl, rfl, rfl⟩)

abbrev rm_X5_openOrder_1 : Room := { frames := 6, cells := 0, slots := 0, locals := 300 }
set_option maxRecDepth 100000 in
set_option maxHeartbeats 4000000 in
theorem c_X5_openOrder_1 {l : Launch} {G : gG} {n : Nat} {σ : gS} {x0 L : Nat} {rs fp tn op dg : Int32} {k0 w : Nat}  (hw : w < 128) (hbad : ¬ (65 ≤ w ∧ w ≤ 69)) : GM l G yX5_openOrder cX5_openOrder 3 (some .int) rm_X5_openOrder_1 n σ [.ref x0, .int (nI w), .ref k0] (fun rv n2 σ2 => some (.int (nI 1)) = rv ∧ n = n2 ∧ σ = σ2) := by
  refine GM.intro (by decide +kernel) (Nat.le_of_ble_eq_true rfl) (fun p e s m args below meth c C hr hlocks hname po hpo => ?_)
  have C : Cx p s m args c cX5_openOrder 3 RX5 G := C
  refine r_iload_n C dX5_openOrder_0 rfl 1 rfl ?_
  refine r_bipush (v := nI 65) C dX5_openOrder_1 (by decide) ?_
  refine r_icmp_ltN (tgt := 12) C dX5_openOrder_3 (by decide) (by omega) (by decide) (fun c3 => ?_) (fun c3 => ?_)
  · refine r_iconst (v := nI 1) C dX5_openOrder_12 (by decide) ?_
    exact r_iret C hr hlocks (Nat.le_of_ble_eq_true rfl) (Nat.le_of_ble_eq_true rfl) dX5_openOrder_13 (hpo _ _ _ ⟨rfl, rfl, rfl⟩)
  · refine r_iload_n C dX5_openOrder_6 rfl 1 rfl ?_
    refine r_bipush (v := nI 70) C dX5_openOrder_7 (by decide) ?_
    refine r_icmp_ltN (tgt := 14) C dX5_openOrder_9 (by decide) (by omega) (by decide) (fun c9 => ?_) (fun c9 => ?_)
    · exact absurd c9 (by omega)
    · refine r_iconst (v := nI 1) C dX5_openOrder_12 (by decide) ?_
      exact r_iret C hr hlocks (Nat.le_of_ble_eq_true rfl) (Nat.le_of_ble_eq_true rfl) dX5_openOrder_13 (hpo _ _ _ ⟨rfl, rfl, rfl⟩)

abbrev rm_X5_openOrder_2 : Room := { frames := 6, cells := 0, slots := 0, locals := 300 }
set_option maxRecDepth 100000 in
set_option maxHeartbeats 4000000 in
theorem c_X5_openOrder_2 {l : Launch} {G : gG} {n : Nat} {σ : gS} {x0 L : Nat} {rs fp tn op dg : Int32} {k0 : Nat} {K : KT} {w : Nat} (hc0 : σ k0 = some (.inr (0, [.int (nI (kN K)), .int (nI (kH K)), .ref (k0 + 1), .ref (k0 + 2), .ref (k0 + 3), .ref (k0 + 4), .ref (k0 + 5)]))) (hw : 65 ≤ w ∧ w ≤ 69) (hk5 : kN K ≤ 5) (hno : kN K ≤ w - 65) : GM l G yX5_openOrder cX5_openOrder 3 (some .int) rm_X5_openOrder_2 n σ [.ref x0, .int (nI w), .ref k0] (fun rv n2 σ2 => some (.int (nI 2)) = rv ∧ n = n2 ∧ σ = σ2) := by
  refine GM.intro (by decide +kernel) (Nat.le_of_ble_eq_true rfl) (fun p e s m args below meth c C hr hlocks hname po hpo => ?_)
  have C : Cx p s m args c cX5_openOrder 3 RX5 G := C
  refine r_iload_n C dX5_openOrder_0 rfl 1 rfl ?_
  refine r_bipush (v := nI 65) C dX5_openOrder_1 (by decide) ?_
  refine r_icmp_ltN (tgt := 12) C dX5_openOrder_3 (by decide) (by omega) (by decide) (fun c3 => ?_) (fun c3 => ?_)
  · exact absurd c3 (by omega)
  · refine r_iload_n C dX5_openOrder_6 rfl 1 rfl ?_
    refine r_bipush (v := nI 70) C dX5_openOrder_7 (by decide) ?_
    refine r_icmp_ltN (tgt := 14) C dX5_openOrder_9 (by decide) (by omega) (by decide) (fun c9 => ?_) (fun c9 => ?_)
    · refine r_aload_n C dX5_openOrder_14 rfl 2 rfl ?_
      refine r_iload_n C dX5_openOrder_15 rfl 1 rfl ?_
      refine r_bipush (v := nI 65) C dX5_openOrder_16 (by decide) ?_
      refine r_isubN C dX5_openOrder_18 (by omega) ?_
      refine r_callV (As := [.int (nI (w - 65))]) C (c_X0_shapeOf_n (k0 := k0) (K := K) (x := nI (w - 65)) hc0 (by first | assumption | omega) (by rw [isS_dec hk5 (by omega)]; exact decide_eq_false (by omega))) wM_X5_52 wI_X0_shapeOf wN_X0 wC_X0_shapeOf wV_X0_shapeOf hd_X0_shapeOf ⟨Nat.le_of_ble_eq_true rfl, Nat.le_of_ble_eq_true rfl⟩ rfl hc0 rfl rfl (Nat.le_of_ble_eq_true rfl) dX5_openOrder_19 ⟨(Nat.le_of_ble_eq_true rfl), (Nat.le_of_ble_eq_true rfl)⟩ (fun rv n2 σ2 hp => ?_)
      obtain ⟨rfl, rfl, rfl⟩ := hp
      refine V.eq (σ2 := σ) (n2 := n) (st2 := [.null]) rfl rfl rfl rfl ?_
      refine r_ifnonnullN C dX5_openOrder_22 ?_
      refine r_iconst (v := nI 2) C dX5_openOrder_25 (by decide) ?_
      exact r_iret C hr hlocks (Nat.le_of_ble_eq_true rfl) (Nat.le_of_ble_eq_true rfl) dX5_openOrder_26 (hpo _ _ _ ⟨rfl, rfl, rfl⟩)
    · exact absurd c9 (by omega)

abbrev rm_X5_openOrder_0 : Room := { frames := 6, cells := 0, slots := 0, locals := 300 }
set_option maxRecDepth 100000 in
set_option maxHeartbeats 4000000 in
theorem c_X5_openOrder_0 {l : Launch} {G : gG} {n : Nat} {σ : gS} {x0 L : Nat} {rs fp tn op dg : Int32} {k0 : Nat} {K : KT} {w sa : Nat} (hc0 : σ x0 = some (.inr (5, [.int (nI L), .int rs, .int fp, .int tn, .ref (x0 + 1), .int op, .int dg]))) (hc1 : σ k0 = some (.inr (0, [.int (nI (kN K)), .int (nI (kH K)), .ref (k0 + 1), .ref (k0 + 2), .ref (k0 + 3), .ref (k0 + 4), .ref (k0 + 5)]))) (hc2 : σ (k0 + 3) = some (aR 4 G 5 (kS K))) (hw : 65 ≤ w ∧ w ≤ 69) (hk5 : kN K ≤ 5) (hno : w - 65 < kN K) (hs : kS K (w - 65) = some sa) : GM l G yX5_openOrder cX5_openOrder 3 (some .int) rm_X5_openOrder_0 n σ [.ref x0, .int (nI w), .ref k0] (fun rv n2 σ2 => some (.int (nI 0)) = rv ∧ n = n2 ∧ (hU σ x0 (.inr (5, [.int (nI L), .int rs, .int fp, .int tn, .ref (x0 + 1), .int (nI (w - 65)), .int (nI 0)]))) = σ2) := by
  refine GM.intro (by decide +kernel) (Nat.le_of_ble_eq_true rfl) (fun p e s m args below meth c C hr hlocks hname po hpo => ?_)
  have C : Cx p s m args c cX5_openOrder 3 RX5 G := C
  refine r_iload_n C dX5_openOrder_0 rfl 1 rfl ?_
  refine r_bipush (v := nI 65) C dX5_openOrder_1 (by decide) ?_
  refine r_icmp_ltN (tgt := 12) C dX5_openOrder_3 (by decide) (by omega) (by decide) (fun c3 => ?_) (fun c3 => ?_)
  · exact absurd c3 (by omega)
  · refine r_iload_n C dX5_openOrder_6 rfl 1 rfl ?_
    refine r_bipush (v := nI 70) C dX5_openOrder_7 (by decide) ?_
    refine r_icmp_ltN (tgt := 14) C dX5_openOrder_9 (by decide) (by omega) (by decide) (fun c9 => ?_) (fun c9 => ?_)
    · refine r_aload_n C dX5_openOrder_14 rfl 2 rfl ?_
      refine r_iload_n C dX5_openOrder_15 rfl 1 rfl ?_
      refine r_bipush (v := nI 65) C dX5_openOrder_16 (by decide) ?_
      refine r_isubN C dX5_openOrder_18 (by omega) ?_
      refine r_callV (As := [.int (nI (w - 65))]) C (c_X0_shapeOf_y (k0 := k0) (K := K) (k := w - 65) (sa := sa) hc1 hc2 (by first | assumption | omega) (by first | assumption | omega) (by first | assumption | omega)) wM_X5_52 wI_X0_shapeOf wN_X0 wC_X0_shapeOf wV_X0_shapeOf hd_X0_shapeOf ⟨Nat.le_of_ble_eq_true rfl, Nat.le_of_ble_eq_true rfl⟩ rfl hc1 rfl rfl (Nat.le_of_ble_eq_true rfl) dX5_openOrder_19 ⟨(Nat.le_of_ble_eq_true rfl), (Nat.le_of_ble_eq_true rfl)⟩ (fun rv n2 σ2 hp => ?_)
      obtain ⟨rfl, rfl, rfl⟩ := hp
      refine V.eq (σ2 := σ) (n2 := n) (st2 := [.ref sa]) rfl rfl rfl rfl ?_
      refine r_ifnonnull (tgt := 27) C dX5_openOrder_22 (by decide) ?_
      refine r_aload_n C dX5_openOrder_27 rfl 0 rfl ?_
      refine r_iload_n C dX5_openOrder_28 rfl 1 rfl ?_
      refine r_bipush (v := nI 65) C dX5_openOrder_29 (by decide) ?_
      refine r_isubN C dX5_openOrder_31 (by omega) ?_
      refine r_put (Cn := RX5) (T := TX5) (N := 7) (fs2 := [.int (nI L), .int rs, .int fp, .int tn, .ref (x0 + 1), .int (nI (w - 65)), .int dg]) C inlX5 tyX5 tyX5_ok nmX5 hc0 rfl 5 (by decide) wF_X5_28 (fun _ h => h) rfl (tyX5_ok 5 (by decide)) rfl rfl (Nat.le_of_ble_eq_true rfl) rfl dX5_openOrder_32 ?_
      refine r_aload_n C dX5_openOrder_35 rfl 0 rfl ?_
      refine r_iconst (v := nI 0) C dX5_openOrder_36 (by decide) ?_
      refine r_put (Cn := RX5) (T := TX5) (N := 7) (fs2 := [.int (nI L), .int rs, .int fp, .int tn, .ref (x0 + 1), .int (nI (w - 65)), .int (nI 0)]) C inlX5 tyX5 tyX5_ok nmX5 (hU_at _ _ _) rfl 6 (by decide) wF_X5_31 (fun _ h => h) rfl (tyX5_ok 6 (by decide)) rfl rfl (Nat.le_of_ble_eq_true rfl) rfl dX5_openOrder_37 ?_
      refine V.hp (σ2 := (hU σ x0 (.inr (5, [.int (nI L), .int rs, .int fp, .int tn, .ref (x0 + 1), .int (nI (w - 65)), .int (nI 0)])))) (hU_hU _ _ _ _) ?_
      refine r_iconst (v := nI 0) C dX5_openOrder_40 (by decide) ?_
      exact r_iret C hr hlocks (Nat.le_of_ble_eq_true rfl) (Nat.le_of_ble_eq_true rfl) dX5_openOrder_41 (hpo _ _ _ ⟨rfl, rfl, rfl⟩)
    · exact absurd c9 (by omega)

abbrev rm_X5_readTurn_3 : Room := { frames := 6, cells := 0, slots := 0, locals := 300 }
set_option maxRecDepth 100000 in
set_option maxHeartbeats 4000000 in
theorem c_X5_readTurn_3 {l : Launch} {G : gG} {n : Nat} {σ : gS} {x0 L : Nat} {rs fp : Int32} {dgn tnn : Nat} {k0 : Nat} {K : KT} {k w : Nat} {sa la : Nat} {kd N sr cfl : Nat} {sv : Value} {f3 : Nat → Int32} {f5 : Nat → Int32} {r : Nat} (hc0 : σ x0 = some (.inr (5, [.int (nI L), .int rs, .int fp, .int (nI tnn), .ref (x0 + 1), .int (nI k), .int (nI dgn)]))) (hc1 : σ k0 = some (.inr (0, [.int (nI (kN K)), .int (nI (kH K)), .ref (k0 + 1), .ref (k0 + 2), .ref (k0 + 3), .ref (k0 + 4), .ref (k0 + 5)]))) (hc2 : σ (k0 + 1) = some (aI G 3 (kT K))) (hc3 : σ (k0 + 2) = some (aI G 3 (kW K))) (hc4 : σ (k0 + 3) = some (aR 4 G 5 (kS K))) (hc5 : σ (k0 + 4) = some (aI G 5 (kR K))) (hc6 : σ (k0 + 5) = some (aI G 5 (kM K))) (hc7 : σ sa = some (.inr (2, [.int (nI kd), .int (nI sr), .int (nI N), .ref la, .ref (sa + 1), sv]))) (hc8 : σ (sa + 1) = some (aI G (rR (sid kd) N) f5)) (hc9 : σ la = some (.inr (1, [.int (nI N), .int (nI (rR (sid kd) N)), .int (nI (sbN (sid kd) N)), .int (nI (sm (sid kd) N - 1)), .ref (la + 1), .ref (la + 2), .ref (la + 3), .ref (la + 4)]))) (hc10 : σ (la + 3) = some (aI G (rR (sid kd) N * N) f3)) (hk : k < kN K) (hk5 : kN K ≤ 5) (hH : kH K < 3) (hs : kS K k = some sa) (hr9 : kR K k = nI r) (hL : LOK (sid kd) N) (h5 : ∀ r, r < rR (sid kd) N → f5 r = nI (psR kd sr N r)) (h3 : ∀ r, r < rR (sid kd) N → ∀ k, 1 ≤ k → k ≤ N → f3 (r * N + k - 1) = nI (nx (sid kd) N r k)) (hrk : r < rR (sid kd) N) (hw : w < 10) (hok : okR kd sr N r w = false) : GM l G yX5_readTurn cX5_readTurn 3 (some .int) rm_X5_readTurn_3 n σ [.ref x0, .int (nI w), .ref k0] (fun rv n2 σ2 => some (.int (nI 3)) = rv ∧ n = n2 ∧ σ = σ2) := by
  refine GM.intro (by decide +kernel) (Nat.le_of_ble_eq_true rfl) (fun p e s m args below meth c C hr hlocks hname po hpo => ?_)
  have C : Cx p s m args c cX5_readTurn 3 RX5 G := C
  have hb9 := hL.b
  refine r_aload_n C dX5_readTurn_0 rfl 2 rfl ?_
  refine r_aload_n C dX5_readTurn_1 rfl 0 rfl ?_
  refine r_get (Cn := RX5) (T := TX5) (N := 7) (v := .int (nI k)) C inlX5 hc0 rfl 5 (by decide) wF_X5_28 (fun _ h => h) rfl dX5_readTurn_2 ?_
  refine r_iload_n C dX5_readTurn_5 rfl 1 rfl ?_
  refine r_callV (As := [.int (nI k), .int (nI w)]) C (c_X0_makeTurn_n (k0 := k0) (K := K) (k := k) (w := w) (sa := sa) (la := la) (kd := kd) (N := N) (sr := sr) (cfl := cfl) (sv := sv) (f3 := f3) (f5 := f5) (r := r) hc1 hc2 hc3 hc4 hc5 hc6 hc7 hc8 hc9 hc10 (by first | assumption | omega) (by first | assumption | omega) (by first | assumption | omega) (by first | assumption | omega) (by first | assumption | omega) (by first | assumption | omega) (by first | assumption | omega) (by first | assumption | omega) (by first | assumption | omega) (by first | assumption | omega) (by first | assumption | omega)) wM_X5_58 wI_X0_makeTurn wN_X0 wC_X0_makeTurn wV_X0_makeTurn hd_X0_makeTurn ⟨Nat.le_of_ble_eq_true rfl, Nat.le_of_ble_eq_true rfl⟩ rfl hc1 rfl rfl (Nat.le_of_ble_eq_true rfl) dX5_readTurn_6 ⟨(Nat.le_of_ble_eq_true rfl), (Nat.le_of_ble_eq_true rfl)⟩ (fun rv n2 σ2 hp => ?_)
  obtain ⟨rfl, rfl, rfl⟩ := hp
  refine V.eq (σ2 := σ) (n2 := n) (st2 := [.int (bI false)]) rfl rfl rfl rfl ?_
  refine r_if_neB (tgt := 14) C dX5_readTurn_9 (by decide) (fun z => absurd z (by decide)) (fun _ => ?_)
  refine r_iconst (v := nI 3) C dX5_readTurn_12 (by decide) ?_
  exact r_iret C hr hlocks (Nat.le_of_ble_eq_true rfl) (Nat.le_of_ble_eq_true rfl) dX5_readTurn_13 (hpo _ _ _ ⟨rfl, rfl, rfl⟩)

abbrev rm_X5_readTurn_0 : Room := { frames := 6, cells := 0, slots := 0, locals := 300 }
set_option maxRecDepth 100000 in
set_option maxHeartbeats 4000000 in
theorem c_X5_readTurn_0 {l : Launch} {G : gG} {n : Nat} {σ : gS} {x0 L : Nat} {rs fp : Int32} {dgn tnn : Nat} {k0 : Nat} {K : KT} {k w : Nat} {sa la : Nat} {kd N sr cfl : Nat} {sv : Value} {f3 : Nat → Int32} {f5 : Nat → Int32} {r : Nat} (hc0 : σ x0 = some (.inr (5, [.int (nI L), .int rs, .int fp, .int (nI tnn), .ref (x0 + 1), .int (nI k), .int (nI dgn)]))) (hc1 : σ k0 = some (.inr (0, [.int (nI (kN K)), .int (nI (kH K)), .ref (k0 + 1), .ref (k0 + 2), .ref (k0 + 3), .ref (k0 + 4), .ref (k0 + 5)]))) (hc2 : σ (k0 + 1) = some (aI G 3 (kT K))) (hc3 : σ (k0 + 2) = some (aI G 3 (kW K))) (hc4 : σ (k0 + 3) = some (aR 4 G 5 (kS K))) (hc5 : σ (k0 + 4) = some (aI G 5 (kR K))) (hc6 : σ (k0 + 5) = some (aI G 5 (kM K))) (hc7 : σ sa = some (.inr (2, [.int (nI kd), .int (nI sr), .int (nI N), .ref la, .ref (sa + 1), sv]))) (hc8 : σ (sa + 1) = some (aI G (rR (sid kd) N) f5)) (hc9 : σ la = some (.inr (1, [.int (nI N), .int (nI (rR (sid kd) N)), .int (nI (sbN (sid kd) N)), .int (nI (sm (sid kd) N - 1)), .ref (la + 1), .ref (la + 2), .ref (la + 3), .ref (la + 4)]))) (hc10 : σ (la + 3) = some (aI G (rR (sid kd) N * N) f3)) (hk : k < kN K) (hk5 : kN K ≤ 5) (hH : kH K < 3) (hs : kS K k = some sa) (hr9 : kR K k = nI r) (hL : LOK (sid kd) N) (h5 : ∀ r, r < rR (sid kd) N → f5 r = nI (psR kd sr N r)) (h3 : ∀ r, r < rR (sid kd) N → ∀ k, 1 ≤ k → k ≤ N → f3 (r * N + k - 1) = nI (nx (sid kd) N r k)) (hrk : r < rR (sid kd) N) (hw : w < 10) (hok : okR kd sr N r w = true) (hap : (sa + 2 ≤ k0 ∨ k0 + 6 ≤ sa) ∧ (la + 5 ≤ k0 ∨ k0 + 6 ≤ la)) (hx : x0 + 2 ≤ k0 ∨ k0 + 6 ≤ x0) : GM l G yX5_readTurn cX5_readTurn 3 (some .int) rm_X5_readTurn_0 n σ [.ref x0, .int (nI w), .ref k0] (fun rv n2 σ2 => some (.int (nI 0)) = rv ∧ n = n2 ∧ (hU (RW σ k0 [(.inr (0, [.int (nI (kN (kTn K k (nx (sid kd) N r w) w))), .int (nI (kH (kTn K k (nx (sid kd) N r w) w))), .ref (k0 + 1), .ref (k0 + 2), .ref (k0 + 3), .ref (k0 + 4), .ref (k0 + 5)])), (aI G 3 (kT (kTn K k (nx (sid kd) N r w) w))), (aI G 3 (kW (kTn K k (nx (sid kd) N r w) w))), (aR 4 G 5 (kS (kTn K k (nx (sid kd) N r w) w))), (aI G 5 (kR (kTn K k (nx (sid kd) N r w) w))), (aI G 5 (kM (kTn K k (nx (sid kd) N r w) w)))]) x0 (.inr (5, [.int (nI L), .int rs, .int fp, .int (nI (tnn + 1)), .ref (x0 + 1), .int (nI k), .int (nI (dgn + 1))]))) = σ2) := by
  refine GM.intro (by decide +kernel) (Nat.le_of_ble_eq_true rfl) (fun p e s m args below meth c C hr hlocks hname po hpo => ?_)
  have C : Cx p s m args c cX5_readTurn 3 RX5 G := C
  have hb9 := hL.b
  refine r_aload_n C dX5_readTurn_0 rfl 2 rfl ?_
  refine r_aload_n C dX5_readTurn_1 rfl 0 rfl ?_
  refine r_get (Cn := RX5) (T := TX5) (N := 7) (v := .int (nI k)) C inlX5 hc0 rfl 5 (by decide) wF_X5_28 (fun _ h => h) rfl dX5_readTurn_2 ?_
  refine r_iload_n C dX5_readTurn_5 rfl 1 rfl ?_
  refine r_callV (As := [.int (nI k), .int (nI w)]) C (c_X0_makeTurn_y (k0 := k0) (K := K) (k := k) (w := w) (sa := sa) (la := la) (kd := kd) (N := N) (sr := sr) (cfl := cfl) (sv := sv) (f3 := f3) (f5 := f5) (r := r) hc1 hc2 hc3 hc4 hc5 hc6 hc7 hc8 hc9 hc10 (by first | assumption | omega) (by first | assumption | omega) (by first | assumption | omega) (by first | assumption | omega) (by first | assumption | omega) (by first | assumption | omega) (by first | assumption | omega) (by first | assumption | omega) (by first | assumption | omega) (by first | assumption | omega) (by first | assumption | omega) (by first | assumption | omega)) wM_X5_58 wI_X0_makeTurn wN_X0 wC_X0_makeTurn wV_X0_makeTurn hd_X0_makeTurn ⟨Nat.le_of_ble_eq_true rfl, Nat.le_of_ble_eq_true rfl⟩ rfl hc1 rfl rfl (Nat.le_of_ble_eq_true rfl) dX5_readTurn_6 ⟨(Nat.le_of_ble_eq_true rfl), (Nat.le_of_ble_eq_true rfl)⟩ (fun rv n2 σ2 hp => ?_)
  obtain ⟨rfl, rfl, rfl⟩ := hp
  refine V.eq (σ2 := (RW σ k0 [(.inr (0, [.int (nI (kN (kTn K k (nx (sid kd) N r w) w))), .int (nI (kH (kTn K k (nx (sid kd) N r w) w))), .ref (k0 + 1), .ref (k0 + 2), .ref (k0 + 3), .ref (k0 + 4), .ref (k0 + 5)])), (aI G 3 (kT (kTn K k (nx (sid kd) N r w) w))), (aI G 3 (kW (kTn K k (nx (sid kd) N r w) w))), (aR 4 G 5 (kS (kTn K k (nx (sid kd) N r w) w))), (aI G 5 (kR (kTn K k (nx (sid kd) N r w) w))), (aI G 5 (kM (kTn K k (nx (sid kd) N r w) w)))])) (n2 := n) (st2 := [.int (bI true)]) rfl rfl rfl rfl ?_
  refine r_if_neB (tgt := 14) C dX5_readTurn_9 (by decide) (fun _ => ?_) (fun z => absurd z (by decide))
  refine r_aload_n C dX5_readTurn_14 rfl 0 rfl ?_
  refine r_dup C dX5_readTurn_15 rfl ?_
  refine r_get (Cn := RX5) (T := TX5) (N := 7) (v := .int (nI dgn)) C inlX5 ((RW_ne (m := 6) rfl (by omega)).trans hc0) rfl 6 (by decide) wF_X5_31 (fun _ h => h) rfl dX5_readTurn_16 ?_
  refine r_iconst (v := nI 1) C dX5_readTurn_19 (by decide) ?_
  refine r_iaddN C dX5_readTurn_20 ?_
  refine r_put (Cn := RX5) (T := TX5) (N := 7) (fs2 := [.int (nI L), .int rs, .int fp, .int (nI tnn), .ref (x0 + 1), .int (nI k), .int (nI (dgn + 1))]) C inlX5 tyX5 tyX5_ok nmX5 ((RW_ne (m := 6) rfl (by omega)).trans hc0) rfl 6 (by decide) wF_X5_31 (fun _ h => h) rfl (tyX5_ok 6 (by decide)) rfl rfl (Nat.le_of_ble_eq_true rfl) rfl dX5_readTurn_21 ?_
  refine r_aload_n C dX5_readTurn_24 rfl 0 rfl ?_
  refine r_dup C dX5_readTurn_25 rfl ?_
  refine r_get (Cn := RX5) (T := TX5) (N := 7) (v := .int (nI tnn)) C inlX5 (hU_at _ _ _) rfl 3 (by decide) wF_X5_21 (fun _ h => h) rfl dX5_readTurn_26 ?_
  refine r_iconst (v := nI 1) C dX5_readTurn_29 (by decide) ?_
  refine r_iaddN C dX5_readTurn_30 ?_
  refine r_put (Cn := RX5) (T := TX5) (N := 7) (fs2 := [.int (nI L), .int rs, .int fp, .int (nI (tnn + 1)), .ref (x0 + 1), .int (nI k), .int (nI (dgn + 1))]) C inlX5 tyX5 tyX5_ok nmX5 (hU_at _ _ _) rfl 3 (by decide) wF_X5_21 (fun _ h => h) rfl (tyX5_ok 3 (by decide)) rfl rfl (Nat.le_of_ble_eq_true rfl) rfl dX5_readTurn_31 ?_
  refine V.hp (σ2 := (hU (RW σ k0 [(.inr (0, [.int (nI (kN (kTn K k (nx (sid kd) N r w) w))), .int (nI (kH (kTn K k (nx (sid kd) N r w) w))), .ref (k0 + 1), .ref (k0 + 2), .ref (k0 + 3), .ref (k0 + 4), .ref (k0 + 5)])), (aI G 3 (kT (kTn K k (nx (sid kd) N r w) w))), (aI G 3 (kW (kTn K k (nx (sid kd) N r w) w))), (aR 4 G 5 (kS (kTn K k (nx (sid kd) N r w) w))), (aI G 5 (kR (kTn K k (nx (sid kd) N r w) w))), (aI G 5 (kM (kTn K k (nx (sid kd) N r w) w)))]) x0 (.inr (5, [.int (nI L), .int rs, .int fp, .int (nI (tnn + 1)), .ref (x0 + 1), .int (nI k), .int (nI (dgn + 1))])))) (hU_hU _ _ _ _) ?_
  refine r_iconst (v := nI 0) C dX5_readTurn_34 (by decide) ?_
  exact r_iret C hr hlocks (Nat.le_of_ble_eq_true rfl) (Nat.le_of_ble_eq_true rfl) dX5_readTurn_35 (hpo _ _ _ ⟨rfl, rfl, rfl⟩)

abbrev rm_X5_readSign_n1 : Room := { frames := 8, cells := 0, slots := 0, locals := 400 }
set_option maxRecDepth 100000 in
set_option maxHeartbeats 4000000 in
theorem c_X5_readSign_n1 {l : Launch} {G : gG} {n : Nat} {σ : gS} {x0 L : Nat} {rs fp tn dg : Int32} {k0 w : Nat} (hc0 : σ x0 = some (.inr (5, [.int (nI L), .int rs, .int fp, .int tn, .ref (x0 + 1), .int (-1), .int dg]))) (hw : w < 128) (hbad : ¬ (65 ≤ w ∧ w ≤ 69)) : GM l G yX5_readSign cX5_readSign 3 (some .int) rm_X5_readSign_n1 n σ [.ref x0, .int (nI w), .ref k0] (fun rv n2 σ2 => some (.int (nI 1)) = rv ∧ n = n2 ∧ σ = σ2) := by
  refine GM.intro (by decide +kernel) (Nat.le_of_ble_eq_true rfl) (fun p e s m args below meth c C hr hlocks hname po hpo => ?_)
  have C : Cx p s m args c cX5_readSign 3 RX5 G := C
  refine r_aload_n C dX5_readSign_0 rfl 0 rfl ?_
  refine r_get (Cn := RX5) (T := TX5) (N := 7) (v := .int (-1)) C inlX5 hc0 rfl 5 (by decide) wF_X5_28 (fun _ h => h) rfl dX5_readSign_1 ?_
  refine r_iconst (v := (-1)) C dX5_readSign_4 (by decide) ?_
  refine r_icmp_ne (tgt := 15) C dX5_readSign_5 (by decide) (fun c5 => ?_) (fun c5 => ?_)
  · exact absurd rfl c5
  · refine r_aload_n C dX5_readSign_8 rfl 0 rfl ?_
    refine r_iload_n C dX5_readSign_9 rfl 1 rfl ?_
    refine r_aload_n C dX5_readSign_10 rfl 2 rfl ?_
    refine r_callV (As := [.int (nI w), .ref k0]) C (c_X5_openOrder_1 (x0 := x0) (L := L) (rs := rs) (fp := fp) (tn := tn) (op := (-1)) (dg := dg) (k0 := k0) (w := w)  (by first | assumption | omega) (by first | assumption | omega)) wM_X5_46 wI_X5_openOrder wN_X5 wC_X5_openOrder wV_X5_openOrder hd_X5_openOrder ⟨Nat.le_of_ble_eq_true rfl, Nat.le_of_ble_eq_true rfl⟩ rfl hc0 rfl rfl (Nat.le_of_ble_eq_true rfl) dX5_readSign_11 ⟨(Nat.le_of_ble_eq_true rfl), (Nat.le_of_ble_eq_true rfl)⟩ (fun rv n2 σ2 hp => ?_)
    obtain ⟨rfl, rfl, rfl⟩ := hp
    refine V.eq (σ2 := σ) (n2 := n) (st2 := [.int (nI 1)]) rfl rfl rfl rfl ?_
    exact r_iret C hr hlocks (Nat.le_of_ble_eq_true rfl) (Nat.le_of_ble_eq_true rfl) dX5_readSign_14 (hpo _ _ _ ⟨rfl, rfl, rfl⟩)

abbrev rm_X5_readSign_n2 : Room := { frames := 8, cells := 0, slots := 0, locals := 400 }
set_option maxRecDepth 100000 in
set_option maxHeartbeats 4000000 in
theorem c_X5_readSign_n2 {l : Launch} {G : gG} {n : Nat} {σ : gS} {x0 L : Nat} {rs fp tn dg : Int32} {k0 : Nat} {K : KT} {w : Nat} (hc0 : σ x0 = some (.inr (5, [.int (nI L), .int rs, .int fp, .int tn, .ref (x0 + 1), .int (-1), .int dg]))) (hc1 : σ k0 = some (.inr (0, [.int (nI (kN K)), .int (nI (kH K)), .ref (k0 + 1), .ref (k0 + 2), .ref (k0 + 3), .ref (k0 + 4), .ref (k0 + 5)]))) (hw : 65 ≤ w ∧ w ≤ 69) (hk5 : kN K ≤ 5) (hno : kN K ≤ w - 65) : GM l G yX5_readSign cX5_readSign 3 (some .int) rm_X5_readSign_n2 n σ [.ref x0, .int (nI w), .ref k0] (fun rv n2 σ2 => some (.int (nI 2)) = rv ∧ n = n2 ∧ σ = σ2) := by
  refine GM.intro (by decide +kernel) (Nat.le_of_ble_eq_true rfl) (fun p e s m args below meth c C hr hlocks hname po hpo => ?_)
  have C : Cx p s m args c cX5_readSign 3 RX5 G := C
  refine r_aload_n C dX5_readSign_0 rfl 0 rfl ?_
  refine r_get (Cn := RX5) (T := TX5) (N := 7) (v := .int (-1)) C inlX5 hc0 rfl 5 (by decide) wF_X5_28 (fun _ h => h) rfl dX5_readSign_1 ?_
  refine r_iconst (v := (-1)) C dX5_readSign_4 (by decide) ?_
  refine r_icmp_ne (tgt := 15) C dX5_readSign_5 (by decide) (fun c5 => ?_) (fun c5 => ?_)
  · exact absurd rfl c5
  · refine r_aload_n C dX5_readSign_8 rfl 0 rfl ?_
    refine r_iload_n C dX5_readSign_9 rfl 1 rfl ?_
    refine r_aload_n C dX5_readSign_10 rfl 2 rfl ?_
    refine r_callV (As := [.int (nI w), .ref k0]) C (c_X5_openOrder_2 (x0 := x0) (L := L) (rs := rs) (fp := fp) (tn := tn) (op := (-1)) (dg := dg) (k0 := k0) (K := K) (w := w) hc1 (by first | assumption | omega) (by first | assumption | omega) (by first | assumption | omega)) wM_X5_46 wI_X5_openOrder wN_X5 wC_X5_openOrder wV_X5_openOrder hd_X5_openOrder ⟨Nat.le_of_ble_eq_true rfl, Nat.le_of_ble_eq_true rfl⟩ rfl hc0 rfl rfl (Nat.le_of_ble_eq_true rfl) dX5_readSign_11 ⟨(Nat.le_of_ble_eq_true rfl), (Nat.le_of_ble_eq_true rfl)⟩ (fun rv n2 σ2 hp => ?_)
    obtain ⟨rfl, rfl, rfl⟩ := hp
    refine V.eq (σ2 := σ) (n2 := n) (st2 := [.int (nI 2)]) rfl rfl rfl rfl ?_
    exact r_iret C hr hlocks (Nat.le_of_ble_eq_true rfl) (Nat.le_of_ble_eq_true rfl) dX5_readSign_14 (hpo _ _ _ ⟨rfl, rfl, rfl⟩)

abbrev rm_X5_readSign_n0 : Room := { frames := 8, cells := 0, slots := 0, locals := 400 }
set_option maxRecDepth 100000 in
set_option maxHeartbeats 4000000 in
theorem c_X5_readSign_n0 {l : Launch} {G : gG} {n : Nat} {σ : gS} {x0 L : Nat} {rs fp tn dg : Int32} {k0 : Nat} {K : KT} {w sa : Nat} (hc0 : σ x0 = some (.inr (5, [.int (nI L), .int rs, .int fp, .int tn, .ref (x0 + 1), .int (-1), .int dg]))) (hc1 : σ k0 = some (.inr (0, [.int (nI (kN K)), .int (nI (kH K)), .ref (k0 + 1), .ref (k0 + 2), .ref (k0 + 3), .ref (k0 + 4), .ref (k0 + 5)]))) (hc2 : σ (k0 + 3) = some (aR 4 G 5 (kS K))) (hw : 65 ≤ w ∧ w ≤ 69) (hk5 : kN K ≤ 5) (hno : w - 65 < kN K) (hs : kS K (w - 65) = some sa) : GM l G yX5_readSign cX5_readSign 3 (some .int) rm_X5_readSign_n0 n σ [.ref x0, .int (nI w), .ref k0] (fun rv n2 σ2 => some (.int (nI 0)) = rv ∧ n = n2 ∧ (hU σ x0 (.inr (5, [.int (nI L), .int rs, .int fp, .int tn, .ref (x0 + 1), .int (nI (w - 65)), .int (nI 0)]))) = σ2) := by
  refine GM.intro (by decide +kernel) (Nat.le_of_ble_eq_true rfl) (fun p e s m args below meth c C hr hlocks hname po hpo => ?_)
  have C : Cx p s m args c cX5_readSign 3 RX5 G := C
  refine r_aload_n C dX5_readSign_0 rfl 0 rfl ?_
  refine r_get (Cn := RX5) (T := TX5) (N := 7) (v := .int (-1)) C inlX5 hc0 rfl 5 (by decide) wF_X5_28 (fun _ h => h) rfl dX5_readSign_1 ?_
  refine r_iconst (v := (-1)) C dX5_readSign_4 (by decide) ?_
  refine r_icmp_ne (tgt := 15) C dX5_readSign_5 (by decide) (fun c5 => ?_) (fun c5 => ?_)
  · exact absurd rfl c5
  · refine r_aload_n C dX5_readSign_8 rfl 0 rfl ?_
    refine r_iload_n C dX5_readSign_9 rfl 1 rfl ?_
    refine r_aload_n C dX5_readSign_10 rfl 2 rfl ?_
    refine r_callV (As := [.int (nI w), .ref k0]) C (c_X5_openOrder_0 (x0 := x0) (L := L) (rs := rs) (fp := fp) (tn := tn) (op := (-1)) (dg := dg) (k0 := k0) (K := K) (w := w) (sa := sa) hc0 hc1 hc2 (by first | assumption | omega) (by first | assumption | omega) (by first | assumption | omega) (by first | assumption | omega)) wM_X5_46 wI_X5_openOrder wN_X5 wC_X5_openOrder wV_X5_openOrder hd_X5_openOrder ⟨Nat.le_of_ble_eq_true rfl, Nat.le_of_ble_eq_true rfl⟩ rfl hc0 rfl rfl (Nat.le_of_ble_eq_true rfl) dX5_readSign_11 ⟨(Nat.le_of_ble_eq_true rfl), (Nat.le_of_ble_eq_true rfl)⟩ (fun rv n2 σ2 hp => ?_)
    obtain ⟨rfl, rfl, rfl⟩ := hp
    refine V.eq (σ2 := (hU σ x0 (.inr (5, [.int (nI L), .int rs, .int fp, .int tn, .ref (x0 + 1), .int (nI (w - 65)), .int (nI 0)])))) (n2 := n) (st2 := [.int (nI 0)]) rfl rfl rfl rfl ?_
    exact r_iret C hr hlocks (Nat.le_of_ble_eq_true rfl) (Nat.le_of_ble_eq_true rfl) dX5_readSign_14 (hpo _ _ _ ⟨rfl, rfl, rfl⟩)

abbrev rm_X5_readSign_s3 : Room := { frames := 8, cells := 0, slots := 0, locals := 400 }
set_option maxRecDepth 100000 in
set_option maxHeartbeats 4000000 in
theorem c_X5_readSign_s3 {l : Launch} {G : gG} {n : Nat} {σ : gS} {x0 L : Nat} {rs fp : Int32} {dgn tnn : Nat} {k0 : Nat} {K : KT} {k w : Nat} {sa la : Nat} {kd N sr cfl : Nat} {sv : Value} {f3 : Nat → Int32} {f5 : Nat → Int32} {r : Nat} (hc0 : σ x0 = some (.inr (5, [.int (nI L), .int rs, .int fp, .int (nI tnn), .ref (x0 + 1), .int (nI k), .int (nI dgn)]))) (hc1 : σ k0 = some (.inr (0, [.int (nI (kN K)), .int (nI (kH K)), .ref (k0 + 1), .ref (k0 + 2), .ref (k0 + 3), .ref (k0 + 4), .ref (k0 + 5)]))) (hc2 : σ (k0 + 1) = some (aI G 3 (kT K))) (hc3 : σ (k0 + 2) = some (aI G 3 (kW K))) (hc4 : σ (k0 + 3) = some (aR 4 G 5 (kS K))) (hc5 : σ (k0 + 4) = some (aI G 5 (kR K))) (hc6 : σ (k0 + 5) = some (aI G 5 (kM K))) (hc7 : σ sa = some (.inr (2, [.int (nI kd), .int (nI sr), .int (nI N), .ref la, .ref (sa + 1), sv]))) (hc8 : σ (sa + 1) = some (aI G (rR (sid kd) N) f5)) (hc9 : σ la = some (.inr (1, [.int (nI N), .int (nI (rR (sid kd) N)), .int (nI (sbN (sid kd) N)), .int (nI (sm (sid kd) N - 1)), .ref (la + 1), .ref (la + 2), .ref (la + 3), .ref (la + 4)]))) (hc10 : σ (la + 3) = some (aI G (rR (sid kd) N * N) f3)) (hk : k < kN K) (hk5 : kN K ≤ 5) (hH : kH K < 3) (hs : kS K k = some sa) (hr9 : kR K k = nI r) (hL : LOK (sid kd) N) (h5 : ∀ r, r < rR (sid kd) N → f5 r = nI (psR kd sr N r)) (h3 : ∀ r, r < rR (sid kd) N → ∀ k, 1 ≤ k → k ≤ N → f3 (r * N + k - 1) = nI (nx (sid kd) N r k)) (hrk : r < rR (sid kd) N) (hw : 48 ≤ w ∧ w ≤ 57) (hok : okR kd sr N r (w - 48) = false) : GM l G yX5_readSign cX5_readSign 3 (some .int) rm_X5_readSign_s3 n σ [.ref x0, .int (nI w), .ref k0] (fun rv n2 σ2 => some (.int (nI 3)) = rv ∧ n = n2 ∧ σ = σ2) := by
  refine GM.intro (by decide +kernel) (Nat.le_of_ble_eq_true rfl) (fun p e s m args below meth c C hr hlocks hname po hpo => ?_)
  have C : Cx p s m args c cX5_readSign 3 RX5 G := C
  have hb9 := hL.b
  refine r_aload_n C dX5_readSign_0 rfl 0 rfl ?_
  refine r_get (Cn := RX5) (T := TX5) (N := 7) (v := .int (nI k)) C inlX5 hc0 rfl 5 (by decide) wF_X5_28 (fun _ h => h) rfl dX5_readSign_1 ?_
  refine r_iconst (v := (-1)) C dX5_readSign_4 (by decide) ?_
  refine r_icmp_ne (tgt := 15) C dX5_readSign_5 (by decide) (fun c5 => ?_) (fun c5 => ?_)
  · refine r_iload_n C dX5_readSign_15 rfl 1 rfl ?_
    refine r_bipush (v := nI 48) C dX5_readSign_16 (by decide) ?_
    refine r_icmp_ltN (tgt := 37) C dX5_readSign_18 (by decide) (by omega) (by decide) (fun c18 => ?_) (fun c18 => ?_)
    · exact absurd c18 (by omega)
    · refine r_iload_n C dX5_readSign_21 rfl 1 rfl ?_
      refine r_bipush (v := nI 57) C dX5_readSign_22 (by decide) ?_
      refine r_icmp_gtN (tgt := 37) C dX5_readSign_24 (by decide) (by omega) (by decide) (fun c24 => ?_) (fun c24 => ?_)
      · exact absurd c24 (by omega)
      · refine r_aload_n C dX5_readSign_27 rfl 0 rfl ?_
        refine r_iload_n C dX5_readSign_28 rfl 1 rfl ?_
        refine r_bipush (v := nI 48) C dX5_readSign_29 (by decide) ?_
        refine r_isubN C dX5_readSign_31 (by omega) ?_
        refine r_aload_n C dX5_readSign_32 rfl 2 rfl ?_
        refine r_callV (As := [.int (nI (w - 48)), .ref k0]) C (c_X5_readTurn_3 (x0 := x0) (L := L) (rs := rs) (fp := fp) (dgn := dgn) (tnn := tnn) (k0 := k0) (K := K) (k := k) (w := w - 48) (sa := sa) (la := la) (kd := kd) (N := N) (sr := sr) (cfl := cfl) (sv := sv) (f3 := f3) (f5 := f5) (r := r) hc0 hc1 hc2 hc3 hc4 hc5 hc6 hc7 hc8 hc9 hc10 (by first | assumption | omega) (by first | assumption | omega) (by first | assumption | omega) (by first | assumption | omega) (by first | assumption | omega) (by first | assumption | omega) (by first | assumption | omega) (by first | assumption | omega) (by first | assumption | omega) (by omega) (by first | assumption | omega)) wM_X5_49 wI_X5_readTurn wN_X5 wC_X5_readTurn wV_X5_readTurn hd_X5_readTurn ⟨Nat.le_of_ble_eq_true rfl, Nat.le_of_ble_eq_true rfl⟩ rfl hc0 rfl rfl (Nat.le_of_ble_eq_true rfl) dX5_readSign_33 ⟨(Nat.le_of_ble_eq_true rfl), (Nat.le_of_ble_eq_true rfl)⟩ (fun rv n2 σ2 hp => ?_)
        obtain ⟨rfl, rfl, rfl⟩ := hp
        refine V.eq (σ2 := σ) (n2 := n) (st2 := [.int (nI 3)]) rfl rfl rfl rfl ?_
        exact r_iret C hr hlocks (Nat.le_of_ble_eq_true rfl) (Nat.le_of_ble_eq_true rfl) dX5_readSign_36 (hpo _ _ _ ⟨rfl, rfl, rfl⟩)
  · exact absurd c5 (nI_m1n (by omega))

abbrev rm_X5_readSign_s0 : Room := { frames := 8, cells := 0, slots := 0, locals := 400 }
set_option maxRecDepth 100000 in
set_option maxHeartbeats 4000000 in
theorem c_X5_readSign_s0 {l : Launch} {G : gG} {n : Nat} {σ : gS} {x0 L : Nat} {rs fp : Int32} {dgn tnn : Nat} {k0 : Nat} {K : KT} {k w : Nat} {sa la : Nat} {kd N sr cfl : Nat} {sv : Value} {f3 : Nat → Int32} {f5 : Nat → Int32} {r : Nat} (hc0 : σ x0 = some (.inr (5, [.int (nI L), .int rs, .int fp, .int (nI tnn), .ref (x0 + 1), .int (nI k), .int (nI dgn)]))) (hc1 : σ k0 = some (.inr (0, [.int (nI (kN K)), .int (nI (kH K)), .ref (k0 + 1), .ref (k0 + 2), .ref (k0 + 3), .ref (k0 + 4), .ref (k0 + 5)]))) (hc2 : σ (k0 + 1) = some (aI G 3 (kT K))) (hc3 : σ (k0 + 2) = some (aI G 3 (kW K))) (hc4 : σ (k0 + 3) = some (aR 4 G 5 (kS K))) (hc5 : σ (k0 + 4) = some (aI G 5 (kR K))) (hc6 : σ (k0 + 5) = some (aI G 5 (kM K))) (hc7 : σ sa = some (.inr (2, [.int (nI kd), .int (nI sr), .int (nI N), .ref la, .ref (sa + 1), sv]))) (hc8 : σ (sa + 1) = some (aI G (rR (sid kd) N) f5)) (hc9 : σ la = some (.inr (1, [.int (nI N), .int (nI (rR (sid kd) N)), .int (nI (sbN (sid kd) N)), .int (nI (sm (sid kd) N - 1)), .ref (la + 1), .ref (la + 2), .ref (la + 3), .ref (la + 4)]))) (hc10 : σ (la + 3) = some (aI G (rR (sid kd) N * N) f3)) (hk : k < kN K) (hk5 : kN K ≤ 5) (hH : kH K < 3) (hs : kS K k = some sa) (hr9 : kR K k = nI r) (hL : LOK (sid kd) N) (h5 : ∀ r, r < rR (sid kd) N → f5 r = nI (psR kd sr N r)) (h3 : ∀ r, r < rR (sid kd) N → ∀ k, 1 ≤ k → k ≤ N → f3 (r * N + k - 1) = nI (nx (sid kd) N r k)) (hrk : r < rR (sid kd) N) (hw : 48 ≤ w ∧ w ≤ 57) (hok : okR kd sr N r (w - 48) = true) (hap : (sa + 2 ≤ k0 ∨ k0 + 6 ≤ sa) ∧ (la + 5 ≤ k0 ∨ k0 + 6 ≤ la)) (hx : x0 + 2 ≤ k0 ∨ k0 + 6 ≤ x0) : GM l G yX5_readSign cX5_readSign 3 (some .int) rm_X5_readSign_s0 n σ [.ref x0, .int (nI w), .ref k0] (fun rv n2 σ2 => some (.int (nI 0)) = rv ∧ n = n2 ∧ (hU (RW σ k0 [(.inr (0, [.int (nI (kN (kTn K k (nx (sid kd) N r (w - 48)) (w - 48)))), .int (nI (kH (kTn K k (nx (sid kd) N r (w - 48)) (w - 48)))), .ref (k0 + 1), .ref (k0 + 2), .ref (k0 + 3), .ref (k0 + 4), .ref (k0 + 5)])), (aI G 3 (kT (kTn K k (nx (sid kd) N r (w - 48)) (w - 48)))), (aI G 3 (kW (kTn K k (nx (sid kd) N r (w - 48)) (w - 48)))), (aR 4 G 5 (kS (kTn K k (nx (sid kd) N r (w - 48)) (w - 48)))), (aI G 5 (kR (kTn K k (nx (sid kd) N r (w - 48)) (w - 48)))), (aI G 5 (kM (kTn K k (nx (sid kd) N r (w - 48)) (w - 48))))]) x0 (.inr (5, [.int (nI L), .int rs, .int fp, .int (nI (tnn + 1)), .ref (x0 + 1), .int (nI k), .int (nI (dgn + 1))]))) = σ2) := by
  refine GM.intro (by decide +kernel) (Nat.le_of_ble_eq_true rfl) (fun p e s m args below meth c C hr hlocks hname po hpo => ?_)
  have C : Cx p s m args c cX5_readSign 3 RX5 G := C
  have hb9 := hL.b
  refine r_aload_n C dX5_readSign_0 rfl 0 rfl ?_
  refine r_get (Cn := RX5) (T := TX5) (N := 7) (v := .int (nI k)) C inlX5 hc0 rfl 5 (by decide) wF_X5_28 (fun _ h => h) rfl dX5_readSign_1 ?_
  refine r_iconst (v := (-1)) C dX5_readSign_4 (by decide) ?_
  refine r_icmp_ne (tgt := 15) C dX5_readSign_5 (by decide) (fun c5 => ?_) (fun c5 => ?_)
  · refine r_iload_n C dX5_readSign_15 rfl 1 rfl ?_
    refine r_bipush (v := nI 48) C dX5_readSign_16 (by decide) ?_
    refine r_icmp_ltN (tgt := 37) C dX5_readSign_18 (by decide) (by omega) (by decide) (fun c18 => ?_) (fun c18 => ?_)
    · exact absurd c18 (by omega)
    · refine r_iload_n C dX5_readSign_21 rfl 1 rfl ?_
      refine r_bipush (v := nI 57) C dX5_readSign_22 (by decide) ?_
      refine r_icmp_gtN (tgt := 37) C dX5_readSign_24 (by decide) (by omega) (by decide) (fun c24 => ?_) (fun c24 => ?_)
      · exact absurd c24 (by omega)
      · refine r_aload_n C dX5_readSign_27 rfl 0 rfl ?_
        refine r_iload_n C dX5_readSign_28 rfl 1 rfl ?_
        refine r_bipush (v := nI 48) C dX5_readSign_29 (by decide) ?_
        refine r_isubN C dX5_readSign_31 (by omega) ?_
        refine r_aload_n C dX5_readSign_32 rfl 2 rfl ?_
        refine r_callV (As := [.int (nI (w - 48)), .ref k0]) C (c_X5_readTurn_0 (x0 := x0) (L := L) (rs := rs) (fp := fp) (dgn := dgn) (tnn := tnn) (k0 := k0) (K := K) (k := k) (w := w - 48) (sa := sa) (la := la) (kd := kd) (N := N) (sr := sr) (cfl := cfl) (sv := sv) (f3 := f3) (f5 := f5) (r := r) hc0 hc1 hc2 hc3 hc4 hc5 hc6 hc7 hc8 hc9 hc10 (by first | assumption | omega) (by first | assumption | omega) (by first | assumption | omega) (by first | assumption | omega) (by first | assumption | omega) (by first | assumption | omega) (by first | assumption | omega) (by first | assumption | omega) (by first | assumption | omega) (by omega) (by first | assumption | omega) (by first | assumption | omega) (by first | assumption | omega)) wM_X5_49 wI_X5_readTurn wN_X5 wC_X5_readTurn wV_X5_readTurn hd_X5_readTurn ⟨Nat.le_of_ble_eq_true rfl, Nat.le_of_ble_eq_true rfl⟩ rfl hc0 rfl rfl (Nat.le_of_ble_eq_true rfl) dX5_readSign_33 ⟨(Nat.le_of_ble_eq_true rfl), (Nat.le_of_ble_eq_true rfl)⟩ (fun rv n2 σ2 hp => ?_)
        obtain ⟨rfl, rfl, rfl⟩ := hp
        refine V.eq (σ2 := (hU (RW σ k0 [(.inr (0, [.int (nI (kN (kTn K k (nx (sid kd) N r (w - 48)) (w - 48)))), .int (nI (kH (kTn K k (nx (sid kd) N r (w - 48)) (w - 48)))), .ref (k0 + 1), .ref (k0 + 2), .ref (k0 + 3), .ref (k0 + 4), .ref (k0 + 5)])), (aI G 3 (kT (kTn K k (nx (sid kd) N r (w - 48)) (w - 48)))), (aI G 3 (kW (kTn K k (nx (sid kd) N r (w - 48)) (w - 48)))), (aR 4 G 5 (kS (kTn K k (nx (sid kd) N r (w - 48)) (w - 48)))), (aI G 5 (kR (kTn K k (nx (sid kd) N r (w - 48)) (w - 48)))), (aI G 5 (kM (kTn K k (nx (sid kd) N r (w - 48)) (w - 48))))]) x0 (.inr (5, [.int (nI L), .int rs, .int fp, .int (nI (tnn + 1)), .ref (x0 + 1), .int (nI k), .int (nI (dgn + 1))])))) (n2 := n) (st2 := [.int (nI 0)]) rfl rfl rfl rfl ?_
        exact r_iret C hr hlocks (Nat.le_of_ble_eq_true rfl) (Nat.le_of_ble_eq_true rfl) dX5_readSign_36 (hpo _ _ _ ⟨rfl, rfl, rfl⟩)
  · exact absurd c5 (nI_m1n (by omega))

abbrev rm_X5_readSign_e0 : Room := { frames := 8, cells := 0, slots := 0, locals := 400 }
set_option maxRecDepth 100000 in
set_option maxHeartbeats 4000000 in
theorem c_X5_readSign_e0 {l : Launch} {G : gG} {n : Nat} {σ : gS} {x0 L : Nat} {rs fp tn : Int32} {dgn k k0 : Nat} (hc0 : σ x0 = some (.inr (5, [.int (nI L), .int rs, .int fp, .int tn, .ref (x0 + 1), .int (nI k), .int (nI dgn)]))) (hk : k < 5) (hd : dgn ≠ 0 ∧ dgn < 100) : GM l G yX5_readSign cX5_readSign 3 (some .int) rm_X5_readSign_e0 n σ [.ref x0, .int (nI 59), .ref k0] (fun rv n2 σ2 => some (.int (nI 0)) = rv ∧ n = n2 ∧ (hU σ x0 (.inr (5, [.int (nI L), .int rs, .int fp, .int tn, .ref (x0 + 1), .int (-1), .int (nI dgn)]))) = σ2) := by
  refine GM.intro (by decide +kernel) (Nat.le_of_ble_eq_true rfl) (fun p e s m args below meth c C hr hlocks hname po hpo => ?_)
  have C : Cx p s m args c cX5_readSign 3 RX5 G := C
  refine r_aload_n C dX5_readSign_0 rfl 0 rfl ?_
  refine r_get (Cn := RX5) (T := TX5) (N := 7) (v := .int (nI k)) C inlX5 hc0 rfl 5 (by decide) wF_X5_28 (fun _ h => h) rfl dX5_readSign_1 ?_
  refine r_iconst (v := (-1)) C dX5_readSign_4 (by decide) ?_
  refine r_icmp_ne (tgt := 15) C dX5_readSign_5 (by decide) (fun c5 => ?_) (fun c5 => ?_)
  · refine r_iload_n C dX5_readSign_15 rfl 1 rfl ?_
    refine r_bipush (v := nI 48) C dX5_readSign_16 (by decide) ?_
    refine r_icmp_ltN (tgt := 37) C dX5_readSign_18 (by decide) (by decide) (by decide) (fun z => absurd z (by decide)) (fun _ => ?_)
    refine r_iload_n C dX5_readSign_21 rfl 1 rfl ?_
    refine r_bipush (v := nI 57) C dX5_readSign_22 (by decide) ?_
    refine r_icmp_gtN (tgt := 37) C dX5_readSign_24 (by decide) (by decide) (by decide) (fun _ => ?_) (fun z => absurd z (by decide))
    refine r_iload_n C dX5_readSign_37 rfl 1 rfl ?_
    refine r_bipush (v := nI 59) C dX5_readSign_38 (by decide) ?_
    refine r_icmp_neN (tgt := 50) C dX5_readSign_40 (by decide) (by decide) (by decide) (fun z => absurd z (by decide)) (fun _ => ?_)
    refine r_aload_n C dX5_readSign_43 rfl 0 rfl ?_
    refine r_get (Cn := RX5) (T := TX5) (N := 7) (v := .int (nI dgn)) C inlX5 hc0 rfl 6 (by decide) wF_X5_31 (fun _ h => h) rfl dX5_readSign_44 ?_
    refine r_if_neN (tgt := 52) C dX5_readSign_47 (by decide) (by omega) (fun c47 => ?_) (fun c47 => ?_)
    · refine r_aload_n C dX5_readSign_52 rfl 0 rfl ?_
      refine r_iconst (v := (-1)) C dX5_readSign_53 (by decide) ?_
      refine r_put (Cn := RX5) (T := TX5) (N := 7) (fs2 := [.int (nI L), .int rs, .int fp, .int tn, .ref (x0 + 1), .int (-1), .int (nI dgn)]) C inlX5 tyX5 tyX5_ok nmX5 hc0 rfl 5 (by decide) wF_X5_28 (fun _ h => h) rfl (tyX5_ok 5 (by decide)) rfl rfl (Nat.le_of_ble_eq_true rfl) rfl dX5_readSign_54 ?_
      refine r_iconst (v := nI 0) C dX5_readSign_57 (by decide) ?_
      exact r_iret C hr hlocks (Nat.le_of_ble_eq_true rfl) (Nat.le_of_ble_eq_true rfl) dX5_readSign_58 (hpo _ _ _ ⟨rfl, rfl, rfl⟩)
    · exact absurd c47 hd.1
  · exact absurd c5 (nI_m1n (by omega))

abbrev rm_X5_readSign_e1 : Room := { frames := 8, cells := 0, slots := 0, locals := 400 }
set_option maxRecDepth 100000 in
set_option maxHeartbeats 4000000 in
theorem c_X5_readSign_e1 {l : Launch} {G : gG} {n : Nat} {σ : gS} {x0 L : Nat} {rs fp tn : Int32} {dgn k k0 w : Nat} (hc0 : σ x0 = some (.inr (5, [.int (nI L), .int rs, .int fp, .int tn, .ref (x0 + 1), .int (nI k), .int (nI dgn)]))) (hw : w < 128) (hk : k < 5) (hd : dgn < 100) (hbad : ¬ (48 ≤ w ∧ w ≤ 57) ∧ ¬ (w = 59 ∧ dgn ≠ 0)) : GM l G yX5_readSign cX5_readSign 3 (some .int) rm_X5_readSign_e1 n σ [.ref x0, .int (nI w), .ref k0] (fun rv n2 σ2 => some (.int (nI 1)) = rv ∧ n = n2 ∧ σ = σ2) := by
  refine GM.intro (by decide +kernel) (Nat.le_of_ble_eq_true rfl) (fun p e s m args below meth c C hr hlocks hname po hpo => ?_)
  have C : Cx p s m args c cX5_readSign 3 RX5 G := C
  refine r_aload_n C dX5_readSign_0 rfl 0 rfl ?_
  refine r_get (Cn := RX5) (T := TX5) (N := 7) (v := .int (nI k)) C inlX5 hc0 rfl 5 (by decide) wF_X5_28 (fun _ h => h) rfl dX5_readSign_1 ?_
  refine r_iconst (v := (-1)) C dX5_readSign_4 (by decide) ?_
  refine r_icmp_ne (tgt := 15) C dX5_readSign_5 (by decide) (fun c5 => ?_) (fun c5 => ?_)
  · refine r_iload_n C dX5_readSign_15 rfl 1 rfl ?_
    refine r_bipush (v := nI 48) C dX5_readSign_16 (by decide) ?_
    refine r_icmp_ltN (tgt := 37) C dX5_readSign_18 (by decide) (by omega) (by decide) (fun c18 => ?_) (fun c18 => ?_)
    · refine r_iload_n C dX5_readSign_37 rfl 1 rfl ?_
      refine r_bipush (v := nI 59) C dX5_readSign_38 (by decide) ?_
      refine r_icmp_neN (tgt := 50) C dX5_readSign_40 (by decide) (by omega) (by decide) (fun c40 => ?_) (fun c40 => ?_)
      · refine r_iconst (v := nI 1) C dX5_readSign_50 (by decide) ?_
        exact r_iret C hr hlocks (Nat.le_of_ble_eq_true rfl) (Nat.le_of_ble_eq_true rfl) dX5_readSign_51 (hpo _ _ _ ⟨rfl, rfl, rfl⟩)
      · refine r_aload_n C dX5_readSign_43 rfl 0 rfl ?_
        refine r_get (Cn := RX5) (T := TX5) (N := 7) (v := .int (nI dgn)) C inlX5 hc0 rfl 6 (by decide) wF_X5_31 (fun _ h => h) rfl dX5_readSign_44 ?_
        refine r_if_neN (tgt := 52) C dX5_readSign_47 (by decide) (by omega) (fun c47 => ?_) (fun c47 => ?_)
        · exact absurd c47 (by omega)
        · refine r_iconst (v := nI 1) C dX5_readSign_50 (by decide) ?_
          exact r_iret C hr hlocks (Nat.le_of_ble_eq_true rfl) (Nat.le_of_ble_eq_true rfl) dX5_readSign_51 (hpo _ _ _ ⟨rfl, rfl, rfl⟩)
    · refine r_iload_n C dX5_readSign_21 rfl 1 rfl ?_
      refine r_bipush (v := nI 57) C dX5_readSign_22 (by decide) ?_
      refine r_icmp_gtN (tgt := 37) C dX5_readSign_24 (by decide) (by omega) (by decide) (fun c24 => ?_) (fun c24 => ?_)
      · refine r_iload_n C dX5_readSign_37 rfl 1 rfl ?_
        refine r_bipush (v := nI 59) C dX5_readSign_38 (by decide) ?_
        refine r_icmp_neN (tgt := 50) C dX5_readSign_40 (by decide) (by omega) (by decide) (fun c40 => ?_) (fun c40 => ?_)
        · refine r_iconst (v := nI 1) C dX5_readSign_50 (by decide) ?_
          exact r_iret C hr hlocks (Nat.le_of_ble_eq_true rfl) (Nat.le_of_ble_eq_true rfl) dX5_readSign_51 (hpo _ _ _ ⟨rfl, rfl, rfl⟩)
        · refine r_aload_n C dX5_readSign_43 rfl 0 rfl ?_
          refine r_get (Cn := RX5) (T := TX5) (N := 7) (v := .int (nI dgn)) C inlX5 hc0 rfl 6 (by decide) wF_X5_31 (fun _ h => h) rfl dX5_readSign_44 ?_
          refine r_if_neN (tgt := 52) C dX5_readSign_47 (by decide) (by omega) (fun c47 => ?_) (fun c47 => ?_)
          · exact absurd c47 (by omega)
          · refine r_iconst (v := nI 1) C dX5_readSign_50 (by decide) ?_
            exact r_iret C hr hlocks (Nat.le_of_ble_eq_true rfl) (Nat.le_of_ble_eq_true rfl) dX5_readSign_51 (hpo _ _ _ ⟨rfl, rfl, rfl⟩)
      · exact absurd c24 (by omega)
  · exact absurd c5 (nI_m1n (by omega))
