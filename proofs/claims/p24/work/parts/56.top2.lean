theorem lt_le1 {y : Int32} {N : Nat} (h1 : 1 ≤ N) (h6 : N ≤ 6) (h : y < nI N) : y ≤ nI (N - 1) := by
  have := Int32.lt_iff_toInt_lt.mp h
  rw [nI_toInt (by omega)] at this
  rw [Int32.le_iff_toInt_le, nI_toInt (by omega)]
  omega
theorem in_bad {x : Int32} {lo hi : Nat} (hl : lo < 2 ^ 31) (hh : hi < 2 ^ 31) (h : decide (nI lo ≤ x ∧ x ≤ nI hi) = false) : x.toInt < (lo : Int) ∨ (hi : Int) < x.toInt := by
  rw [decide_eq_false_iff_not, Int32.le_iff_toInt_le, Int32.le_iff_toInt_le, nI_toInt hl, nI_toInt hh] at h
  omega

abbrev rm_X6_lay_x : Room := { frames := 1, cells := 0, slots := 0, locals := 21 }
set_option maxRecDepth 100000 in
set_option maxHeartbeats 4000000 in
theorem c_X6_lay_x {l : Launch} {G : gG} {n : Nat} {σ : gS} {b0 st : Nat} {K : KT} {x y z : Int32} (hc0 : σ b0 = some (.inr (6, [.ref (b0 + 1), .ref (b0 + 5), .ref (b0 + 7), .ref (b0 + 13), .ref (b0 + 19), .int (nI st)]))) (hc1 : σ (b0 + 7) = some (.inr (0, [.int (nI (kN K)), .int (nI (kH K)), .ref (b0 + 8), .ref (b0 + 9), .ref (b0 + 10), .ref (b0 + 11), .ref (b0 + 12)]))) (hk5 : kN K ≤ 5) (hbad : isS x (kN K) = false) : GM l G yX6_lay cX6_lay 6 (some .int) rm_X6_lay_x n σ [.ref b0, .int x, .int y, .int z] (fun rv n2 σ2 => some (.int (-1000001)) = rv ∧ n = n2 ∧ σ = σ2) := by
  refine GM.intro (by decide +kernel) (Nat.le_of_ble_eq_true rfl) (fun p e s m args below meth c C hr hlocks hname po hpo => ?_)
  have C : Cx p s m args c cX6_lay 6 RX6 G := C
  refine r_aload_n C dX6_lay_0 rfl 0 rfl ?_
  refine r_get (Cn := RX6) (T := TX6) (N := 6) (v := .ref (b0 + 7)) C inlX6 hc0 rfl 2 (by decide) wF_X6_26 (fun _ h => h) rfl dX6_lay_1 ?_
  refine r_iload_n C dX6_lay_4 rfl 1 rfl ?_
  refine r_callV (As := [.int x]) C (c_X0_shapeOf_n (k0 := b0 + 7) (K := K) (x := x) hc1 (by first | assumption | omega) (by first | assumption | omega)) wM_X6_58 wI_X0_shapeOf wN_X0 wC_X0_shapeOf wV_X0_shapeOf hd_X0_shapeOf ⟨Nat.le_of_ble_eq_true rfl, Nat.le_of_ble_eq_true rfl⟩ rfl hc1 rfl rfl (Nat.le_of_ble_eq_true rfl) dX6_lay_5 ⟨(Nat.le_of_ble_eq_true rfl), (Nat.le_of_ble_eq_true rfl)⟩ (fun rv n2 σ2 hp => ?_)
  obtain ⟨rfl, rfl, rfl⟩ := hp
  refine V.eq (σ2 := σ) (n2 := n) (st2 := [.null]) rfl rfl rfl rfl ?_
  refine r_astoreN (lv2 := [(4, .null), (0, .ref b0), (1, .int x), (2, .int y), (3, .int z)]) C dX6_lay_8 (by decide) rfl ?_
  refine r_aloadN C dX6_lay_10 0 rfl ?_
  refine r_ifnonnullN C dX6_lay_12 ?_
  refine r_ldc C wQ_X6_45 dX6_lay_15 ?_
  exact r_iret C hr hlocks (Nat.le_of_ble_eq_true rfl) (Nat.le_of_ble_eq_true rfl) dX6_lay_17 (hpo _ _ _ ⟨rfl, rfl, rfl⟩)

abbrev rm_X6_turn_x : Room := { frames := 1, cells := 0, slots := 0, locals := 21 }
set_option maxRecDepth 100000 in
set_option maxHeartbeats 4000000 in
theorem c_X6_turn_x {l : Launch} {G : gG} {n : Nat} {σ : gS} {b0 st : Nat} {K : KT} {x y : Int32} (hc0 : σ b0 = some (.inr (6, [.ref (b0 + 1), .ref (b0 + 5), .ref (b0 + 7), .ref (b0 + 13), .ref (b0 + 19), .int (nI st)]))) (hc1 : σ (b0 + 7) = some (.inr (0, [.int (nI (kN K)), .int (nI (kH K)), .ref (b0 + 8), .ref (b0 + 9), .ref (b0 + 10), .ref (b0 + 11), .ref (b0 + 12)]))) (hk5 : kN K ≤ 5) (hbad : isS x (kN K) = false) : GM l G yX6_turn cX6_turn 4 (some .int) rm_X6_turn_x n σ [.ref b0, .int x, .int y] (fun rv n2 σ2 => some (.int (-1000001)) = rv ∧ n = n2 ∧ σ = σ2) := by
  refine GM.intro (by decide +kernel) (Nat.le_of_ble_eq_true rfl) (fun p e s m args below meth c C hr hlocks hname po hpo => ?_)
  have C : Cx p s m args c cX6_turn 4 RX6 G := C
  refine r_aload_n C dX6_turn_0 rfl 0 rfl ?_
  refine r_get (Cn := RX6) (T := TX6) (N := 6) (v := .ref (b0 + 7)) C inlX6 hc0 rfl 2 (by decide) wF_X6_26 (fun _ h => h) rfl dX6_turn_1 ?_
  refine r_iload_n C dX6_turn_4 rfl 1 rfl ?_
  refine r_callV (As := [.int x]) C (c_X0_shapeOf_n (k0 := b0 + 7) (K := K) (x := x) hc1 (by first | assumption | omega) (by first | assumption | omega)) wM_X6_58 wI_X0_shapeOf wN_X0 wC_X0_shapeOf wV_X0_shapeOf hd_X0_shapeOf ⟨Nat.le_of_ble_eq_true rfl, Nat.le_of_ble_eq_true rfl⟩ rfl hc1 rfl rfl (Nat.le_of_ble_eq_true rfl) dX6_turn_5 ⟨(Nat.le_of_ble_eq_true rfl), (Nat.le_of_ble_eq_true rfl)⟩ (fun rv n2 σ2 hp => ?_)
  obtain ⟨rfl, rfl, rfl⟩ := hp
  refine V.eq (σ2 := σ) (n2 := n) (st2 := [.null]) rfl rfl rfl rfl ?_
  refine r_astore_nN (lv2 := [(3, .null), (0, .ref b0), (1, .int x), (2, .int y)]) C dX6_turn_8 rfl (by decide) rfl ?_
  refine r_aload_nN C dX6_turn_9 rfl 0 rfl ?_
  refine r_ifnullN (tgt := 26) C dX6_turn_10 (by decide) ?_
  refine r_ldc C wQ_X6_45 dX6_turn_26 ?_
  exact r_iret C hr hlocks (Nat.le_of_ble_eq_true rfl) (Nat.le_of_ble_eq_true rfl) dX6_turn_28 (hpo _ _ _ ⟨rfl, rfl, rfl⟩)

abbrev rm_X6_doRow_x : Room := { frames := 1, cells := 0, slots := 0, locals := 21 }
set_option maxRecDepth 100000 in
set_option maxHeartbeats 4000000 in
theorem c_X6_doRow_x {l : Launch} {G : gG} {n : Nat} {σ : gS} {b0 st : Nat} {K : KT} {x y : Int32} (hc0 : σ b0 = some (.inr (6, [.ref (b0 + 1), .ref (b0 + 5), .ref (b0 + 7), .ref (b0 + 13), .ref (b0 + 19), .int (nI st)]))) (hc1 : σ (b0 + 7) = some (.inr (0, [.int (nI (kN K)), .int (nI (kH K)), .ref (b0 + 8), .ref (b0 + 9), .ref (b0 + 10), .ref (b0 + 11), .ref (b0 + 12)]))) (hk5 : kN K ≤ 5) (hbad : isS x (kN K) = false) : GM l G yX6_doRow cX6_doRow 4 (some .int) rm_X6_doRow_x n σ [.ref b0, .int x, .int y] (fun rv n2 σ2 => some (.int (-1000001)) = rv ∧ n = n2 ∧ σ = σ2) := by
  refine GM.intro (by decide +kernel) (Nat.le_of_ble_eq_true rfl) (fun p e s m args below meth c C hr hlocks hname po hpo => ?_)
  have C : Cx p s m args c cX6_doRow 4 RX6 G := C
  refine r_aload_n C dX6_doRow_0 rfl 0 rfl ?_
  refine r_get (Cn := RX6) (T := TX6) (N := 6) (v := .ref (b0 + 7)) C inlX6 hc0 rfl 2 (by decide) wF_X6_26 (fun _ h => h) rfl dX6_doRow_1 ?_
  refine r_iload_n C dX6_doRow_4 rfl 1 rfl ?_
  refine r_callV (As := [.int x]) C (c_X0_shapeOf_n (k0 := b0 + 7) (K := K) (x := x) hc1 (by first | assumption | omega) (by first | assumption | omega)) wM_X6_58 wI_X0_shapeOf wN_X0 wC_X0_shapeOf wV_X0_shapeOf hd_X0_shapeOf ⟨Nat.le_of_ble_eq_true rfl, Nat.le_of_ble_eq_true rfl⟩ rfl hc1 rfl rfl (Nat.le_of_ble_eq_true rfl) dX6_doRow_5 ⟨(Nat.le_of_ble_eq_true rfl), (Nat.le_of_ble_eq_true rfl)⟩ (fun rv n2 σ2 hp => ?_)
  obtain ⟨rfl, rfl, rfl⟩ := hp
  refine V.eq (σ2 := σ) (n2 := n) (st2 := [.null]) rfl rfl rfl rfl ?_
  refine r_astore_nN (lv2 := [(3, .null), (0, .ref b0), (1, .int x), (2, .int y)]) C dX6_doRow_8 rfl (by decide) rfl ?_
  refine r_aload_nN C dX6_doRow_9 rfl 0 rfl ?_
  refine r_ifnullN (tgt := 24) C dX6_doRow_10 (by decide) ?_
  refine r_ldc C wQ_X6_45 dX6_doRow_24 ?_
  exact r_iret C hr hlocks (Nat.le_of_ble_eq_true rfl) (Nat.le_of_ble_eq_true rfl) dX6_doRow_26 (hpo _ _ _ ⟨rfl, rfl, rfl⟩)

abbrev rm_X6_stackOf_x : Room := { frames := 1, cells := 0, slots := 0, locals := 21 }
set_option maxRecDepth 100000 in
set_option maxHeartbeats 4000000 in
theorem c_X6_stackOf_x {l : Launch} {G : gG} {n : Nat} {σ : gS} {b0 st : Nat} {K : KT} {x y : Int32} (hc0 : σ b0 = some (.inr (6, [.ref (b0 + 1), .ref (b0 + 5), .ref (b0 + 7), .ref (b0 + 13), .ref (b0 + 19), .int (nI st)]))) (hc1 : σ (b0 + 7) = some (.inr (0, [.int (nI (kN K)), .int (nI (kH K)), .ref (b0 + 8), .ref (b0 + 9), .ref (b0 + 10), .ref (b0 + 11), .ref (b0 + 12)]))) (hk5 : kN K ≤ 5) (hbad : isS x (kN K) = false) : GM l G yX6_stackOf cX6_stackOf 5 (some .int) rm_X6_stackOf_x n σ [.ref b0, .int x, .int y] (fun rv n2 σ2 => some (.int (-1000001)) = rv ∧ n = n2 ∧ σ = σ2) := by
  refine GM.intro (by decide +kernel) (Nat.le_of_ble_eq_true rfl) (fun p e s m args below meth c C hr hlocks hname po hpo => ?_)
  have C : Cx p s m args c cX6_stackOf 5 RX6 G := C
  refine r_aload_n C dX6_stackOf_0 rfl 0 rfl ?_
  refine r_get (Cn := RX6) (T := TX6) (N := 6) (v := .ref (b0 + 7)) C inlX6 hc0 rfl 2 (by decide) wF_X6_26 (fun _ h => h) rfl dX6_stackOf_1 ?_
  refine r_iload_n C dX6_stackOf_4 rfl 1 rfl ?_
  refine r_callV (As := [.int x]) C (c_X0_shapeOf_n (k0 := b0 + 7) (K := K) (x := x) hc1 (by first | assumption | omega) (by first | assumption | omega)) wM_X6_58 wI_X0_shapeOf wN_X0 wC_X0_shapeOf wV_X0_shapeOf hd_X0_shapeOf ⟨Nat.le_of_ble_eq_true rfl, Nat.le_of_ble_eq_true rfl⟩ rfl hc1 rfl rfl (Nat.le_of_ble_eq_true rfl) dX6_stackOf_5 ⟨(Nat.le_of_ble_eq_true rfl), (Nat.le_of_ble_eq_true rfl)⟩ (fun rv n2 σ2 hp => ?_)
  obtain ⟨rfl, rfl, rfl⟩ := hp
  refine V.eq (σ2 := σ) (n2 := n) (st2 := [.null]) rfl rfl rfl rfl ?_
  refine r_astore_nN (lv2 := [(3, .null), (0, .ref b0), (1, .int x), (2, .int y)]) C dX6_stackOf_8 rfl (by decide) rfl ?_
  refine r_aload_nN C dX6_stackOf_9 rfl 0 rfl ?_
  refine r_ifnonnullN C dX6_stackOf_10 ?_
  refine r_ldc C wQ_X6_45 dX6_stackOf_13 ?_
  exact r_iret C hr hlocks (Nat.le_of_ble_eq_true rfl) (Nat.le_of_ble_eq_true rfl) dX6_stackOf_15 (hpo _ _ _ ⟨rfl, rfl, rfl⟩)

abbrev rm_X6_cakeAt_x : Room := { frames := 1, cells := 0, slots := 0, locals := 21 }
set_option maxRecDepth 100000 in
set_option maxHeartbeats 4000000 in
theorem c_X6_cakeAt_x {l : Launch} {G : gG} {n : Nat} {σ : gS} {b0 st : Nat} {K : KT} {x y : Int32} (hc0 : σ b0 = some (.inr (6, [.ref (b0 + 1), .ref (b0 + 5), .ref (b0 + 7), .ref (b0 + 13), .ref (b0 + 19), .int (nI st)]))) (hc1 : σ (b0 + 7) = some (.inr (0, [.int (nI (kN K)), .int (nI (kH K)), .ref (b0 + 8), .ref (b0 + 9), .ref (b0 + 10), .ref (b0 + 11), .ref (b0 + 12)]))) (hk5 : kN K ≤ 5) (hbad : isS x (kN K) = false) : GM l G yX6_cakeAt cX6_cakeAt 6 (some .int) rm_X6_cakeAt_x n σ [.ref b0, .int x, .int y] (fun rv n2 σ2 => some (.int (-1000001)) = rv ∧ n = n2 ∧ σ = σ2) := by
  refine GM.intro (by decide +kernel) (Nat.le_of_ble_eq_true rfl) (fun p e s m args below meth c C hr hlocks hname po hpo => ?_)
  have C : Cx p s m args c cX6_cakeAt 6 RX6 G := C
  refine r_aload_n C dX6_cakeAt_0 rfl 0 rfl ?_
  refine r_get (Cn := RX6) (T := TX6) (N := 6) (v := .ref (b0 + 7)) C inlX6 hc0 rfl 2 (by decide) wF_X6_26 (fun _ h => h) rfl dX6_cakeAt_1 ?_
  refine r_iload_n C dX6_cakeAt_4 rfl 1 rfl ?_
  refine r_callV (As := [.int x]) C (c_X0_shapeOf_n (k0 := b0 + 7) (K := K) (x := x) hc1 (by first | assumption | omega) (by first | assumption | omega)) wM_X6_58 wI_X0_shapeOf wN_X0 wC_X0_shapeOf wV_X0_shapeOf hd_X0_shapeOf ⟨Nat.le_of_ble_eq_true rfl, Nat.le_of_ble_eq_true rfl⟩ rfl hc1 rfl rfl (Nat.le_of_ble_eq_true rfl) dX6_cakeAt_5 ⟨(Nat.le_of_ble_eq_true rfl), (Nat.le_of_ble_eq_true rfl)⟩ (fun rv n2 σ2 hp => ?_)
  obtain ⟨rfl, rfl, rfl⟩ := hp
  refine V.eq (σ2 := σ) (n2 := n) (st2 := [.null]) rfl rfl rfl rfl ?_
  refine r_astore_nN (lv2 := [(3, .null), (0, .ref b0), (1, .int x), (2, .int y)]) C dX6_cakeAt_8 rfl (by decide) rfl ?_
  refine r_aload_nN C dX6_cakeAt_9 rfl 0 rfl ?_
  refine r_ifnullN (tgt := 25) C dX6_cakeAt_10 (by decide) ?_
  refine r_ldc C wQ_X6_45 dX6_cakeAt_25 ?_
  exact r_iret C hr hlocks (Nat.le_of_ble_eq_true rfl) (Nat.le_of_ble_eq_true rfl) dX6_cakeAt_27 (hpo _ _ _ ⟨rfl, rfl, rfl⟩)

abbrev rm_X6_gapsBehind_x : Room := { frames := 1, cells := 0, slots := 0, locals := 21 }
set_option maxRecDepth 100000 in
set_option maxHeartbeats 4000000 in
theorem c_X6_gapsBehind_x {l : Launch} {G : gG} {n : Nat} {σ : gS} {b0 st : Nat} {K : KT} {x y : Int32} (hc0 : σ b0 = some (.inr (6, [.ref (b0 + 1), .ref (b0 + 5), .ref (b0 + 7), .ref (b0 + 13), .ref (b0 + 19), .int (nI st)]))) (hc1 : σ (b0 + 7) = some (.inr (0, [.int (nI (kN K)), .int (nI (kH K)), .ref (b0 + 8), .ref (b0 + 9), .ref (b0 + 10), .ref (b0 + 11), .ref (b0 + 12)]))) (hk5 : kN K ≤ 5) (hbad : isS x (kN K) = false) : GM l G yX6_gapsBehind cX6_gapsBehind 4 (some .int) rm_X6_gapsBehind_x n σ [.ref b0, .int x, .int y] (fun rv n2 σ2 => some (.int (-1000001)) = rv ∧ n = n2 ∧ σ = σ2) := by
  refine GM.intro (by decide +kernel) (Nat.le_of_ble_eq_true rfl) (fun p e s m args below meth c C hr hlocks hname po hpo => ?_)
  have C : Cx p s m args c cX6_gapsBehind 4 RX6 G := C
  refine r_aload_n C dX6_gapsBehind_0 rfl 0 rfl ?_
  refine r_get (Cn := RX6) (T := TX6) (N := 6) (v := .ref (b0 + 7)) C inlX6 hc0 rfl 2 (by decide) wF_X6_26 (fun _ h => h) rfl dX6_gapsBehind_1 ?_
  refine r_iload_n C dX6_gapsBehind_4 rfl 1 rfl ?_
  refine r_callV (As := [.int x]) C (c_X0_shapeOf_n (k0 := b0 + 7) (K := K) (x := x) hc1 (by first | assumption | omega) (by first | assumption | omega)) wM_X6_58 wI_X0_shapeOf wN_X0 wC_X0_shapeOf wV_X0_shapeOf hd_X0_shapeOf ⟨Nat.le_of_ble_eq_true rfl, Nat.le_of_ble_eq_true rfl⟩ rfl hc1 rfl rfl (Nat.le_of_ble_eq_true rfl) dX6_gapsBehind_5 ⟨(Nat.le_of_ble_eq_true rfl), (Nat.le_of_ble_eq_true rfl)⟩ (fun rv n2 σ2 hp => ?_)
  obtain ⟨rfl, rfl, rfl⟩ := hp
  refine V.eq (σ2 := σ) (n2 := n) (st2 := [.null]) rfl rfl rfl rfl ?_
  refine r_astore_nN (lv2 := [(3, .null), (0, .ref b0), (1, .int x), (2, .int y)]) C dX6_gapsBehind_8 rfl (by decide) rfl ?_
  refine r_aload_nN C dX6_gapsBehind_9 rfl 0 rfl ?_
  refine r_ifnullN (tgt := 26) C dX6_gapsBehind_10 (by decide) ?_
  refine r_ldc C wQ_X6_45 dX6_gapsBehind_26 ?_
  exact r_iret C hr hlocks (Nat.le_of_ble_eq_true rfl) (Nat.le_of_ble_eq_true rfl) dX6_gapsBehind_28 (hpo _ _ _ ⟨rfl, rfl, rfl⟩)

abbrev rm_X6_fewest_x : Room := { frames := 1, cells := 0, slots := 0, locals := 21 }
set_option maxRecDepth 100000 in
set_option maxHeartbeats 4000000 in
theorem c_X6_fewest_x {l : Launch} {G : gG} {n : Nat} {σ : gS} {b0 st : Nat} {K : KT} {x y : Int32} (hc0 : σ b0 = some (.inr (6, [.ref (b0 + 1), .ref (b0 + 5), .ref (b0 + 7), .ref (b0 + 13), .ref (b0 + 19), .int (nI st)]))) (hc1 : σ (b0 + 7) = some (.inr (0, [.int (nI (kN K)), .int (nI (kH K)), .ref (b0 + 8), .ref (b0 + 9), .ref (b0 + 10), .ref (b0 + 11), .ref (b0 + 12)]))) (hk5 : kN K ≤ 5) (hbad : isS x (kN K) = false) : GM l G yX6_fewest cX6_fewest 7 (some .int) rm_X6_fewest_x n σ [.ref b0, .int x, .int y] (fun rv n2 σ2 => some (.int (-1000001)) = rv ∧ n = n2 ∧ σ = σ2) := by
  refine GM.intro (by decide +kernel) (Nat.le_of_ble_eq_true rfl) (fun p e s m args below meth c C hr hlocks hname po hpo => ?_)
  have C : Cx p s m args c cX6_fewest 7 RX6 G := C
  refine r_aload_n C dX6_fewest_0 rfl 0 rfl ?_
  refine r_get (Cn := RX6) (T := TX6) (N := 6) (v := .ref (b0 + 7)) C inlX6 hc0 rfl 2 (by decide) wF_X6_26 (fun _ h => h) rfl dX6_fewest_1 ?_
  refine r_iload_n C dX6_fewest_4 rfl 1 rfl ?_
  refine r_callV (As := [.int x]) C (c_X0_shapeOf_n (k0 := b0 + 7) (K := K) (x := x) hc1 (by first | assumption | omega) (by first | assumption | omega)) wM_X6_58 wI_X0_shapeOf wN_X0 wC_X0_shapeOf wV_X0_shapeOf hd_X0_shapeOf ⟨Nat.le_of_ble_eq_true rfl, Nat.le_of_ble_eq_true rfl⟩ rfl hc1 rfl rfl (Nat.le_of_ble_eq_true rfl) dX6_fewest_5 ⟨(Nat.le_of_ble_eq_true rfl), (Nat.le_of_ble_eq_true rfl)⟩ (fun rv n2 σ2 hp => ?_)
  obtain ⟨rfl, rfl, rfl⟩ := hp
  refine V.eq (σ2 := σ) (n2 := n) (st2 := [.null]) rfl rfl rfl rfl ?_
  refine r_astore_nN (lv2 := [(3, .null), (0, .ref b0), (1, .int x), (2, .int y)]) C dX6_fewest_8 rfl (by decide) rfl ?_
  refine r_aload_nN C dX6_fewest_9 rfl 0 rfl ?_
  refine r_ifnullN (tgt := 22) C dX6_fewest_10 (by decide) ?_
  refine r_ldc C wQ_X6_45 dX6_fewest_22 ?_
  exact r_iret C hr hlocks (Nat.le_of_ble_eq_true rfl) (Nat.le_of_ble_eq_true rfl) dX6_fewest_24 (hpo _ _ _ ⟨rfl, rfl, rfl⟩)

abbrev rm_X6_leastWork_x : Room := { frames := 1, cells := 0, slots := 0, locals := 21 }
set_option maxRecDepth 100000 in
set_option maxHeartbeats 4000000 in
theorem c_X6_leastWork_x {l : Launch} {G : gG} {n : Nat} {σ : gS} {b0 st : Nat} {K : KT} {x  : Int32} (hc0 : σ b0 = some (.inr (6, [.ref (b0 + 1), .ref (b0 + 5), .ref (b0 + 7), .ref (b0 + 13), .ref (b0 + 19), .int (nI st)]))) (hc1 : σ (b0 + 7) = some (.inr (0, [.int (nI (kN K)), .int (nI (kH K)), .ref (b0 + 8), .ref (b0 + 9), .ref (b0 + 10), .ref (b0 + 11), .ref (b0 + 12)]))) (hk5 : kN K ≤ 5) (hbad : isS x (kN K) = false) : GM l G yX6_leastWork cX6_leastWork 4 (some .int) rm_X6_leastWork_x n σ [.ref b0, .int x] (fun rv n2 σ2 => some (.int (-1000001)) = rv ∧ n = n2 ∧ σ = σ2) := by
  refine GM.intro (by decide +kernel) (Nat.le_of_ble_eq_true rfl) (fun p e s m args below meth c C hr hlocks hname po hpo => ?_)
  have C : Cx p s m args c cX6_leastWork 4 RX6 G := C
  refine r_aload_n C dX6_leastWork_0 rfl 0 rfl ?_
  refine r_get (Cn := RX6) (T := TX6) (N := 6) (v := .ref (b0 + 7)) C inlX6 hc0 rfl 2 (by decide) wF_X6_26 (fun _ h => h) rfl dX6_leastWork_1 ?_
  refine r_iload_n C dX6_leastWork_4 rfl 1 rfl ?_
  refine r_callV (As := [.int x]) C (c_X0_shapeOf_n (k0 := b0 + 7) (K := K) (x := x) hc1 (by first | assumption | omega) (by first | assumption | omega)) wM_X6_58 wI_X0_shapeOf wN_X0 wC_X0_shapeOf wV_X0_shapeOf hd_X0_shapeOf ⟨Nat.le_of_ble_eq_true rfl, Nat.le_of_ble_eq_true rfl⟩ rfl hc1 rfl rfl (Nat.le_of_ble_eq_true rfl) dX6_leastWork_5 ⟨(Nat.le_of_ble_eq_true rfl), (Nat.le_of_ble_eq_true rfl)⟩ (fun rv n2 σ2 hp => ?_)
  obtain ⟨rfl, rfl, rfl⟩ := hp
  refine V.eq (σ2 := σ) (n2 := n) (st2 := [.null]) rfl rfl rfl rfl ?_
  refine r_astore_nN (lv2 := [(2, .null), (0, .ref b0), (1, .int x)]) C dX6_leastWork_8 rfl (by decide) rfl ?_
  refine r_aload_nN C dX6_leastWork_9 rfl 0 rfl ?_
  refine r_ifnonnullN C dX6_leastWork_10 ?_
  refine r_ldc C wQ_X6_45 dX6_leastWork_13 ?_
  exact r_iret C hr hlocks (Nat.le_of_ble_eq_true rfl) (Nat.le_of_ble_eq_true rfl) dX6_leastWork_15 (hpo _ _ _ ⟨rfl, rfl, rfl⟩)

abbrev rm_X6_ways_x : Room := { frames := 1, cells := 0, slots := 0, locals := 21 }
set_option maxRecDepth 100000 in
set_option maxHeartbeats 4000000 in
theorem c_X6_ways_x {l : Launch} {G : gG} {n : Nat} {σ : gS} {b0 st : Nat} {K : KT} {x y : Int32} (hc0 : σ b0 = some (.inr (6, [.ref (b0 + 1), .ref (b0 + 5), .ref (b0 + 7), .ref (b0 + 13), .ref (b0 + 19), .int (nI st)]))) (hc1 : σ (b0 + 7) = some (.inr (0, [.int (nI (kN K)), .int (nI (kH K)), .ref (b0 + 8), .ref (b0 + 9), .ref (b0 + 10), .ref (b0 + 11), .ref (b0 + 12)]))) (hk5 : kN K ≤ 5) (hbad : isS x (kN K) = false) : GM l G yX6_ways cX6_ways 4 (some .int) rm_X6_ways_x n σ [.ref b0, .int x, .int y] (fun rv n2 σ2 => some (.int (-1000001)) = rv ∧ n = n2 ∧ σ = σ2) := by
  refine GM.intro (by decide +kernel) (Nat.le_of_ble_eq_true rfl) (fun p e s m args below meth c C hr hlocks hname po hpo => ?_)
  have C : Cx p s m args c cX6_ways 4 RX6 G := C
  refine r_aload_n C dX6_ways_0 rfl 0 rfl ?_
  refine r_get (Cn := RX6) (T := TX6) (N := 6) (v := .ref (b0 + 7)) C inlX6 hc0 rfl 2 (by decide) wF_X6_26 (fun _ h => h) rfl dX6_ways_1 ?_
  refine r_iload_n C dX6_ways_4 rfl 1 rfl ?_
  refine r_callV (As := [.int x]) C (c_X0_shapeOf_n (k0 := b0 + 7) (K := K) (x := x) hc1 (by first | assumption | omega) (by first | assumption | omega)) wM_X6_58 wI_X0_shapeOf wN_X0 wC_X0_shapeOf wV_X0_shapeOf hd_X0_shapeOf ⟨Nat.le_of_ble_eq_true rfl, Nat.le_of_ble_eq_true rfl⟩ rfl hc1 rfl rfl (Nat.le_of_ble_eq_true rfl) dX6_ways_5 ⟨(Nat.le_of_ble_eq_true rfl), (Nat.le_of_ble_eq_true rfl)⟩ (fun rv n2 σ2 hp => ?_)
  obtain ⟨rfl, rfl, rfl⟩ := hp
  refine V.eq (σ2 := σ) (n2 := n) (st2 := [.null]) rfl rfl rfl rfl ?_
  refine r_astore_nN (lv2 := [(3, .null), (0, .ref b0), (1, .int x), (2, .int y)]) C dX6_ways_8 rfl (by decide) rfl ?_
  refine r_aload_nN C dX6_ways_9 rfl 0 rfl ?_
  refine r_ifnullN (tgt := 22) C dX6_ways_10 (by decide) ?_
  refine r_ldc C wQ_X6_45 dX6_ways_22 ?_
  exact r_iret C hr hlocks (Nat.le_of_ble_eq_true rfl) (Nat.le_of_ble_eq_true rfl) dX6_ways_24 (hpo _ _ _ ⟨rfl, rfl, rfl⟩)

abbrev rm_X6_ranked_x : Room := { frames := 1, cells := 0, slots := 0, locals := 21 }
set_option maxRecDepth 100000 in
set_option maxHeartbeats 4000000 in
theorem c_X6_ranked_x {l : Launch} {G : gG} {n : Nat} {σ : gS} {b0 st : Nat} {K : KT} {x y z : Int32} (hc0 : σ b0 = some (.inr (6, [.ref (b0 + 1), .ref (b0 + 5), .ref (b0 + 7), .ref (b0 + 13), .ref (b0 + 19), .int (nI st)]))) (hc1 : σ (b0 + 7) = some (.inr (0, [.int (nI (kN K)), .int (nI (kH K)), .ref (b0 + 8), .ref (b0 + 9), .ref (b0 + 10), .ref (b0 + 11), .ref (b0 + 12)]))) (hk5 : kN K ≤ 5) (hbad : isS x (kN K) = false) : GM l G yX6_ranked cX6_ranked 5 (some .int) rm_X6_ranked_x n σ [.ref b0, .int x, .int y, .int z] (fun rv n2 σ2 => some (.int (-1000001)) = rv ∧ n = n2 ∧ σ = σ2) := by
  refine GM.intro (by decide +kernel) (Nat.le_of_ble_eq_true rfl) (fun p e s m args below meth c C hr hlocks hname po hpo => ?_)
  have C : Cx p s m args c cX6_ranked 5 RX6 G := C
  refine r_aload_n C dX6_ranked_0 rfl 0 rfl ?_
  refine r_get (Cn := RX6) (T := TX6) (N := 6) (v := .ref (b0 + 7)) C inlX6 hc0 rfl 2 (by decide) wF_X6_26 (fun _ h => h) rfl dX6_ranked_1 ?_
  refine r_iload_n C dX6_ranked_4 rfl 1 rfl ?_
  refine r_callV (As := [.int x]) C (c_X0_shapeOf_n (k0 := b0 + 7) (K := K) (x := x) hc1 (by first | assumption | omega) (by first | assumption | omega)) wM_X6_58 wI_X0_shapeOf wN_X0 wC_X0_shapeOf wV_X0_shapeOf hd_X0_shapeOf ⟨Nat.le_of_ble_eq_true rfl, Nat.le_of_ble_eq_true rfl⟩ rfl hc1 rfl rfl (Nat.le_of_ble_eq_true rfl) dX6_ranked_5 ⟨(Nat.le_of_ble_eq_true rfl), (Nat.le_of_ble_eq_true rfl)⟩ (fun rv n2 σ2 hp => ?_)
  obtain ⟨rfl, rfl, rfl⟩ := hp
  refine V.eq (σ2 := σ) (n2 := n) (st2 := [.null]) rfl rfl rfl rfl ?_
  refine r_astoreN (lv2 := [(4, .null), (0, .ref b0), (1, .int x), (2, .int y), (3, .int z)]) C dX6_ranked_8 (by decide) rfl ?_
  refine r_aloadN C dX6_ranked_10 0 rfl ?_
  refine r_ifnullN (tgt := 28) C dX6_ranked_12 (by decide) ?_
  refine r_ldc C wQ_X6_45 dX6_ranked_28 ?_
  exact r_iret C hr hlocks (Nat.le_of_ble_eq_true rfl) (Nat.le_of_ble_eq_true rfl) dX6_ranked_30 (hpo _ _ _ ⟨rfl, rfl, rfl⟩)

abbrev rm_X6_ofDistance_x : Room := { frames := 1, cells := 0, slots := 0, locals := 21 }
set_option maxRecDepth 100000 in
set_option maxHeartbeats 4000000 in
theorem c_X6_ofDistance_x {l : Launch} {G : gG} {n : Nat} {σ : gS} {b0 st : Nat} {K : KT} {x y : Int32} (hc0 : σ b0 = some (.inr (6, [.ref (b0 + 1), .ref (b0 + 5), .ref (b0 + 7), .ref (b0 + 13), .ref (b0 + 19), .int (nI st)]))) (hc1 : σ (b0 + 7) = some (.inr (0, [.int (nI (kN K)), .int (nI (kH K)), .ref (b0 + 8), .ref (b0 + 9), .ref (b0 + 10), .ref (b0 + 11), .ref (b0 + 12)]))) (hk5 : kN K ≤ 5) (hbad : isS x (kN K) = false) : GM l G yX6_ofDistance cX6_ofDistance 4 (some .int) rm_X6_ofDistance_x n σ [.ref b0, .int x, .int y] (fun rv n2 σ2 => some (.int (-1000001)) = rv ∧ n = n2 ∧ σ = σ2) := by
  refine GM.intro (by decide +kernel) (Nat.le_of_ble_eq_true rfl) (fun p e s m args below meth c C hr hlocks hname po hpo => ?_)
  have C : Cx p s m args c cX6_ofDistance 4 RX6 G := C
  refine r_aload_n C dX6_ofDistance_0 rfl 0 rfl ?_
  refine r_get (Cn := RX6) (T := TX6) (N := 6) (v := .ref (b0 + 7)) C inlX6 hc0 rfl 2 (by decide) wF_X6_26 (fun _ h => h) rfl dX6_ofDistance_1 ?_
  refine r_iload_n C dX6_ofDistance_4 rfl 1 rfl ?_
  refine r_callV (As := [.int x]) C (c_X0_shapeOf_n (k0 := b0 + 7) (K := K) (x := x) hc1 (by first | assumption | omega) (by first | assumption | omega)) wM_X6_58 wI_X0_shapeOf wN_X0 wC_X0_shapeOf wV_X0_shapeOf hd_X0_shapeOf ⟨Nat.le_of_ble_eq_true rfl, Nat.le_of_ble_eq_true rfl⟩ rfl hc1 rfl rfl (Nat.le_of_ble_eq_true rfl) dX6_ofDistance_5 ⟨(Nat.le_of_ble_eq_true rfl), (Nat.le_of_ble_eq_true rfl)⟩ (fun rv n2 σ2 hp => ?_)
  obtain ⟨rfl, rfl, rfl⟩ := hp
  refine V.eq (σ2 := σ) (n2 := n) (st2 := [.null]) rfl rfl rfl rfl ?_
  refine r_astore_nN (lv2 := [(3, .null), (0, .ref b0), (1, .int x), (2, .int y)]) C dX6_ofDistance_8 rfl (by decide) rfl ?_
  refine r_aload_nN C dX6_ofDistance_9 rfl 0 rfl ?_
  refine r_ifnullN (tgt := 23) C dX6_ofDistance_10 (by decide) ?_
  refine r_ldc C wQ_X6_45 dX6_ofDistance_23 ?_
  exact r_iret C hr hlocks (Nat.le_of_ble_eq_true rfl) (Nat.le_of_ble_eq_true rfl) dX6_ofDistance_25 (hpo _ _ _ ⟨rfl, rfl, rfl⟩)

abbrev rm_X6_turn_z : Room := { frames := 1, cells := 0, slots := 0, locals := 21 }
set_option maxRecDepth 100000 in
set_option maxHeartbeats 4000000 in
theorem c_X6_turn_z {l : Launch} {G : gG} {n : Nat} {σ : gS} {b0 st : Nat} {K : KT} {k sa la : Nat} {kd N sr : Nat} {sv : Value} {y : Int32} (hc0 : σ b0 = some (.inr (6, [.ref (b0 + 1), .ref (b0 + 5), .ref (b0 + 7), .ref (b0 + 13), .ref (b0 + 19), .int (nI st)]))) (hc1 : σ (b0 + 7) = some (.inr (0, [.int (nI (kN K)), .int (nI (kH K)), .ref (b0 + 8), .ref (b0 + 9), .ref (b0 + 10), .ref (b0 + 11), .ref (b0 + 12)]))) (hc2 : σ (b0 + 10) = some (aR 4 G 5 (kS K))) (hc3 : σ sa = some (.inr (2, [.int (nI kd), .int (nI sr), .int (nI N), .ref la, .ref (sa + 1), sv]))) (hk : k < kN K) (hk5 : kN K ≤ 5) (hs : kS K k = some sa) (hN9 : 1 ≤ N ∧ N ≤ 6) (hbad : decide (nI 1 ≤ y ∧ y ≤ nI N) = false) : GM l G yX6_turn cX6_turn 4 (some .int) rm_X6_turn_z n σ [.ref b0, .int (nI k), .int y] (fun rv n2 σ2 => some (.int (-1000001)) = rv ∧ n = n2 ∧ σ = σ2) := by
  refine GM.intro (by decide +kernel) (Nat.le_of_ble_eq_true rfl) (fun p e s m args below meth c C hr hlocks hname po hpo => ?_)
  have C : Cx p s m args c cX6_turn 4 RX6 G := C
  refine r_aload_n C dX6_turn_0 rfl 0 rfl ?_
  refine r_get (Cn := RX6) (T := TX6) (N := 6) (v := .ref (b0 + 7)) C inlX6 hc0 rfl 2 (by decide) wF_X6_26 (fun _ h => h) rfl dX6_turn_1 ?_
  refine r_iload_n C dX6_turn_4 rfl 1 rfl ?_
  refine r_callV (As := [.int (nI k)]) C (c_X0_shapeOf_y (k0 := b0 + 7) (K := K) (k := k) (sa := sa) hc1 hc2 (by first | assumption | omega) (by first | assumption | omega) (by first | assumption | omega)) wM_X6_58 wI_X0_shapeOf wN_X0 wC_X0_shapeOf wV_X0_shapeOf hd_X0_shapeOf ⟨Nat.le_of_ble_eq_true rfl, Nat.le_of_ble_eq_true rfl⟩ rfl hc1 rfl rfl (Nat.le_of_ble_eq_true rfl) dX6_turn_5 ⟨(Nat.le_of_ble_eq_true rfl), (Nat.le_of_ble_eq_true rfl)⟩ (fun rv n2 σ2 hp => ?_)
  obtain ⟨rfl, rfl, rfl⟩ := hp
  refine V.eq (σ2 := σ) (n2 := n) (st2 := [.ref sa]) rfl rfl rfl rfl ?_
  refine r_astore_n (lv2 := [(3, .ref sa), (0, .ref b0), (1, .int (nI k)), (2, .int y)]) C dX6_turn_8 rfl (by decide) rfl ?_
  refine r_aload_n C dX6_turn_9 rfl 0 rfl ?_
  refine r_ifnull C dX6_turn_10 ?_
  refine r_iload_n C dX6_turn_13 rfl 3 rfl ?_
  refine r_iconst (v := nI 1) C dX6_turn_14 (by decide) ?_
  refine r_icmp_lt (tgt := 26) C dX6_turn_15 (by decide) (fun c15 => ?_) (fun c15 => ?_)
  · refine r_ldc C wQ_X6_45 dX6_turn_26 ?_
    exact r_iret C hr hlocks (Nat.le_of_ble_eq_true rfl) (Nat.le_of_ble_eq_true rfl) dX6_turn_28 (hpo _ _ _ ⟨rfl, rfl, rfl⟩)
  · refine r_iload_n C dX6_turn_18 rfl 3 rfl ?_
    refine r_aload_n C dX6_turn_19 rfl 0 rfl ?_
    refine r_get (Cn := RX2) (T := TX2) (N := 6) (v := .int (nI N)) C inlX2 hc3 rfl 2 (by decide) wF_X6_82 (fun _ h => h) rfl dX6_turn_20 ?_
    refine r_icmp_le (tgt := 29) C dX6_turn_23 (by decide) (fun c23 => ?_) (fun c23 => ?_)
    · exact absurd ((in_3 (low := nI 1) (high := nI N) c15 (Int32.not_lt.mpr c23)).symm.trans hbad) (by decide)
    · refine r_ldc C wQ_X6_45 dX6_turn_26 ?_
      exact r_iret C hr hlocks (Nat.le_of_ble_eq_true rfl) (Nat.le_of_ble_eq_true rfl) dX6_turn_28 (hpo _ _ _ ⟨rfl, rfl, rfl⟩)

abbrev rm_X6_gapsBehind_z : Room := { frames := 1, cells := 0, slots := 0, locals := 21 }
set_option maxRecDepth 100000 in
set_option maxHeartbeats 4000000 in
theorem c_X6_gapsBehind_z {l : Launch} {G : gG} {n : Nat} {σ : gS} {b0 st : Nat} {K : KT} {k sa la : Nat} {kd N sr : Nat} {sv : Value} {y : Int32} (hc0 : σ b0 = some (.inr (6, [.ref (b0 + 1), .ref (b0 + 5), .ref (b0 + 7), .ref (b0 + 13), .ref (b0 + 19), .int (nI st)]))) (hc1 : σ (b0 + 7) = some (.inr (0, [.int (nI (kN K)), .int (nI (kH K)), .ref (b0 + 8), .ref (b0 + 9), .ref (b0 + 10), .ref (b0 + 11), .ref (b0 + 12)]))) (hc2 : σ (b0 + 10) = some (aR 4 G 5 (kS K))) (hc3 : σ sa = some (.inr (2, [.int (nI kd), .int (nI sr), .int (nI N), .ref la, .ref (sa + 1), sv]))) (hk : k < kN K) (hk5 : kN K ≤ 5) (hs : kS K k = some sa) (hN9 : 1 ≤ N ∧ N ≤ 6) (hbad : decide (nI 1 ≤ y ∧ y ≤ nI N) = false) : GM l G yX6_gapsBehind cX6_gapsBehind 4 (some .int) rm_X6_gapsBehind_z n σ [.ref b0, .int (nI k), .int y] (fun rv n2 σ2 => some (.int (-1000001)) = rv ∧ n = n2 ∧ σ = σ2) := by
  refine GM.intro (by decide +kernel) (Nat.le_of_ble_eq_true rfl) (fun p e s m args below meth c C hr hlocks hname po hpo => ?_)
  have C : Cx p s m args c cX6_gapsBehind 4 RX6 G := C
  refine r_aload_n C dX6_gapsBehind_0 rfl 0 rfl ?_
  refine r_get (Cn := RX6) (T := TX6) (N := 6) (v := .ref (b0 + 7)) C inlX6 hc0 rfl 2 (by decide) wF_X6_26 (fun _ h => h) rfl dX6_gapsBehind_1 ?_
  refine r_iload_n C dX6_gapsBehind_4 rfl 1 rfl ?_
  refine r_callV (As := [.int (nI k)]) C (c_X0_shapeOf_y (k0 := b0 + 7) (K := K) (k := k) (sa := sa) hc1 hc2 (by first | assumption | omega) (by first | assumption | omega) (by first | assumption | omega)) wM_X6_58 wI_X0_shapeOf wN_X0 wC_X0_shapeOf wV_X0_shapeOf hd_X0_shapeOf ⟨Nat.le_of_ble_eq_true rfl, Nat.le_of_ble_eq_true rfl⟩ rfl hc1 rfl rfl (Nat.le_of_ble_eq_true rfl) dX6_gapsBehind_5 ⟨(Nat.le_of_ble_eq_true rfl), (Nat.le_of_ble_eq_true rfl)⟩ (fun rv n2 σ2 hp => ?_)
  obtain ⟨rfl, rfl, rfl⟩ := hp
  refine V.eq (σ2 := σ) (n2 := n) (st2 := [.ref sa]) rfl rfl rfl rfl ?_
  refine r_astore_n (lv2 := [(3, .ref sa), (0, .ref b0), (1, .int (nI k)), (2, .int y)]) C dX6_gapsBehind_8 rfl (by decide) rfl ?_
  refine r_aload_n C dX6_gapsBehind_9 rfl 0 rfl ?_
  refine r_ifnull C dX6_gapsBehind_10 ?_
  refine r_iload_n C dX6_gapsBehind_13 rfl 3 rfl ?_
  refine r_iconst (v := nI 1) C dX6_gapsBehind_14 (by decide) ?_
  refine r_icmp_lt (tgt := 26) C dX6_gapsBehind_15 (by decide) (fun c15 => ?_) (fun c15 => ?_)
  · refine r_ldc C wQ_X6_45 dX6_gapsBehind_26 ?_
    exact r_iret C hr hlocks (Nat.le_of_ble_eq_true rfl) (Nat.le_of_ble_eq_true rfl) dX6_gapsBehind_28 (hpo _ _ _ ⟨rfl, rfl, rfl⟩)
  · refine r_iload_n C dX6_gapsBehind_18 rfl 3 rfl ?_
    refine r_aload_n C dX6_gapsBehind_19 rfl 0 rfl ?_
    refine r_get (Cn := RX2) (T := TX2) (N := 6) (v := .int (nI N)) C inlX2 hc3 rfl 2 (by decide) wF_X6_82 (fun _ h => h) rfl dX6_gapsBehind_20 ?_
    refine r_icmp_le (tgt := 29) C dX6_gapsBehind_23 (by decide) (fun c23 => ?_) (fun c23 => ?_)
    · exact absurd ((in_3 (low := nI 1) (high := nI N) c15 (Int32.not_lt.mpr c23)).symm.trans hbad) (by decide)
    · refine r_ldc C wQ_X6_45 dX6_gapsBehind_26 ?_
      exact r_iret C hr hlocks (Nat.le_of_ble_eq_true rfl) (Nat.le_of_ble_eq_true rfl) dX6_gapsBehind_28 (hpo _ _ _ ⟨rfl, rfl, rfl⟩)

abbrev rm_X6_doRow_z : Room := { frames := 1, cells := 0, slots := 0, locals := 21 }
set_option maxRecDepth 100000 in
set_option maxHeartbeats 4000000 in
theorem c_X6_doRow_z {l : Launch} {G : gG} {n : Nat} {σ : gS} {b0 st : Nat} {K : KT} {k sa : Nat} {y : Int32} (hc0 : σ b0 = some (.inr (6, [.ref (b0 + 1), .ref (b0 + 5), .ref (b0 + 7), .ref (b0 + 13), .ref (b0 + 19), .int (nI st)]))) (hc1 : σ (b0 + 7) = some (.inr (0, [.int (nI (kN K)), .int (nI (kH K)), .ref (b0 + 8), .ref (b0 + 9), .ref (b0 + 10), .ref (b0 + 11), .ref (b0 + 12)]))) (hc2 : σ (b0 + 10) = some (aR 4 G 5 (kS K))) (hk : k < kN K) (hk5 : kN K ≤ 5) (hs : kS K k = some sa) (hbad : decide (nI 1 ≤ y ∧ y ≤ nI 99999999) = false) : GM l G yX6_doRow cX6_doRow 4 (some .int) rm_X6_doRow_z n σ [.ref b0, .int (nI k), .int y] (fun rv n2 σ2 => some (.int (-1000001)) = rv ∧ n = n2 ∧ σ = σ2) := by
  refine GM.intro (by decide +kernel) (Nat.le_of_ble_eq_true rfl) (fun p e s m args below meth c C hr hlocks hname po hpo => ?_)
  have C : Cx p s m args c cX6_doRow 4 RX6 G := C
  refine r_aload_n C dX6_doRow_0 rfl 0 rfl ?_
  refine r_get (Cn := RX6) (T := TX6) (N := 6) (v := .ref (b0 + 7)) C inlX6 hc0 rfl 2 (by decide) wF_X6_26 (fun _ h => h) rfl dX6_doRow_1 ?_
  refine r_iload_n C dX6_doRow_4 rfl 1 rfl ?_
  refine r_callV (As := [.int (nI k)]) C (c_X0_shapeOf_y (k0 := b0 + 7) (K := K) (k := k) (sa := sa) hc1 hc2 (by first | assumption | omega) (by first | assumption | omega) (by first | assumption | omega)) wM_X6_58 wI_X0_shapeOf wN_X0 wC_X0_shapeOf wV_X0_shapeOf hd_X0_shapeOf ⟨Nat.le_of_ble_eq_true rfl, Nat.le_of_ble_eq_true rfl⟩ rfl hc1 rfl rfl (Nat.le_of_ble_eq_true rfl) dX6_doRow_5 ⟨(Nat.le_of_ble_eq_true rfl), (Nat.le_of_ble_eq_true rfl)⟩ (fun rv n2 σ2 hp => ?_)
  obtain ⟨rfl, rfl, rfl⟩ := hp
  refine V.eq (σ2 := σ) (n2 := n) (st2 := [.ref sa]) rfl rfl rfl rfl ?_
  refine r_astore_n (lv2 := [(3, .ref sa), (0, .ref b0), (1, .int (nI k)), (2, .int y)]) C dX6_doRow_8 rfl (by decide) rfl ?_
  refine r_aload_n C dX6_doRow_9 rfl 0 rfl ?_
  refine r_ifnull C dX6_doRow_10 ?_
  refine r_iload_n C dX6_doRow_13 rfl 3 rfl ?_
  refine r_iconst (v := nI 1) C dX6_doRow_14 (by decide) ?_
  refine r_icmp_lt (tgt := 24) C dX6_doRow_15 (by decide) (fun c15 => ?_) (fun c15 => ?_)
  · refine r_ldc C wQ_X6_45 dX6_doRow_24 ?_
    exact r_iret C hr hlocks (Nat.le_of_ble_eq_true rfl) (Nat.le_of_ble_eq_true rfl) dX6_doRow_26 (hpo _ _ _ ⟨rfl, rfl, rfl⟩)
  · refine r_iload_n C dX6_doRow_18 rfl 3 rfl ?_
    refine r_ldc C wQ_X6_92 dX6_doRow_19 ?_
    refine V.top (y := nI 99999999) (by decide) ?_
    refine r_icmp_le (tgt := 27) C dX6_doRow_21 (by decide) (fun c21 => ?_) (fun c21 => ?_)
    · exact absurd ((in_3 (low := nI 1) (high := nI 99999999) c15 (Int32.not_lt.mpr c21)).symm.trans hbad) (by decide)
    · refine r_ldc C wQ_X6_45 dX6_doRow_24 ?_
      exact r_iret C hr hlocks (Nat.le_of_ble_eq_true rfl) (Nat.le_of_ble_eq_true rfl) dX6_doRow_26 (hpo _ _ _ ⟨rfl, rfl, rfl⟩)

abbrev rm_X6_cakeAt_z : Room := { frames := 1, cells := 0, slots := 0, locals := 21 }
set_option maxRecDepth 100000 in
set_option maxHeartbeats 4000000 in
theorem c_X6_cakeAt_z {l : Launch} {G : gG} {n : Nat} {σ : gS} {b0 st : Nat} {K : KT} {k sa la : Nat} {kd N sr : Nat} {sv : Value} {y : Int32} (hc0 : σ b0 = some (.inr (6, [.ref (b0 + 1), .ref (b0 + 5), .ref (b0 + 7), .ref (b0 + 13), .ref (b0 + 19), .int (nI st)]))) (hc1 : σ (b0 + 7) = some (.inr (0, [.int (nI (kN K)), .int (nI (kH K)), .ref (b0 + 8), .ref (b0 + 9), .ref (b0 + 10), .ref (b0 + 11), .ref (b0 + 12)]))) (hc2 : σ (b0 + 10) = some (aR 4 G 5 (kS K))) (hc3 : σ sa = some (.inr (2, [.int (nI kd), .int (nI sr), .int (nI N), .ref la, .ref (sa + 1), sv]))) (hk : k < kN K) (hk5 : kN K ≤ 5) (hs : kS K k = some sa) (hN9 : 1 ≤ N ∧ N ≤ 6) (hbad : decide (nI 0 ≤ y ∧ y ≤ nI (N - 1)) = false) : GM l G yX6_cakeAt cX6_cakeAt 6 (some .int) rm_X6_cakeAt_z n σ [.ref b0, .int (nI k), .int y] (fun rv n2 σ2 => some (.int (-1000001)) = rv ∧ n = n2 ∧ σ = σ2) := by
  refine GM.intro (by decide +kernel) (Nat.le_of_ble_eq_true rfl) (fun p e s m args below meth c C hr hlocks hname po hpo => ?_)
  have C : Cx p s m args c cX6_cakeAt 6 RX6 G := C
  refine r_aload_n C dX6_cakeAt_0 rfl 0 rfl ?_
  refine r_get (Cn := RX6) (T := TX6) (N := 6) (v := .ref (b0 + 7)) C inlX6 hc0 rfl 2 (by decide) wF_X6_26 (fun _ h => h) rfl dX6_cakeAt_1 ?_
  refine r_iload_n C dX6_cakeAt_4 rfl 1 rfl ?_
  refine r_callV (As := [.int (nI k)]) C (c_X0_shapeOf_y (k0 := b0 + 7) (K := K) (k := k) (sa := sa) hc1 hc2 (by first | assumption | omega) (by first | assumption | omega) (by first | assumption | omega)) wM_X6_58 wI_X0_shapeOf wN_X0 wC_X0_shapeOf wV_X0_shapeOf hd_X0_shapeOf ⟨Nat.le_of_ble_eq_true rfl, Nat.le_of_ble_eq_true rfl⟩ rfl hc1 rfl rfl (Nat.le_of_ble_eq_true rfl) dX6_cakeAt_5 ⟨(Nat.le_of_ble_eq_true rfl), (Nat.le_of_ble_eq_true rfl)⟩ (fun rv n2 σ2 hp => ?_)
  obtain ⟨rfl, rfl, rfl⟩ := hp
  refine V.eq (σ2 := σ) (n2 := n) (st2 := [.ref sa]) rfl rfl rfl rfl ?_
  refine r_astore_n (lv2 := [(3, .ref sa), (0, .ref b0), (1, .int (nI k)), (2, .int y)]) C dX6_cakeAt_8 rfl (by decide) rfl ?_
  refine r_aload_n C dX6_cakeAt_9 rfl 0 rfl ?_
  refine r_ifnull C dX6_cakeAt_10 ?_
  refine r_iload_n C dX6_cakeAt_13 rfl 3 rfl ?_
  refine r_if_lt (tgt := 25) C dX6_cakeAt_14 (by decide) (fun c14 => ?_) (fun c14 => ?_)
  · refine r_ldc C wQ_X6_45 dX6_cakeAt_25 ?_
    exact r_iret C hr hlocks (Nat.le_of_ble_eq_true rfl) (Nat.le_of_ble_eq_true rfl) dX6_cakeAt_27 (hpo _ _ _ ⟨rfl, rfl, rfl⟩)
  · refine r_iload_n C dX6_cakeAt_17 rfl 3 rfl ?_
    refine r_aload_n C dX6_cakeAt_18 rfl 0 rfl ?_
    refine r_get (Cn := RX2) (T := TX2) (N := 6) (v := .int (nI N)) C inlX2 hc3 rfl 2 (by decide) wF_X6_82 (fun _ h => h) rfl dX6_cakeAt_19 ?_
    refine r_icmp_lt (tgt := 28) C dX6_cakeAt_22 (by decide) (fun c22 => ?_) (fun c22 => ?_)
    · exact absurd ((in_3 (low := nI 0) (high := nI (N - 1)) c14 (Int32.not_lt.mpr (lt_le1 hN9.1 hN9.2 c22))).symm.trans hbad) (by decide)
    · refine r_ldc C wQ_X6_45 dX6_cakeAt_25 ?_
      exact r_iret C hr hlocks (Nat.le_of_ble_eq_true rfl) (Nat.le_of_ble_eq_true rfl) dX6_cakeAt_27 (hpo _ _ _ ⟨rfl, rfl, rfl⟩)

abbrev rm_X6_fewest_z : Room := { frames := 1, cells := 0, slots := 0, locals := 21 }
set_option maxRecDepth 100000 in
set_option maxHeartbeats 4000000 in
theorem c_X6_fewest_z {l : Launch} {G : gG} {n : Nat} {σ : gS} {b0 st : Nat} {K : KT} {k sa : Nat} {y : Int32} (hc0 : σ b0 = some (.inr (6, [.ref (b0 + 1), .ref (b0 + 5), .ref (b0 + 7), .ref (b0 + 13), .ref (b0 + 19), .int (nI st)]))) (hc1 : σ (b0 + 7) = some (.inr (0, [.int (nI (kN K)), .int (nI (kH K)), .ref (b0 + 8), .ref (b0 + 9), .ref (b0 + 10), .ref (b0 + 11), .ref (b0 + 12)]))) (hc2 : σ (b0 + 10) = some (aR 4 G 5 (kS K))) (hk : k < kN K) (hk5 : kN K ≤ 5) (hs : kS K k = some sa) (hbad : decide (nI 0 ≤ y ∧ y ≤ nI 1) = false) : GM l G yX6_fewest cX6_fewest 7 (some .int) rm_X6_fewest_z n σ [.ref b0, .int (nI k), .int y] (fun rv n2 σ2 => some (.int (-1000001)) = rv ∧ n = n2 ∧ σ = σ2) := by
  refine GM.intro (by decide +kernel) (Nat.le_of_ble_eq_true rfl) (fun p e s m args below meth c C hr hlocks hname po hpo => ?_)
  have C : Cx p s m args c cX6_fewest 7 RX6 G := C
  refine r_aload_n C dX6_fewest_0 rfl 0 rfl ?_
  refine r_get (Cn := RX6) (T := TX6) (N := 6) (v := .ref (b0 + 7)) C inlX6 hc0 rfl 2 (by decide) wF_X6_26 (fun _ h => h) rfl dX6_fewest_1 ?_
  refine r_iload_n C dX6_fewest_4 rfl 1 rfl ?_
  refine r_callV (As := [.int (nI k)]) C (c_X0_shapeOf_y (k0 := b0 + 7) (K := K) (k := k) (sa := sa) hc1 hc2 (by first | assumption | omega) (by first | assumption | omega) (by first | assumption | omega)) wM_X6_58 wI_X0_shapeOf wN_X0 wC_X0_shapeOf wV_X0_shapeOf hd_X0_shapeOf ⟨Nat.le_of_ble_eq_true rfl, Nat.le_of_ble_eq_true rfl⟩ rfl hc1 rfl rfl (Nat.le_of_ble_eq_true rfl) dX6_fewest_5 ⟨(Nat.le_of_ble_eq_true rfl), (Nat.le_of_ble_eq_true rfl)⟩ (fun rv n2 σ2 hp => ?_)
  obtain ⟨rfl, rfl, rfl⟩ := hp
  refine V.eq (σ2 := σ) (n2 := n) (st2 := [.ref sa]) rfl rfl rfl rfl ?_
  refine r_astore_n (lv2 := [(3, .ref sa), (0, .ref b0), (1, .int (nI k)), (2, .int y)]) C dX6_fewest_8 rfl (by decide) rfl ?_
  refine r_aload_n C dX6_fewest_9 rfl 0 rfl ?_
  refine r_ifnull C dX6_fewest_10 ?_
  refine r_iload_n C dX6_fewest_13 rfl 3 rfl ?_
  refine r_if_lt (tgt := 22) C dX6_fewest_14 (by decide) (fun c14 => ?_) (fun c14 => ?_)
  · refine r_ldc C wQ_X6_45 dX6_fewest_22 ?_
    exact r_iret C hr hlocks (Nat.le_of_ble_eq_true rfl) (Nat.le_of_ble_eq_true rfl) dX6_fewest_24 (hpo _ _ _ ⟨rfl, rfl, rfl⟩)
  · refine r_iload_n C dX6_fewest_17 rfl 3 rfl ?_
    refine r_iconst (v := nI 1) C dX6_fewest_18 (by decide) ?_
    refine r_icmp_le (tgt := 25) C dX6_fewest_19 (by decide) (fun c19 => ?_) (fun c19 => ?_)
    · exact absurd ((in_3 (low := nI 0) (high := nI 1) c14 (Int32.not_lt.mpr c19)).symm.trans hbad) (by decide)
    · refine r_ldc C wQ_X6_45 dX6_fewest_22 ?_
      exact r_iret C hr hlocks (Nat.le_of_ble_eq_true rfl) (Nat.le_of_ble_eq_true rfl) dX6_fewest_24 (hpo _ _ _ ⟨rfl, rfl, rfl⟩)

abbrev rm_X6_ways_z : Room := { frames := 1, cells := 0, slots := 0, locals := 21 }
set_option maxRecDepth 100000 in
set_option maxHeartbeats 4000000 in
theorem c_X6_ways_z {l : Launch} {G : gG} {n : Nat} {σ : gS} {b0 st : Nat} {K : KT} {k sa : Nat} {y : Int32} (hc0 : σ b0 = some (.inr (6, [.ref (b0 + 1), .ref (b0 + 5), .ref (b0 + 7), .ref (b0 + 13), .ref (b0 + 19), .int (nI st)]))) (hc1 : σ (b0 + 7) = some (.inr (0, [.int (nI (kN K)), .int (nI (kH K)), .ref (b0 + 8), .ref (b0 + 9), .ref (b0 + 10), .ref (b0 + 11), .ref (b0 + 12)]))) (hc2 : σ (b0 + 10) = some (aR 4 G 5 (kS K))) (hk : k < kN K) (hk5 : kN K ≤ 5) (hs : kS K k = some sa) (hbad : decide (nI 0 ≤ y ∧ y ≤ nI 5) = false) : GM l G yX6_ways cX6_ways 4 (some .int) rm_X6_ways_z n σ [.ref b0, .int (nI k), .int y] (fun rv n2 σ2 => some (.int (-1000001)) = rv ∧ n = n2 ∧ σ = σ2) := by
  refine GM.intro (by decide +kernel) (Nat.le_of_ble_eq_true rfl) (fun p e s m args below meth c C hr hlocks hname po hpo => ?_)
  have C : Cx p s m args c cX6_ways 4 RX6 G := C
  refine r_aload_n C dX6_ways_0 rfl 0 rfl ?_
  refine r_get (Cn := RX6) (T := TX6) (N := 6) (v := .ref (b0 + 7)) C inlX6 hc0 rfl 2 (by decide) wF_X6_26 (fun _ h => h) rfl dX6_ways_1 ?_
  refine r_iload_n C dX6_ways_4 rfl 1 rfl ?_
  refine r_callV (As := [.int (nI k)]) C (c_X0_shapeOf_y (k0 := b0 + 7) (K := K) (k := k) (sa := sa) hc1 hc2 (by first | assumption | omega) (by first | assumption | omega) (by first | assumption | omega)) wM_X6_58 wI_X0_shapeOf wN_X0 wC_X0_shapeOf wV_X0_shapeOf hd_X0_shapeOf ⟨Nat.le_of_ble_eq_true rfl, Nat.le_of_ble_eq_true rfl⟩ rfl hc1 rfl rfl (Nat.le_of_ble_eq_true rfl) dX6_ways_5 ⟨(Nat.le_of_ble_eq_true rfl), (Nat.le_of_ble_eq_true rfl)⟩ (fun rv n2 σ2 hp => ?_)
  obtain ⟨rfl, rfl, rfl⟩ := hp
  refine V.eq (σ2 := σ) (n2 := n) (st2 := [.ref sa]) rfl rfl rfl rfl ?_
  refine r_astore_n (lv2 := [(3, .ref sa), (0, .ref b0), (1, .int (nI k)), (2, .int y)]) C dX6_ways_8 rfl (by decide) rfl ?_
  refine r_aload_n C dX6_ways_9 rfl 0 rfl ?_
  refine r_ifnull C dX6_ways_10 ?_
  refine r_iload_n C dX6_ways_13 rfl 3 rfl ?_
  refine r_if_lt (tgt := 22) C dX6_ways_14 (by decide) (fun c14 => ?_) (fun c14 => ?_)
  · refine r_ldc C wQ_X6_45 dX6_ways_22 ?_
    exact r_iret C hr hlocks (Nat.le_of_ble_eq_true rfl) (Nat.le_of_ble_eq_true rfl) dX6_ways_24 (hpo _ _ _ ⟨rfl, rfl, rfl⟩)
  · refine r_iload_n C dX6_ways_17 rfl 3 rfl ?_
    refine r_iconst (v := nI 5) C dX6_ways_18 (by decide) ?_
    refine r_icmp_le (tgt := 25) C dX6_ways_19 (by decide) (fun c19 => ?_) (fun c19 => ?_)
    · exact absurd ((in_3 (low := nI 0) (high := nI 5) c14 (Int32.not_lt.mpr c19)).symm.trans hbad) (by decide)
    · refine r_ldc C wQ_X6_45 dX6_ways_22 ?_
      exact r_iret C hr hlocks (Nat.le_of_ble_eq_true rfl) (Nat.le_of_ble_eq_true rfl) dX6_ways_24 (hpo _ _ _ ⟨rfl, rfl, rfl⟩)

abbrev rm_X6_ofDistance_z : Room := { frames := 1, cells := 0, slots := 0, locals := 21 }
set_option maxRecDepth 100000 in
set_option maxHeartbeats 4000000 in
theorem c_X6_ofDistance_z {l : Launch} {G : gG} {n : Nat} {σ : gS} {b0 st : Nat} {K : KT} {k sa : Nat} {y : Int32} (hc0 : σ b0 = some (.inr (6, [.ref (b0 + 1), .ref (b0 + 5), .ref (b0 + 7), .ref (b0 + 13), .ref (b0 + 19), .int (nI st)]))) (hc1 : σ (b0 + 7) = some (.inr (0, [.int (nI (kN K)), .int (nI (kH K)), .ref (b0 + 8), .ref (b0 + 9), .ref (b0 + 10), .ref (b0 + 11), .ref (b0 + 12)]))) (hc2 : σ (b0 + 10) = some (aR 4 G 5 (kS K))) (hk : k < kN K) (hk5 : kN K ≤ 5) (hs : kS K k = some sa) (hbad : decide (nI 0 ≤ y ∧ y ≤ nI 12) = false) : GM l G yX6_ofDistance cX6_ofDistance 4 (some .int) rm_X6_ofDistance_z n σ [.ref b0, .int (nI k), .int y] (fun rv n2 σ2 => some (.int (-1000001)) = rv ∧ n = n2 ∧ σ = σ2) := by
  refine GM.intro (by decide +kernel) (Nat.le_of_ble_eq_true rfl) (fun p e s m args below meth c C hr hlocks hname po hpo => ?_)
  have C : Cx p s m args c cX6_ofDistance 4 RX6 G := C
  refine r_aload_n C dX6_ofDistance_0 rfl 0 rfl ?_
  refine r_get (Cn := RX6) (T := TX6) (N := 6) (v := .ref (b0 + 7)) C inlX6 hc0 rfl 2 (by decide) wF_X6_26 (fun _ h => h) rfl dX6_ofDistance_1 ?_
  refine r_iload_n C dX6_ofDistance_4 rfl 1 rfl ?_
  refine r_callV (As := [.int (nI k)]) C (c_X0_shapeOf_y (k0 := b0 + 7) (K := K) (k := k) (sa := sa) hc1 hc2 (by first | assumption | omega) (by first | assumption | omega) (by first | assumption | omega)) wM_X6_58 wI_X0_shapeOf wN_X0 wC_X0_shapeOf wV_X0_shapeOf hd_X0_shapeOf ⟨Nat.le_of_ble_eq_true rfl, Nat.le_of_ble_eq_true rfl⟩ rfl hc1 rfl rfl (Nat.le_of_ble_eq_true rfl) dX6_ofDistance_5 ⟨(Nat.le_of_ble_eq_true rfl), (Nat.le_of_ble_eq_true rfl)⟩ (fun rv n2 σ2 hp => ?_)
  obtain ⟨rfl, rfl, rfl⟩ := hp
  refine V.eq (σ2 := σ) (n2 := n) (st2 := [.ref sa]) rfl rfl rfl rfl ?_
  refine r_astore_n (lv2 := [(3, .ref sa), (0, .ref b0), (1, .int (nI k)), (2, .int y)]) C dX6_ofDistance_8 rfl (by decide) rfl ?_
  refine r_aload_n C dX6_ofDistance_9 rfl 0 rfl ?_
  refine r_ifnull C dX6_ofDistance_10 ?_
  refine r_iload_n C dX6_ofDistance_13 rfl 3 rfl ?_
  refine r_if_lt (tgt := 23) C dX6_ofDistance_14 (by decide) (fun c14 => ?_) (fun c14 => ?_)
  · refine r_ldc C wQ_X6_45 dX6_ofDistance_23 ?_
    exact r_iret C hr hlocks (Nat.le_of_ble_eq_true rfl) (Nat.le_of_ble_eq_true rfl) dX6_ofDistance_25 (hpo _ _ _ ⟨rfl, rfl, rfl⟩)
  · refine r_iload_n C dX6_ofDistance_17 rfl 3 rfl ?_
    refine r_bipush (v := nI 12) C dX6_ofDistance_18 (by decide) ?_
    refine r_icmp_le (tgt := 26) C dX6_ofDistance_20 (by decide) (fun c20 => ?_) (fun c20 => ?_)
    · exact absurd ((in_3 (low := nI 0) (high := nI 12) c14 (Int32.not_lt.mpr c20)).symm.trans hbad) (by decide)
    · refine r_ldc C wQ_X6_45 dX6_ofDistance_23 ?_
      exact r_iret C hr hlocks (Nat.le_of_ble_eq_true rfl) (Nat.le_of_ble_eq_true rfl) dX6_ofDistance_25 (hpo _ _ _ ⟨rfl, rfl, rfl⟩)

abbrev rm_X6_stackOf_z : Room := { frames := 2, cells := 0, slots := 0, locals := 42 }
set_option maxRecDepth 100000 in
set_option maxHeartbeats 4000000 in
theorem c_X6_stackOf_z {l : Launch} {G : gG} {n : Nat} {σ : gS} {b0 st : Nat} {K : KT} {k sa : Nat} {y : Int32} (hc0 : σ b0 = some (.inr (6, [.ref (b0 + 1), .ref (b0 + 5), .ref (b0 + 7), .ref (b0 + 13), .ref (b0 + 19), .int (nI st)]))) (hc1 : σ (b0 + 7) = some (.inr (0, [.int (nI (kN K)), .int (nI (kH K)), .ref (b0 + 8), .ref (b0 + 9), .ref (b0 + 10), .ref (b0 + 11), .ref (b0 + 12)]))) (hc2 : σ (b0 + 10) = some (aR 4 G 5 (kS K))) (hc3 : σ (b0 + 11) = some (aI G 5 (kR K))) (hk : k < kN K) (hk5 : kN K ≤ 5) (hs : kS K k = some sa) (hbad : decide (nI 0 ≤ y ∧ y ≤ nI 9) = false) : GM l G yX6_stackOf cX6_stackOf 5 (some .int) rm_X6_stackOf_z n σ [.ref b0, .int (nI k), .int y] (fun rv n2 σ2 => some (.int (-1000001)) = rv ∧ n = n2 ∧ σ = σ2) := by
  refine GM.intro (by decide +kernel) (Nat.le_of_ble_eq_true rfl) (fun p e s m args below meth c C hr hlocks hname po hpo => ?_)
  have C : Cx p s m args c cX6_stackOf 5 RX6 G := C
  have hb2 := in_bad (by decide) (by decide) hbad
  refine r_aload_n C dX6_stackOf_0 rfl 0 rfl ?_
  refine r_get (Cn := RX6) (T := TX6) (N := 6) (v := .ref (b0 + 7)) C inlX6 hc0 rfl 2 (by decide) wF_X6_26 (fun _ h => h) rfl dX6_stackOf_1 ?_
  refine r_iload_n C dX6_stackOf_4 rfl 1 rfl ?_
  refine r_callV (As := [.int (nI k)]) C (c_X0_shapeOf_y (k0 := b0 + 7) (K := K) (k := k) (sa := sa) hc1 hc2 (by first | assumption | omega) (by first | assumption | omega) (by first | assumption | omega)) wM_X6_58 wI_X0_shapeOf wN_X0 wC_X0_shapeOf wV_X0_shapeOf hd_X0_shapeOf ⟨Nat.le_of_ble_eq_true rfl, Nat.le_of_ble_eq_true rfl⟩ rfl hc1 rfl rfl (Nat.le_of_ble_eq_true rfl) dX6_stackOf_5 ⟨(Nat.le_of_ble_eq_true rfl), (Nat.le_of_ble_eq_true rfl)⟩ (fun rv n2 σ2 hp => ?_)
  obtain ⟨rfl, rfl, rfl⟩ := hp
  refine V.eq (σ2 := σ) (n2 := n) (st2 := [.ref sa]) rfl rfl rfl rfl ?_
  refine r_astore_n (lv2 := [(3, .ref sa), (0, .ref b0), (1, .int (nI k)), (2, .int y)]) C dX6_stackOf_8 rfl (by decide) rfl ?_
  refine r_aload_n C dX6_stackOf_9 rfl 0 rfl ?_
  refine r_ifnonnull (tgt := 16) C dX6_stackOf_10 (by decide) ?_
  refine r_aload_n C dX6_stackOf_16 rfl 1 rfl ?_
  refine r_get (Cn := RX6) (T := TX6) (N := 6) (v := .ref (b0 + 7)) C inlX6 hc0 rfl 2 (by decide) wF_X6_26 (fun _ h => h) rfl dX6_stackOf_17 ?_
  refine r_iload_n C dX6_stackOf_20 rfl 2 rfl ?_
  refine r_callV (As := [.int (nI k)]) C (c_X0_rankOf (k0 := b0 + 7) (K := K) (k := k) hc1 hc3 (by omega)) wM_X6_90 wI_X0_rankOf wN_X0 wC_X0_rankOf wV_X0_rankOf hd_X0_rankOf ⟨Nat.le_of_ble_eq_true rfl, Nat.le_of_ble_eq_true rfl⟩ rfl hc1 rfl rfl (Nat.le_of_ble_eq_true rfl) dX6_stackOf_21 ⟨(Nat.le_of_ble_eq_true rfl), (Nat.le_of_ble_eq_true rfl)⟩ (fun rv n2 σ2 hp => ?_)
  obtain ⟨rfl, rfl, rfl⟩ := hp
  refine V.eq (σ2 := σ) (n2 := n) (st2 := [.int (kR K k)]) rfl rfl rfl rfl ?_
  refine r_istore (lv2 := [(4, .int (kR K k)), (3, .ref sa), (0, .ref b0), (1, .int (nI k)), (2, .int y)]) C dX6_stackOf_24 (by decide) rfl ?_
  refine r_iload_n C dX6_stackOf_26 rfl 4 rfl ?_
  by_cases hsw27 : (y).toInt < 0 ∨ 9 < (y).toInt
  · refine r_tableOut (tgt := 155) C dX6_stackOf_27 hsw27 (by decide) ?_
    refine r_ldc C wQ_X6_45 dX6_stackOf_155 ?_
    exact r_iret C hr hlocks (Nat.le_of_ble_eq_true rfl) (Nat.le_of_ble_eq_true rfl) dX6_stackOf_157 (hpo _ _ _ ⟨rfl, rfl, rfl⟩)
  · obtain ⟨hlo, hhi⟩ := not_or.mp hsw27
    rcases (show (y).toInt = 0 ∨ (y).toInt = 1 ∨ (y).toInt = 2 ∨ (y).toInt = 3 ∨ (y).toInt = 4 ∨ (y).toInt = 5 ∨ (y).toInt = 6 ∨ (y).toInt = 7 ∨ (y).toInt = 8 ∨ (y).toInt = 9 by omega) with hz | hz | hz | hz | hz | hz | hz | hz | hz | hz
    · exact absurd hz (by omega)
    · exact absurd hz (by omega)
    · exact absurd hz (by omega)
    · exact absurd hz (by omega)
    · exact absurd hz (by omega)
    · exact absurd hz (by omega)
    · exact absurd hz (by omega)
    · exact absurd hz (by omega)
    · exact absurd hz (by omega)
    · exact absurd hz (by omega)

abbrev rm_X6_ranked_r : Room := { frames := 1, cells := 0, slots := 0, locals := 21 }
set_option maxRecDepth 100000 in
set_option maxHeartbeats 4000000 in
theorem c_X6_ranked_r {l : Launch} {G : gG} {n : Nat} {σ : gS} {b0 st : Nat} {K : KT} {k sa : Nat} {y z : Int32} (hc0 : σ b0 = some (.inr (6, [.ref (b0 + 1), .ref (b0 + 5), .ref (b0 + 7), .ref (b0 + 13), .ref (b0 + 19), .int (nI st)]))) (hc1 : σ (b0 + 7) = some (.inr (0, [.int (nI (kN K)), .int (nI (kH K)), .ref (b0 + 8), .ref (b0 + 9), .ref (b0 + 10), .ref (b0 + 11), .ref (b0 + 12)]))) (hc2 : σ (b0 + 10) = some (aR 4 G 5 (kS K))) (hk : k < kN K) (hk5 : kN K ≤ 5) (hs : kS K k = some sa) (hy : y < 0) : GM l G yX6_ranked cX6_ranked 5 (some .int) rm_X6_ranked_r n σ [.ref b0, .int (nI k), .int y, .int z] (fun rv n2 σ2 => some (.int (-1000001)) = rv ∧ n = n2 ∧ σ = σ2) := by
  refine GM.intro (by decide +kernel) (Nat.le_of_ble_eq_true rfl) (fun p e s m args below meth c C hr hlocks hname po hpo => ?_)
  have C : Cx p s m args c cX6_ranked 5 RX6 G := C
  refine r_aload_n C dX6_ranked_0 rfl 0 rfl ?_
  refine r_get (Cn := RX6) (T := TX6) (N := 6) (v := .ref (b0 + 7)) C inlX6 hc0 rfl 2 (by decide) wF_X6_26 (fun _ h => h) rfl dX6_ranked_1 ?_
  refine r_iload_n C dX6_ranked_4 rfl 1 rfl ?_
  refine r_callV (As := [.int (nI k)]) C (c_X0_shapeOf_y (k0 := b0 + 7) (K := K) (k := k) (sa := sa) hc1 hc2 (by first | assumption | omega) (by first | assumption | omega) (by first | assumption | omega)) wM_X6_58 wI_X0_shapeOf wN_X0 wC_X0_shapeOf wV_X0_shapeOf hd_X0_shapeOf ⟨Nat.le_of_ble_eq_true rfl, Nat.le_of_ble_eq_true rfl⟩ rfl hc1 rfl rfl (Nat.le_of_ble_eq_true rfl) dX6_ranked_5 ⟨(Nat.le_of_ble_eq_true rfl), (Nat.le_of_ble_eq_true rfl)⟩ (fun rv n2 σ2 hp => ?_)
  obtain ⟨rfl, rfl, rfl⟩ := hp
  refine V.eq (σ2 := σ) (n2 := n) (st2 := [.ref sa]) rfl rfl rfl rfl ?_
  refine r_astore (lv2 := [(4, .ref sa), (0, .ref b0), (1, .int (nI k)), (2, .int y), (3, .int z)]) C dX6_ranked_8 (by decide) rfl ?_
  refine r_aload C dX6_ranked_10 0 rfl ?_
  refine r_ifnull C dX6_ranked_12 ?_
  refine r_iload_n C dX6_ranked_15 rfl 3 rfl ?_
  refine r_if_lt (tgt := 28) C dX6_ranked_16 (by decide) (fun c16 => ?_) (fun c16 => ?_)
  · refine r_ldc C wQ_X6_45 dX6_ranked_28 ?_
    exact r_iret C hr hlocks (Nat.le_of_ble_eq_true rfl) (Nat.le_of_ble_eq_true rfl) dX6_ranked_30 (hpo _ _ _ ⟨rfl, rfl, rfl⟩)
  · exact absurd hy c16

abbrev rm_X6_ranked_z : Room := { frames := 1, cells := 0, slots := 0, locals := 21 }
set_option maxRecDepth 100000 in
set_option maxHeartbeats 4000000 in
theorem c_X6_ranked_z {l : Launch} {G : gG} {n : Nat} {σ : gS} {b0 st : Nat} {K : KT} {k sa r : Nat} {y : Int32} (hc0 : σ b0 = some (.inr (6, [.ref (b0 + 1), .ref (b0 + 5), .ref (b0 + 7), .ref (b0 + 13), .ref (b0 + 19), .int (nI st)]))) (hc1 : σ (b0 + 7) = some (.inr (0, [.int (nI (kN K)), .int (nI (kH K)), .ref (b0 + 8), .ref (b0 + 9), .ref (b0 + 10), .ref (b0 + 11), .ref (b0 + 12)]))) (hc2 : σ (b0 + 10) = some (aR 4 G 5 (kS K))) (hk : k < kN K) (hk5 : kN K ≤ 5) (hs : kS K k = some sa) (hr31 : r < 2 ^ 31) (hbad : decide (nI 0 ≤ y ∧ y ≤ nI 1) = false) : GM l G yX6_ranked cX6_ranked 5 (some .int) rm_X6_ranked_z n σ [.ref b0, .int (nI k), .int (nI r), .int y] (fun rv n2 σ2 => some (.int (-1000001)) = rv ∧ n = n2 ∧ σ = σ2) := by
  refine GM.intro (by decide +kernel) (Nat.le_of_ble_eq_true rfl) (fun p e s m args below meth c C hr hlocks hname po hpo => ?_)
  have C : Cx p s m args c cX6_ranked 5 RX6 G := C
  refine r_aload_n C dX6_ranked_0 rfl 0 rfl ?_
  refine r_get (Cn := RX6) (T := TX6) (N := 6) (v := .ref (b0 + 7)) C inlX6 hc0 rfl 2 (by decide) wF_X6_26 (fun _ h => h) rfl dX6_ranked_1 ?_
  refine r_iload_n C dX6_ranked_4 rfl 1 rfl ?_
  refine r_callV (As := [.int (nI k)]) C (c_X0_shapeOf_y (k0 := b0 + 7) (K := K) (k := k) (sa := sa) hc1 hc2 (by first | assumption | omega) (by first | assumption | omega) (by first | assumption | omega)) wM_X6_58 wI_X0_shapeOf wN_X0 wC_X0_shapeOf wV_X0_shapeOf hd_X0_shapeOf ⟨Nat.le_of_ble_eq_true rfl, Nat.le_of_ble_eq_true rfl⟩ rfl hc1 rfl rfl (Nat.le_of_ble_eq_true rfl) dX6_ranked_5 ⟨(Nat.le_of_ble_eq_true rfl), (Nat.le_of_ble_eq_true rfl)⟩ (fun rv n2 σ2 hp => ?_)
  obtain ⟨rfl, rfl, rfl⟩ := hp
  refine V.eq (σ2 := σ) (n2 := n) (st2 := [.ref sa]) rfl rfl rfl rfl ?_
  refine r_astore (lv2 := [(4, .ref sa), (0, .ref b0), (1, .int (nI k)), (2, .int (nI r)), (3, .int y)]) C dX6_ranked_8 (by decide) rfl ?_
  refine r_aload C dX6_ranked_10 0 rfl ?_
  refine r_ifnull C dX6_ranked_12 ?_
  refine r_iload_n C dX6_ranked_15 rfl 3 rfl ?_
  refine r_if_ltN C dX6_ranked_16 (tgt := 28) (by decide) (by omega) ?_
  refine r_iload_n C dX6_ranked_19 rfl 4 rfl ?_
  refine r_if_lt (tgt := 28) C dX6_ranked_20 (by decide) (fun c20 => ?_) (fun c20 => ?_)
  · refine r_ldc C wQ_X6_45 dX6_ranked_28 ?_
    exact r_iret C hr hlocks (Nat.le_of_ble_eq_true rfl) (Nat.le_of_ble_eq_true rfl) dX6_ranked_30 (hpo _ _ _ ⟨rfl, rfl, rfl⟩)
  · refine r_iload_n C dX6_ranked_23 rfl 4 rfl ?_
    refine r_iconst (v := nI 1) C dX6_ranked_24 (by decide) ?_
    refine r_icmp_le (tgt := 31) C dX6_ranked_25 (by decide) (fun c25 => ?_) (fun c25 => ?_)
    · exact absurd ((in_3 (low := nI 0) (high := nI 1) c20 (Int32.not_lt.mpr c25)).symm.trans hbad) (by decide)
    · refine r_ldc C wQ_X6_45 dX6_ranked_28 ?_
      exact r_iret C hr hlocks (Nat.le_of_ble_eq_true rfl) (Nat.le_of_ble_eq_true rfl) dX6_ranked_30 (hpo _ _ _ ⟨rfl, rfl, rfl⟩)

abbrev rm_X6_stackOf_y : Room := { frames := 2, cells := 0, slots := 0, locals := 42 }
set_option maxRecDepth 100000 in
set_option maxHeartbeats 4000000 in
theorem c_X6_stackOf_y {l : Launch} {G : gG} {n : Nat} {σ : gS} {b0 st : Nat} {K : KT} {k sa la : Nat} {kd N sr : Nat} {sv : Value} {cfl : Nat} {f1 : Nat → Int32} {f2 : Nat → Int32} {f3 : Nat → Int32} {f4 : Nat → Int32} {f5 : Nat → Int32} {r w : Nat} (hc0 : σ b0 = some (.inr (6, [.ref (b0 + 1), .ref (b0 + 5), .ref (b0 + 7), .ref (b0 + 13), .ref (b0 + 19), .int (nI st)]))) (hc1 : σ (b0 + 7) = some (.inr (0, [.int (nI (kN K)), .int (nI (kH K)), .ref (b0 + 8), .ref (b0 + 9), .ref (b0 + 10), .ref (b0 + 11), .ref (b0 + 12)]))) (hc2 : σ (b0 + 10) = some (aR 4 G 5 (kS K))) (hc3 : σ (b0 + 11) = some (aI G 5 (kR K))) (hc4 : σ (b0 + 12) = some (aI G 5 (kM K))) (hc5 : σ sa = some (.inr (2, [.int (nI kd), .int (nI sr), .int (nI N), .ref la, .ref (sa + 1), sv]))) (hc6 : σ (sa + 1) = some (aI G (rR (sid kd) N) f5)) (hc7 : σ la = some (.inr (1, [.int (nI N), .int (nI (rR (sid kd) N)), .int (nI (sbN (sid kd) N)), .int (nI (sm (sid kd) N - 1)), .ref (la + 1), .ref (la + 2), .ref (la + 3), .ref (la + 4)]))) (hc8 : σ (la + 1) = some (aI G (fac N) f1)) (hc9 : σ (la + 2) = some (aI G (fac N * N) f2)) (hc10 : σ (la + 3) = some (aI G (rR (sid kd) N * N) f3)) (hc11 : σ (la + 4) = some (aI G (rR (sid kd) N) f4)) (hk : k < kN K) (hk5 : kN K ≤ 5) (hs : kS K k = some sa) (hso : shOK kd N sr) (h1 : ∀ o, o < fac N → f1 o = nI (cd N o)) (h2 : ∀ o, o < fac N → ∀ j, j < N → f2 (o * N + j) = nI (sz N o j)) (h3 : ∀ r, r < rR (sid kd) N → ∀ k, 1 ≤ k → k ≤ N → f3 (r * N + k - 1) = nI (nx (sid kd) N r k)) (h4 : ∀ r, r < rR (sid kd) N → f4 r = nI (jw (sid kd) N r)) (h5 : ∀ r, r < rR (sid kd) N → f5 r = nI (psR kd sr N r)) (hr9 : kR K k = nI r) (hrk : r < rR (sid kd) N) (hw : w ≤ 9) : GM l G yX6_stackOf cX6_stackOf 5 (some .int) rm_X6_stackOf_y n σ [.ref b0, .int (nI k), .int (nI w)] (fun rv n2 σ2 => some (.int (sof kd N sr (oR (sid kd) N r) (sR (sid kd) N r) (kM K k) w)) = rv ∧ n = n2 ∧ σ = σ2) := by
  refine GM.intro (by decide +kernel) (Nat.le_of_ble_eq_true rfl) (fun p e s m args below meth c C hr hlocks hname po hpo => ?_)
  have C : Cx p s m args c cX6_stackOf 5 RX6 G := C
  have hLL := hso.L
  have hb9 := hLL.b
  have hps := psR_lt (kd := kd) (sr := sr) (r := r) hso.N
  refine r_aload_n C dX6_stackOf_0 rfl 0 rfl ?_
  refine r_get (Cn := RX6) (T := TX6) (N := 6) (v := .ref (b0 + 7)) C inlX6 hc0 rfl 2 (by decide) wF_X6_26 (fun _ h => h) rfl dX6_stackOf_1 ?_
  refine r_iload_n C dX6_stackOf_4 rfl 1 rfl ?_
  refine r_callV (As := [.int (nI k)]) C (c_X0_shapeOf_y (k0 := b0 + 7) (K := K) (k := k) (sa := sa) hc1 hc2 (by first | assumption | omega) (by first | assumption | omega) (by first | assumption | omega)) wM_X6_58 wI_X0_shapeOf wN_X0 wC_X0_shapeOf wV_X0_shapeOf hd_X0_shapeOf ⟨Nat.le_of_ble_eq_true rfl, Nat.le_of_ble_eq_true rfl⟩ rfl hc1 rfl rfl (Nat.le_of_ble_eq_true rfl) dX6_stackOf_5 ⟨(Nat.le_of_ble_eq_true rfl), (Nat.le_of_ble_eq_true rfl)⟩ (fun rv n2 σ2 hp => ?_)
  obtain ⟨rfl, rfl, rfl⟩ := hp
  refine V.eq (σ2 := σ) (n2 := n) (st2 := [.ref sa]) rfl rfl rfl rfl ?_
  refine r_astore_n (lv2 := [(3, .ref sa), (0, .ref b0), (1, .int (nI k)), (2, .int (nI w))]) C dX6_stackOf_8 rfl (by decide) rfl ?_
  refine r_aload_n C dX6_stackOf_9 rfl 0 rfl ?_
  refine r_ifnonnull (tgt := 16) C dX6_stackOf_10 (by decide) ?_
  refine r_aload_n C dX6_stackOf_16 rfl 1 rfl ?_
  refine r_get (Cn := RX6) (T := TX6) (N := 6) (v := .ref (b0 + 7)) C inlX6 hc0 rfl 2 (by decide) wF_X6_26 (fun _ h => h) rfl dX6_stackOf_17 ?_
  refine r_iload_n C dX6_stackOf_20 rfl 2 rfl ?_
  refine r_callV (As := [.int (nI k)]) C (c_X0_rankOf (k0 := b0 + 7) (K := K) (k := k) hc1 hc3 (by omega)) wM_X6_90 wI_X0_rankOf wN_X0 wC_X0_rankOf wV_X0_rankOf hd_X0_rankOf ⟨Nat.le_of_ble_eq_true rfl, Nat.le_of_ble_eq_true rfl⟩ rfl hc1 rfl rfl (Nat.le_of_ble_eq_true rfl) dX6_stackOf_21 ⟨(Nat.le_of_ble_eq_true rfl), (Nat.le_of_ble_eq_true rfl)⟩ (fun rv n2 σ2 hp => ?_)
  obtain ⟨rfl, rfl, rfl⟩ := hp
  refine V.eq (σ2 := σ) (n2 := n) (st2 := [.int (kR K k)]) rfl rfl rfl rfl ?_
  refine V.top (y := nI r) (hr9) ?_
  refine r_istore (lv2 := [(4, .int (nI r)), (3, .ref sa), (0, .ref b0), (1, .int (nI k)), (2, .int (nI w))]) C dX6_stackOf_24 (by decide) rfl ?_
  refine r_iload_n C dX6_stackOf_26 rfl 4 rfl ?_
  by_cases hsw27 : (nI w).toInt < 0 ∨ 9 < (nI w).toInt
  · exact absurd hsw27 (by rw [nI_toInt (by omega)]; omega)
  · obtain ⟨hlo, hhi⟩ := not_or.mp hsw27
    rcases (show (nI w).toInt = 0 ∨ (nI w).toInt = 1 ∨ (nI w).toInt = 2 ∨ (nI w).toInt = 3 ∨ (nI w).toInt = 4 ∨ (nI w).toInt = 5 ∨ (nI w).toInt = 6 ∨ (nI w).toInt = 7 ∨ (nI w).toInt = 8 ∨ (nI w).toInt = 9 by omega) with hz | hz | hz | hz | hz | hz | hz | hz | hz | hz
    · refine r_tableIn (tgt := 80) C dX6_stackOf_27 hlo hhi (by rw [hz]; rfl) (by decide) ?_
      refine r_aload_n C dX6_stackOf_80 rfl 1 rfl ?_
      refine r_get (Cn := RX2) (T := TX2) (N := 6) (v := .int (nI kd)) C inlX2 hc5 rfl 0 (by decide) wF_X6_96 (fun _ h => h) rfl dX6_stackOf_81 ?_
      exact r_iret C hr hlocks (Nat.le_of_ble_eq_true rfl) (Nat.le_of_ble_eq_true rfl) dX6_stackOf_84 (hpo _ _ _ ⟨by have h5 : w = 0 := (by rw [nI_toInt (by omega)] at hz; omega); rw [h5]; rfl, rfl, rfl⟩)
    · refine r_tableIn (tgt := 85) C dX6_stackOf_27 hlo hhi (by rw [hz]; rfl) (by decide) ?_
      refine r_aload_n C dX6_stackOf_85 rfl 1 rfl ?_
      refine r_get (Cn := RX2) (T := TX2) (N := 6) (v := .int (nI N)) C inlX2 hc5 rfl 2 (by decide) wF_X6_82 (fun _ h => h) rfl dX6_stackOf_86 ?_
      exact r_iret C hr hlocks (Nat.le_of_ble_eq_true rfl) (Nat.le_of_ble_eq_true rfl) dX6_stackOf_89 (hpo _ _ _ ⟨by have h5 : w = 1 := (by rw [nI_toInt (by omega)] at hz; omega); rw [h5]; rfl, rfl, rfl⟩)
    · refine r_tableIn (tgt := 90) C dX6_stackOf_27 hlo hhi (by rw [hz]; rfl) (by decide) ?_
      refine r_aload_n C dX6_stackOf_90 rfl 1 rfl ?_
      refine r_get (Cn := RX2) (T := TX2) (N := 6) (v := .int (nI sr)) C inlX2 hc5 rfl 1 (by decide) wF_X6_99 (fun _ h => h) rfl dX6_stackOf_91 ?_
      exact r_iret C hr hlocks (Nat.le_of_ble_eq_true rfl) (Nat.le_of_ble_eq_true rfl) dX6_stackOf_94 (hpo _ _ _ ⟨by have h5 : w = 2 := (by rw [nI_toInt (by omega)] at hz; omega); rw [h5]; rfl, rfl, rfl⟩)
    · refine r_tableIn (tgt := 95) C dX6_stackOf_27 hlo hhi (by rw [hz]; rfl) (by decide) ?_
      refine r_aload_n C dX6_stackOf_95 rfl 1 rfl ?_
      refine r_get (Cn := RX2) (T := TX2) (N := 6) (v := .ref la) C inlX2 hc5 rfl 3 (by decide) wF_X6_62 (fun _ h => h) rfl dX6_stackOf_96 ?_
      refine r_iload C dX6_stackOf_99 0 rfl ?_
      refine r_callV (As := [.int (nI r)]) C (c_X1_codeOf (la := la) (N := N) (cfl := cfl) (sb := (sid kd)) (f1 := f1) (r := r) hc7 hc8 (hLL) (by first | assumption | omega) (by first | assumption | omega)) wM_X6_102 wI_X1_codeOf wN_X1 wC_X1_codeOf wV_X1_codeOf hd_X1_codeOf ⟨Nat.le_of_ble_eq_true rfl, Nat.le_of_ble_eq_true rfl⟩ rfl hc7 rfl rfl (Nat.le_of_ble_eq_true rfl) dX6_stackOf_101 ⟨(Nat.le_of_ble_eq_true rfl), (Nat.le_of_ble_eq_true rfl)⟩ (fun rv n2 σ2 hp => ?_)
      obtain ⟨rfl, rfl, rfl⟩ := hp
      refine V.eq (σ2 := σ) (n2 := n) (st2 := [.int (nI (cd N (oR (sid kd) N r)))]) rfl rfl rfl rfl ?_
      exact r_iret C hr hlocks (Nat.le_of_ble_eq_true rfl) (Nat.le_of_ble_eq_true rfl) dX6_stackOf_104 (hpo _ _ _ ⟨by have h5 : w = 3 := (by rw [nI_toInt (by omega)] at hz; omega); rw [h5]; rfl, rfl, rfl⟩)
    · refine r_tableIn (tgt := 105) C dX6_stackOf_27 hlo hhi (by rw [hz]; rfl) (by decide) ?_
      refine r_aload_n C dX6_stackOf_105 rfl 1 rfl ?_
      refine r_get (Cn := RX2) (T := TX2) (N := 6) (v := .ref la) C inlX2 hc5 rfl 3 (by decide) wF_X6_62 (fun _ h => h) rfl dX6_stackOf_106 ?_
      refine r_iload C dX6_stackOf_109 0 rfl ?_
      refine r_callV (As := [.int (nI r)]) C (c_X1_sidesOf (la := la) (N := N) (cfl := cfl) (sb := (sid kd)) (r := r) hc7 (hLL) (by first | assumption | omega)) wM_X6_105 wI_X1_sidesOf wN_X1 wC_X1_sidesOf wV_X1_sidesOf hd_X1_sidesOf ⟨Nat.le_of_ble_eq_true rfl, Nat.le_of_ble_eq_true rfl⟩ rfl hc7 rfl rfl (Nat.le_of_ble_eq_true rfl) dX6_stackOf_111 ⟨(Nat.le_of_ble_eq_true rfl), (Nat.le_of_ble_eq_true rfl)⟩ (fun rv n2 σ2 hp => ?_)
      obtain ⟨rfl, rfl, rfl⟩ := hp
      refine V.eq (σ2 := σ) (n2 := n) (st2 := [.int (nI (sR (sid kd) N r))]) rfl rfl rfl rfl ?_
      exact r_iret C hr hlocks (Nat.le_of_ble_eq_true rfl) (Nat.le_of_ble_eq_true rfl) dX6_stackOf_114 (hpo _ _ _ ⟨by have h5 : w = 4 := (by rw [nI_toInt (by omega)] at hz; omega); rw [h5]; rfl, rfl, rfl⟩)
    · refine r_tableIn (tgt := 115) C dX6_stackOf_27 hlo hhi (by rw [hz]; rfl) (by decide) ?_
      refine r_aload_n C dX6_stackOf_115 rfl 1 rfl ?_
      refine r_get (Cn := RX2) (T := TX2) (N := 6) (v := .ref la) C inlX2 hc5 rfl 3 (by decide) wF_X6_62 (fun _ h => h) rfl dX6_stackOf_116 ?_
      refine r_iload C dX6_stackOf_119 0 rfl ?_
      refine r_callV (As := [.int (nI r)]) C (c_X1_gaps (la := la) (N := N) (cfl := cfl) (sb := (sid kd)) (f4 := f4) (r := r) hc7 hc11 (hLL) (by first | assumption | omega) (by first | assumption | omega)) wM_X6_78 wI_X1_gaps wN_X1 wC_X1_gaps wV_X1_gaps hd_X1_gaps ⟨Nat.le_of_ble_eq_true rfl, Nat.le_of_ble_eq_true rfl⟩ rfl hc7 rfl rfl (Nat.le_of_ble_eq_true rfl) dX6_stackOf_121 ⟨(Nat.le_of_ble_eq_true rfl), (Nat.le_of_ble_eq_true rfl)⟩ (fun rv n2 σ2 hp => ?_)
      obtain ⟨rfl, rfl, rfl⟩ := hp
      refine V.eq (σ2 := σ) (n2 := n) (st2 := [.int (nI (gp (sid kd) N (oR (sid kd) N r) (sR (sid kd) N r)))]) rfl rfl rfl rfl ?_
      exact r_iret C hr hlocks (Nat.le_of_ble_eq_true rfl) (Nat.le_of_ble_eq_true rfl) dX6_stackOf_124 (hpo _ _ _ ⟨by have h5 : w = 5 := (by rw [nI_toInt (by omega)] at hz; omega); rw [h5]; rfl, rfl, rfl⟩)
    · refine r_tableIn (tgt := 125) C dX6_stackOf_27 hlo hhi (by rw [hz]; rfl) (by decide) ?_
      refine r_iload C dX6_stackOf_125 0 rfl ?_
      refine r_if_neN (tgt := 134) C dX6_stackOf_127 (by decide) (by omega) (fun c127 => ?_) (fun c127 => ?_)
      · refine r_iconst (v := nI 0) C dX6_stackOf_134 (by decide) ?_
        exact r_iret C hr hlocks (Nat.le_of_ble_eq_true rfl) (Nat.le_of_ble_eq_true rfl) dX6_stackOf_135 (hpo _ _ _ ⟨by have h5 : w = 6 := (by rw [nI_toInt (by omega)] at hz; omega); rw [h5]; first | exact bI_t (srp_eq (Vld_R hso hrk) c127) | exact bI_f (srp_ne (Vld_R hso hrk) c127), rfl, rfl⟩)
      · refine r_iconst (v := nI 1) C dX6_stackOf_130 (by decide) ?_
        refine r_goto (tgt := 135) C dX6_stackOf_131 (by decide) ?_
        exact r_iret C hr hlocks (Nat.le_of_ble_eq_true rfl) (Nat.le_of_ble_eq_true rfl) dX6_stackOf_135 (hpo _ _ _ ⟨by have h5 : w = 6 := (by rw [nI_toInt (by omega)] at hz; omega); rw [h5]; first | exact bI_t (srp_eq (Vld_R hso hrk) c127) | exact bI_f (srp_ne (Vld_R hso hrk) c127), rfl, rfl⟩)
    · refine r_tableIn (tgt := 136) C dX6_stackOf_27 hlo hhi (by rw [hz]; rfl) (by decide) ?_
      refine r_iload C dX6_stackOf_136 0 rfl ?_
      exact r_iret C hr hlocks (Nat.le_of_ble_eq_true rfl) (Nat.le_of_ble_eq_true rfl) dX6_stackOf_138 (hpo _ _ _ ⟨by have h5 : w = 7 := (by rw [nI_toInt (by omega)] at hz; omega); rw [h5]; exact congrArg (fun z => some (Value.int (nI z))) (rk_R _ _ _).symm, rfl, rfl⟩)
    · refine r_tableIn (tgt := 139) C dX6_stackOf_27 hlo hhi (by rw [hz]; rfl) (by decide) ?_
      refine r_aload_n C dX6_stackOf_139 rfl 1 rfl ?_
      refine r_iload C dX6_stackOf_140 0 rfl ?_
      refine r_callV (As := [.int (nI r)]) C (c_X2_possibleTurns (sa := sa) (la := la) (kd := kd) (N := N) (sr := sr) (sv := sv) (f5 := f5) (r := r) hc5 hc6 (hLL) (by first | assumption | omega) (by first | assumption | omega)) wM_X6_108 wI_X2_possibleTurns wN_X2 wC_X2_possibleTurns wV_X2_possibleTurns hd_X2_possibleTurns ⟨Nat.le_of_ble_eq_true rfl, Nat.le_of_ble_eq_true rfl⟩ rfl hc5 rfl rfl (Nat.le_of_ble_eq_true rfl) dX6_stackOf_142 ⟨(Nat.le_of_ble_eq_true rfl), (Nat.le_of_ble_eq_true rfl)⟩ (fun rv n2 σ2 hp => ?_)
      obtain ⟨rfl, rfl, rfl⟩ := hp
      refine V.eq (σ2 := σ) (n2 := n) (st2 := [.int (nI (psR kd sr N r))]) rfl rfl rfl rfl ?_
      exact r_iret C hr hlocks (Nat.le_of_ble_eq_true rfl) (Nat.le_of_ble_eq_true rfl) dX6_stackOf_145 (hpo _ _ _ ⟨by have h5 : w = 8 := (by rw [nI_toInt (by omega)] at hz; omega); rw [h5]; rfl, rfl, rfl⟩)
    · refine r_tableIn (tgt := 146) C dX6_stackOf_27 hlo hhi (by rw [hz]; rfl) (by decide) ?_
      refine r_aload_n C dX6_stackOf_146 rfl 2 rfl ?_
      refine r_get (Cn := RX6) (T := TX6) (N := 6) (v := .ref (b0 + 7)) C inlX6 hc0 rfl 2 (by decide) wF_X6_26 (fun _ h => h) rfl dX6_stackOf_147 ?_
      refine r_iload_n C dX6_stackOf_150 rfl 3 rfl ?_
      refine r_callV (As := [.int (nI k)]) C (c_X0_madeOf (k0 := b0 + 7) (K := K) (k := k) hc1 hc4 (by omega)) wM_X6_111 wI_X0_madeOf wN_X0 wC_X0_madeOf wV_X0_madeOf hd_X0_madeOf ⟨Nat.le_of_ble_eq_true rfl, Nat.le_of_ble_eq_true rfl⟩ rfl hc1 rfl rfl (Nat.le_of_ble_eq_true rfl) dX6_stackOf_151 ⟨(Nat.le_of_ble_eq_true rfl), (Nat.le_of_ble_eq_true rfl)⟩ (fun rv n2 σ2 hp => ?_)
      obtain ⟨rfl, rfl, rfl⟩ := hp
      refine V.eq (σ2 := σ) (n2 := n) (st2 := [.int (kM K k)]) rfl rfl rfl rfl ?_
      exact r_iret C hr hlocks (Nat.le_of_ble_eq_true rfl) (Nat.le_of_ble_eq_true rfl) dX6_stackOf_154 (hpo _ _ _ ⟨by have h5 : w = 9 := (by rw [nI_toInt (by omega)] at hz; omega); rw [h5]; rfl, rfl, rfl⟩)

abbrev rm_X6_cakeAt_y : Room := { frames := 2, cells := 0, slots := 0, locals := 43 }
set_option maxRecDepth 100000 in
set_option maxHeartbeats 4000000 in
theorem c_X6_cakeAt_y {l : Launch} {G : gG} {n : Nat} {σ : gS} {b0 st : Nat} {K : KT} {k sa la : Nat} {kd N sr : Nat} {sv : Value} {cfl : Nat} {f1 : Nat → Int32} {f2 : Nat → Int32} {f3 : Nat → Int32} {f4 : Nat → Int32} {f5 : Nat → Int32} {r q : Nat} (hc0 : σ b0 = some (.inr (6, [.ref (b0 + 1), .ref (b0 + 5), .ref (b0 + 7), .ref (b0 + 13), .ref (b0 + 19), .int (nI st)]))) (hc1 : σ (b0 + 7) = some (.inr (0, [.int (nI (kN K)), .int (nI (kH K)), .ref (b0 + 8), .ref (b0 + 9), .ref (b0 + 10), .ref (b0 + 11), .ref (b0 + 12)]))) (hc2 : σ (b0 + 10) = some (aR 4 G 5 (kS K))) (hc3 : σ (b0 + 11) = some (aI G 5 (kR K))) (hc4 : σ (b0 + 12) = some (aI G 5 (kM K))) (hc5 : σ sa = some (.inr (2, [.int (nI kd), .int (nI sr), .int (nI N), .ref la, .ref (sa + 1), sv]))) (hc6 : σ (sa + 1) = some (aI G (rR (sid kd) N) f5)) (hc7 : σ la = some (.inr (1, [.int (nI N), .int (nI (rR (sid kd) N)), .int (nI (sbN (sid kd) N)), .int (nI (sm (sid kd) N - 1)), .ref (la + 1), .ref (la + 2), .ref (la + 3), .ref (la + 4)]))) (hc8 : σ (la + 1) = some (aI G (fac N) f1)) (hc9 : σ (la + 2) = some (aI G (fac N * N) f2)) (hc10 : σ (la + 3) = some (aI G (rR (sid kd) N * N) f3)) (hc11 : σ (la + 4) = some (aI G (rR (sid kd) N) f4)) (hk : k < kN K) (hk5 : kN K ≤ 5) (hs : kS K k = some sa) (hso : shOK kd N sr) (h1 : ∀ o, o < fac N → f1 o = nI (cd N o)) (h2 : ∀ o, o < fac N → ∀ j, j < N → f2 (o * N + j) = nI (sz N o j)) (h3 : ∀ r, r < rR (sid kd) N → ∀ k, 1 ≤ k → k ≤ N → f3 (r * N + k - 1) = nI (nx (sid kd) N r k)) (h4 : ∀ r, r < rR (sid kd) N → f4 r = nI (jw (sid kd) N r)) (h5 : ∀ r, r < rR (sid kd) N → f5 r = nI (psR kd sr N r)) (hr9 : kR K k = nI r) (hrk : r < rR (sid kd) N) (hq : q < N) : GM l G yX6_cakeAt cX6_cakeAt 6 (some .int) rm_X6_cakeAt_y n σ [.ref b0, .int (nI k), .int (nI q)] (fun rv n2 σ2 => some (.int ((nI (sz N (oR (sid kd) N r) q)) - (nI (10 * (bt (sR (sid kd) N r) q))))) = rv ∧ n = n2 ∧ σ = σ2) := by
  refine GM.intro (by decide +kernel) (Nat.le_of_ble_eq_true rfl) (fun p e s m args below meth c C hr hlocks hname po hpo => ?_)
  have C : Cx p s m args c cX6_cakeAt 6 RX6 G := C
  have hLL := hso.L
  have hb9 := hLL.b
  have hN6 := hso.N
  have hbt := bt_le (sR (sid kd) N r) q
  refine r_aload_n C dX6_cakeAt_0 rfl 0 rfl ?_
  refine r_get (Cn := RX6) (T := TX6) (N := 6) (v := .ref (b0 + 7)) C inlX6 hc0 rfl 2 (by decide) wF_X6_26 (fun _ h => h) rfl dX6_cakeAt_1 ?_
  refine r_iload_n C dX6_cakeAt_4 rfl 1 rfl ?_
  refine r_callV (As := [.int (nI k)]) C (c_X0_shapeOf_y (k0 := b0 + 7) (K := K) (k := k) (sa := sa) hc1 hc2 (by first | assumption | omega) (by first | assumption | omega) (by first | assumption | omega)) wM_X6_58 wI_X0_shapeOf wN_X0 wC_X0_shapeOf wV_X0_shapeOf hd_X0_shapeOf ⟨Nat.le_of_ble_eq_true rfl, Nat.le_of_ble_eq_true rfl⟩ rfl hc1 rfl rfl (Nat.le_of_ble_eq_true rfl) dX6_cakeAt_5 ⟨(Nat.le_of_ble_eq_true rfl), (Nat.le_of_ble_eq_true rfl)⟩ (fun rv n2 σ2 hp => ?_)
  obtain ⟨rfl, rfl, rfl⟩ := hp
  refine V.eq (σ2 := σ) (n2 := n) (st2 := [.ref sa]) rfl rfl rfl rfl ?_
  refine r_astore_n (lv2 := [(3, .ref sa), (0, .ref b0), (1, .int (nI k)), (2, .int (nI q))]) C dX6_cakeAt_8 rfl (by decide) rfl ?_
  refine r_aload_n C dX6_cakeAt_9 rfl 0 rfl ?_
  refine r_ifnull C dX6_cakeAt_10 ?_
  refine r_iload_n C dX6_cakeAt_13 rfl 3 rfl ?_
  refine r_if_ltN C dX6_cakeAt_14 (tgt := 25) (by decide) (by omega) ?_
  refine r_iload_n C dX6_cakeAt_17 rfl 3 rfl ?_
  refine r_aload_n C dX6_cakeAt_18 rfl 0 rfl ?_
  refine r_get (Cn := RX2) (T := TX2) (N := 6) (v := .int (nI N)) C inlX2 hc5 rfl 2 (by decide) wF_X6_82 (fun _ h => h) rfl dX6_cakeAt_19 ?_
  refine r_icmp_ltN (tgt := 28) C dX6_cakeAt_22 (by decide) (by omega) (by omega) (fun c22 => ?_) (fun c22 => ?_)
  · refine r_aload_n C dX6_cakeAt_28 rfl 1 rfl ?_
    refine r_get (Cn := RX6) (T := TX6) (N := 6) (v := .ref (b0 + 7)) C inlX6 hc0 rfl 2 (by decide) wF_X6_26 (fun _ h => h) rfl dX6_cakeAt_29 ?_
    refine r_iload_n C dX6_cakeAt_32 rfl 2 rfl ?_
    refine r_callV (As := [.int (nI k)]) C (c_X0_rankOf (k0 := b0 + 7) (K := K) (k := k) hc1 hc3 (by omega)) wM_X6_90 wI_X0_rankOf wN_X0 wC_X0_rankOf wV_X0_rankOf hd_X0_rankOf ⟨Nat.le_of_ble_eq_true rfl, Nat.le_of_ble_eq_true rfl⟩ rfl hc1 rfl rfl (Nat.le_of_ble_eq_true rfl) dX6_cakeAt_33 ⟨(Nat.le_of_ble_eq_true rfl), (Nat.le_of_ble_eq_true rfl)⟩ (fun rv n2 σ2 hp => ?_)
    obtain ⟨rfl, rfl, rfl⟩ := hp
    refine V.eq (σ2 := σ) (n2 := n) (st2 := [.int (kR K k)]) rfl rfl rfl rfl ?_
    refine V.top (y := nI r) (hr9) ?_
    refine r_istore (lv2 := [(4, .int (nI r)), (3, .ref sa), (0, .ref b0), (1, .int (nI k)), (2, .int (nI q))]) C dX6_cakeAt_36 (by decide) rfl ?_
    refine r_aload_n C dX6_cakeAt_38 rfl 1 rfl ?_
    refine r_get (Cn := RX2) (T := TX2) (N := 6) (v := .ref la) C inlX2 hc5 rfl 3 (by decide) wF_X6_62 (fun _ h => h) rfl dX6_cakeAt_39 ?_
    refine r_iload C dX6_cakeAt_42 0 rfl ?_
    refine r_iload_n C dX6_cakeAt_44 rfl 4 rfl ?_
    refine r_callV (As := [.int (nI r), .int (nI q)]) C (c_X1_sizeAt (la := la) (N := N) (cfl := cfl) (sb := (sid kd)) (f2 := f2) (r := r) (j := q) hc7 hc9 (hLL) (by first | assumption | omega) (by first | assumption | omega) (hq)) wM_X6_114 wI_X1_sizeAt wN_X1 wC_X1_sizeAt wV_X1_sizeAt hd_X1_sizeAt ⟨Nat.le_of_ble_eq_true rfl, Nat.le_of_ble_eq_true rfl⟩ rfl hc7 rfl rfl (Nat.le_of_ble_eq_true rfl) dX6_cakeAt_45 ⟨(Nat.le_of_ble_eq_true rfl), (Nat.le_of_ble_eq_true rfl)⟩ (fun rv n2 σ2 hp => ?_)
    obtain ⟨rfl, rfl, rfl⟩ := hp
    refine V.eq (σ2 := σ) (n2 := n) (st2 := [.int (nI (sz N (oR (sid kd) N r) q))]) rfl rfl rfl rfl ?_
    refine r_istore (lv2 := [(5, .int (nI (sz N (oR (sid kd) N r) q))), (4, .int (nI r)), (3, .ref sa), (0, .ref b0), (1, .int (nI k)), (2, .int (nI q))]) C dX6_cakeAt_48 (by decide) rfl ?_
    refine r_aload_n C dX6_cakeAt_50 rfl 2 rfl ?_
    refine r_get (Cn := RX2) (T := TX2) (N := 6) (v := .ref la) C inlX2 hc5 rfl 3 (by decide) wF_X6_62 (fun _ h => h) rfl dX6_cakeAt_51 ?_
    refine r_iload C dX6_cakeAt_54 1 rfl ?_
    refine r_iload_n C dX6_cakeAt_56 rfl 5 rfl ?_
    refine r_callV (As := [.int (nI r), .int (nI q)]) C (c_X1_isBurnt (la := la) (N := N) (cfl := cfl) (sb := (sid kd)) (r := r) (j := q) hc7 (hLL) (by first | assumption | omega) (hq)) wM_X6_117 wI_X1_isBurnt wN_X1 wC_X1_isBurnt wV_X1_isBurnt hd_X1_isBurnt ⟨Nat.le_of_ble_eq_true rfl, Nat.le_of_ble_eq_true rfl⟩ rfl hc7 rfl rfl (Nat.le_of_ble_eq_true rfl) dX6_cakeAt_57 ⟨(Nat.le_of_ble_eq_true rfl), (Nat.le_of_ble_eq_true rfl)⟩ (fun rv n2 σ2 hp => ?_)
    obtain ⟨rfl, rfl, rfl⟩ := hp
    refine V.eq (σ2 := σ) (n2 := n) (st2 := [.int (bI (decide (bt (sR (sid kd) N r) q ≠ 0)))]) rfl rfl rfl rfl ?_
    refine r_if_eqB (tgt := 71) C dX6_cakeAt_60 (by decide) (fun c60 => ?_) (fun c60 => ?_)
    · refine r_iload C dX6_cakeAt_71 0 rfl ?_
      exact r_iret C hr hlocks (Nat.le_of_ble_eq_true rfl) (Nat.le_of_ble_eq_true rfl) dX6_cakeAt_73 (hpo _ _ _ ⟨by first | (rw [show bt (sR (sid kd) N r) q = 1 by simp at c60; omega]; done) | (rw [show bt (sR (sid kd) N r) q = 0 by simpa using c60, Nat.mul_zero, show ∀ z : Int32, z - nI 0 = z from fun z => Int32.sub_zero z]), rfl, rfl⟩)
    · refine r_iload C dX6_cakeAt_63 0 rfl ?_
      refine r_bipush (v := nI 10) C dX6_cakeAt_65 (by decide) ?_
      refine r_isub C dX6_cakeAt_67 ?_
      refine r_goto (tgt := 73) C dX6_cakeAt_68 (by decide) ?_
      exact r_iret C hr hlocks (Nat.le_of_ble_eq_true rfl) (Nat.le_of_ble_eq_true rfl) dX6_cakeAt_73 (hpo _ _ _ ⟨by first | (rw [show bt (sR (sid kd) N r) q = 1 by simp at c60; omega]; done) | (rw [show bt (sR (sid kd) N r) q = 0 by simpa using c60, Nat.mul_zero, show ∀ z : Int32, z - nI 0 = z from fun z => Int32.sub_zero z]), rfl, rfl⟩)
  · exact absurd c22 (by omega)

abbrev rm_X6_gapsBehind_y : Room := { frames := 2, cells := 0, slots := 0, locals := 43 }
set_option maxRecDepth 100000 in
set_option maxHeartbeats 4000000 in
theorem c_X6_gapsBehind_y {l : Launch} {G : gG} {n : Nat} {σ : gS} {b0 st : Nat} {K : KT} {k sa la : Nat} {kd N sr : Nat} {sv : Value} {cfl : Nat} {f1 : Nat → Int32} {f2 : Nat → Int32} {f3 : Nat → Int32} {f4 : Nat → Int32} {f5 : Nat → Int32} {r w : Nat} (hc0 : σ b0 = some (.inr (6, [.ref (b0 + 1), .ref (b0 + 5), .ref (b0 + 7), .ref (b0 + 13), .ref (b0 + 19), .int (nI st)]))) (hc1 : σ (b0 + 7) = some (.inr (0, [.int (nI (kN K)), .int (nI (kH K)), .ref (b0 + 8), .ref (b0 + 9), .ref (b0 + 10), .ref (b0 + 11), .ref (b0 + 12)]))) (hc2 : σ (b0 + 10) = some (aR 4 G 5 (kS K))) (hc3 : σ (b0 + 11) = some (aI G 5 (kR K))) (hc4 : σ (b0 + 12) = some (aI G 5 (kM K))) (hc5 : σ sa = some (.inr (2, [.int (nI kd), .int (nI sr), .int (nI N), .ref la, .ref (sa + 1), sv]))) (hc6 : σ (sa + 1) = some (aI G (rR (sid kd) N) f5)) (hc7 : σ la = some (.inr (1, [.int (nI N), .int (nI (rR (sid kd) N)), .int (nI (sbN (sid kd) N)), .int (nI (sm (sid kd) N - 1)), .ref (la + 1), .ref (la + 2), .ref (la + 3), .ref (la + 4)]))) (hc8 : σ (la + 1) = some (aI G (fac N) f1)) (hc9 : σ (la + 2) = some (aI G (fac N * N) f2)) (hc10 : σ (la + 3) = some (aI G (rR (sid kd) N * N) f3)) (hc11 : σ (la + 4) = some (aI G (rR (sid kd) N) f4)) (hk : k < kN K) (hk5 : kN K ≤ 5) (hs : kS K k = some sa) (hso : shOK kd N sr) (h1 : ∀ o, o < fac N → f1 o = nI (cd N o)) (h2 : ∀ o, o < fac N → ∀ j, j < N → f2 (o * N + j) = nI (sz N o j)) (h3 : ∀ r, r < rR (sid kd) N → ∀ k, 1 ≤ k → k ≤ N → f3 (r * N + k - 1) = nI (nx (sid kd) N r k)) (h4 : ∀ r, r < rR (sid kd) N → f4 r = nI (jw (sid kd) N r)) (h5 : ∀ r, r < rR (sid kd) N → f5 r = nI (psR kd sr N r)) (hr9 : kR K k = nI r) (hrk : r < rR (sid kd) N) (hw1 : 1 ≤ w ∧ w ≤ N) : GM l G yX6_gapsBehind cX6_gapsBehind 4 (some .int) rm_X6_gapsBehind_y n σ [.ref b0, .int (nI k), .int (nI w)] (fun rv n2 σ2 => some (.int (nI (gp (sid kd) N (tnO N (oR (sid kd) N r) w) (tnS (sid kd) (sR (sid kd) N r) w)))) = rv ∧ n = n2 ∧ σ = σ2) := by
  refine GM.intro (by decide +kernel) (Nat.le_of_ble_eq_true rfl) (fun p e s m args below meth c C hr hlocks hname po hpo => ?_)
  have C : Cx p s m args c cX6_gapsBehind 4 RX6 G := C
  have hLL := hso.L
  have hb9 := hLL.b
  have hN6 := hso.N
  refine r_aload_n C dX6_gapsBehind_0 rfl 0 rfl ?_
  refine r_get (Cn := RX6) (T := TX6) (N := 6) (v := .ref (b0 + 7)) C inlX6 hc0 rfl 2 (by decide) wF_X6_26 (fun _ h => h) rfl dX6_gapsBehind_1 ?_
  refine r_iload_n C dX6_gapsBehind_4 rfl 1 rfl ?_
  refine r_callV (As := [.int (nI k)]) C (c_X0_shapeOf_y (k0 := b0 + 7) (K := K) (k := k) (sa := sa) hc1 hc2 (by first | assumption | omega) (by first | assumption | omega) (by first | assumption | omega)) wM_X6_58 wI_X0_shapeOf wN_X0 wC_X0_shapeOf wV_X0_shapeOf hd_X0_shapeOf ⟨Nat.le_of_ble_eq_true rfl, Nat.le_of_ble_eq_true rfl⟩ rfl hc1 rfl rfl (Nat.le_of_ble_eq_true rfl) dX6_gapsBehind_5 ⟨(Nat.le_of_ble_eq_true rfl), (Nat.le_of_ble_eq_true rfl)⟩ (fun rv n2 σ2 hp => ?_)
  obtain ⟨rfl, rfl, rfl⟩ := hp
  refine V.eq (σ2 := σ) (n2 := n) (st2 := [.ref sa]) rfl rfl rfl rfl ?_
  refine r_astore_n (lv2 := [(3, .ref sa), (0, .ref b0), (1, .int (nI k)), (2, .int (nI w))]) C dX6_gapsBehind_8 rfl (by decide) rfl ?_
  refine r_aload_n C dX6_gapsBehind_9 rfl 0 rfl ?_
  refine r_ifnull C dX6_gapsBehind_10 ?_
  refine r_iload_n C dX6_gapsBehind_13 rfl 3 rfl ?_
  refine r_iconst (v := nI 1) C dX6_gapsBehind_14 (by decide) ?_
  refine r_icmp_ltN (tgt := 26) C dX6_gapsBehind_15 (by decide) (by omega) (by decide) (fun c15 => ?_) (fun c15 => ?_)
  · exact absurd c15 (by omega)
  · refine r_iload_n C dX6_gapsBehind_18 rfl 3 rfl ?_
    refine r_aload_n C dX6_gapsBehind_19 rfl 0 rfl ?_
    refine r_get (Cn := RX2) (T := TX2) (N := 6) (v := .int (nI N)) C inlX2 hc5 rfl 2 (by decide) wF_X6_82 (fun _ h => h) rfl dX6_gapsBehind_20 ?_
    refine r_icmp_leN (tgt := 29) C dX6_gapsBehind_23 (by decide) (by omega) (by omega) (fun c23 => ?_) (fun c23 => ?_)
    · refine r_aload_n C dX6_gapsBehind_29 rfl 0 rfl ?_
      refine r_get (Cn := RX2) (T := TX2) (N := 6) (v := .ref la) C inlX2 hc5 rfl 3 (by decide) wF_X6_62 (fun _ h => h) rfl dX6_gapsBehind_30 ?_
      refine r_aload_n C dX6_gapsBehind_33 rfl 0 rfl ?_
      refine r_get (Cn := RX2) (T := TX2) (N := 6) (v := .ref la) C inlX2 hc5 rfl 3 (by decide) wF_X6_62 (fun _ h => h) rfl dX6_gapsBehind_34 ?_
      refine r_aload_n C dX6_gapsBehind_37 rfl 1 rfl ?_
      refine r_get (Cn := RX6) (T := TX6) (N := 6) (v := .ref (b0 + 7)) C inlX6 hc0 rfl 2 (by decide) wF_X6_26 (fun _ h => h) rfl dX6_gapsBehind_38 ?_
      refine r_iload_n C dX6_gapsBehind_41 rfl 2 rfl ?_
      refine r_callV (As := [.int (nI k)]) C (c_X0_rankOf (k0 := b0 + 7) (K := K) (k := k) hc1 hc3 (by omega)) wM_X6_90 wI_X0_rankOf wN_X0 wC_X0_rankOf wV_X0_rankOf hd_X0_rankOf ⟨Nat.le_of_ble_eq_true rfl, Nat.le_of_ble_eq_true rfl⟩ rfl hc1 rfl rfl (Nat.le_of_ble_eq_true rfl) dX6_gapsBehind_42 ⟨(Nat.le_of_ble_eq_true rfl), (Nat.le_of_ble_eq_true rfl)⟩ (fun rv n2 σ2 hp => ?_)
      obtain ⟨rfl, rfl, rfl⟩ := hp
      refine V.eq (σ2 := σ) (n2 := n) (st2 := [.int (kR K k), .ref la, .ref la]) rfl rfl rfl rfl ?_
      refine V.top (y := nI r) (hr9) ?_
      refine r_iload_n C dX6_gapsBehind_45 rfl 3 rfl ?_
      refine r_callV (As := [.int (nI r), .int (nI w)]) C (c_X1_behind (la := la) (N := N) (cfl := cfl) (sb := (sid kd)) (f3 := f3) (r := r) (k := w) hc7 hc10 (hLL) (by first | assumption | omega) (by first | assumption | omega) (hw1.1) (hw1.2)) wM_X6_120 wI_X1_behind wN_X1 wC_X1_behind wV_X1_behind hd_X1_behind ⟨Nat.le_of_ble_eq_true rfl, Nat.le_of_ble_eq_true rfl⟩ rfl hc7 rfl rfl (Nat.le_of_ble_eq_true rfl) dX6_gapsBehind_46 ⟨(Nat.le_of_ble_eq_true rfl), (Nat.le_of_ble_eq_true rfl)⟩ (fun rv n2 σ2 hp => ?_)
      obtain ⟨rfl, rfl, rfl⟩ := hp
      refine V.eq (σ2 := σ) (n2 := n) (st2 := [.int (nI (nx (sid kd) N r w)), .ref la]) rfl rfl rfl rfl ?_
      refine r_callV (As := [.int (nI (nx (sid kd) N r w))]) C (c_X1_gaps (la := la) (N := N) (cfl := cfl) (sb := (sid kd)) (f4 := f4) (r := nx (sid kd) N r w) hc7 hc11 (hLL) (by first | assumption | omega) (nx_lt hN6 hrk hw1.2)) wM_X6_78 wI_X1_gaps wN_X1 wC_X1_gaps wV_X1_gaps hd_X1_gaps ⟨Nat.le_of_ble_eq_true rfl, Nat.le_of_ble_eq_true rfl⟩ rfl hc7 rfl rfl (Nat.le_of_ble_eq_true rfl) dX6_gapsBehind_49 ⟨(Nat.le_of_ble_eq_true rfl), (Nat.le_of_ble_eq_true rfl)⟩ (fun rv n2 σ2 hp => ?_)
      obtain ⟨rfl, rfl, rfl⟩ := hp
      refine V.eq (σ2 := σ) (n2 := n) (st2 := [.int (nI (gp (sid kd) N (oR (sid kd) N (nx (sid kd) N r w)) (sR (sid kd) N (nx (sid kd) N r w))))]) rfl rfl rfl rfl ?_
      exact r_iret C hr hlocks (Nat.le_of_ble_eq_true rfl) (Nat.le_of_ble_eq_true rfl) dX6_gapsBehind_52 (hpo _ _ _ ⟨by rw [oR_nx hN6 hw1.2, sR_nx hN6 hw1.2], rfl, rfl⟩)
    · exact absurd c23 (by omega)

abbrev rm_X6_ranked_f : Room := { frames := 1, cells := 0, slots := 0, locals := 21 }
set_option maxRecDepth 100000 in
set_option maxHeartbeats 4000000 in
theorem c_X6_ranked_f {l : Launch} {G : gG} {n : Nat} {σ : gS} {b0 st : Nat} {K : KT} {k sa la : Nat} {kd N sr : Nat} {sv : Value} {cfl : Nat} {f1 : Nat → Int32} {f2 : Nat → Int32} {f3 : Nat → Int32} {f4 : Nat → Int32} {f5 : Nat → Int32} {r w : Nat} (hc0 : σ b0 = some (.inr (6, [.ref (b0 + 1), .ref (b0 + 5), .ref (b0 + 7), .ref (b0 + 13), .ref (b0 + 19), .int (nI st)]))) (hc1 : σ (b0 + 7) = some (.inr (0, [.int (nI (kN K)), .int (nI (kH K)), .ref (b0 + 8), .ref (b0 + 9), .ref (b0 + 10), .ref (b0 + 11), .ref (b0 + 12)]))) (hc2 : σ (b0 + 10) = some (aR 4 G 5 (kS K))) (hc3 : σ (b0 + 11) = some (aI G 5 (kR K))) (hc4 : σ (b0 + 12) = some (aI G 5 (kM K))) (hc5 : σ sa = some (.inr (2, [.int (nI kd), .int (nI sr), .int (nI N), .ref la, .ref (sa + 1), sv]))) (hc6 : σ (sa + 1) = some (aI G (rR (sid kd) N) f5)) (hc7 : σ la = some (.inr (1, [.int (nI N), .int (nI (rR (sid kd) N)), .int (nI (sbN (sid kd) N)), .int (nI (sm (sid kd) N - 1)), .ref (la + 1), .ref (la + 2), .ref (la + 3), .ref (la + 4)]))) (hc8 : σ (la + 1) = some (aI G (fac N) f1)) (hc9 : σ (la + 2) = some (aI G (fac N * N) f2)) (hc10 : σ (la + 3) = some (aI G (rR (sid kd) N * N) f3)) (hc11 : σ (la + 4) = some (aI G (rR (sid kd) N) f4)) (hk : k < kN K) (hk5 : kN K ≤ 5) (hs : kS K k = some sa) (hso : shOK kd N sr) (h1 : ∀ o, o < fac N → f1 o = nI (cd N o)) (h2 : ∀ o, o < fac N → ∀ j, j < N → f2 (o * N + j) = nI (sz N o j)) (h3 : ∀ r, r < rR (sid kd) N → ∀ k, 1 ≤ k → k ≤ N → f3 (r * N + k - 1) = nI (nx (sid kd) N r k)) (h4 : ∀ r, r < rR (sid kd) N → f4 r = nI (jw (sid kd) N r)) (h5 : ∀ r, r < rR (sid kd) N → f5 r = nI (psR kd sr N r)) (hr31 : r < 2 ^ 31) (hrr : rR (sid kd) N ≤ r) (hw : w ≤ 1) : GM l G yX6_ranked cX6_ranked 5 (some .int) rm_X6_ranked_f n σ [.ref b0, .int (nI k), .int (nI r), .int (nI w)] (fun rv n2 σ2 => some (.int (-1000004)) = rv ∧ n = n2 ∧ σ = σ2) := by
  refine GM.intro (by decide +kernel) (Nat.le_of_ble_eq_true rfl) (fun p e s m args below meth c C hr hlocks hname po hpo => ?_)
  have C : Cx p s m args c cX6_ranked 5 RX6 G := C
  have hLL := hso.L
  have hb9 := hLL.b
  refine r_aload_n C dX6_ranked_0 rfl 0 rfl ?_
  refine r_get (Cn := RX6) (T := TX6) (N := 6) (v := .ref (b0 + 7)) C inlX6 hc0 rfl 2 (by decide) wF_X6_26 (fun _ h => h) rfl dX6_ranked_1 ?_
  refine r_iload_n C dX6_ranked_4 rfl 1 rfl ?_
  refine r_callV (As := [.int (nI k)]) C (c_X0_shapeOf_y (k0 := b0 + 7) (K := K) (k := k) (sa := sa) hc1 hc2 (by first | assumption | omega) (by first | assumption | omega) (by first | assumption | omega)) wM_X6_58 wI_X0_shapeOf wN_X0 wC_X0_shapeOf wV_X0_shapeOf hd_X0_shapeOf ⟨Nat.le_of_ble_eq_true rfl, Nat.le_of_ble_eq_true rfl⟩ rfl hc1 rfl rfl (Nat.le_of_ble_eq_true rfl) dX6_ranked_5 ⟨(Nat.le_of_ble_eq_true rfl), (Nat.le_of_ble_eq_true rfl)⟩ (fun rv n2 σ2 hp => ?_)
  obtain ⟨rfl, rfl, rfl⟩ := hp
  refine V.eq (σ2 := σ) (n2 := n) (st2 := [.ref sa]) rfl rfl rfl rfl ?_
  refine r_astore (lv2 := [(4, .ref sa), (0, .ref b0), (1, .int (nI k)), (2, .int (nI r)), (3, .int (nI w))]) C dX6_ranked_8 (by decide) rfl ?_
  refine r_aload C dX6_ranked_10 0 rfl ?_
  refine r_ifnull C dX6_ranked_12 ?_
  refine r_iload_n C dX6_ranked_15 rfl 3 rfl ?_
  refine r_if_ltN C dX6_ranked_16 (tgt := 28) (by decide) (by omega) ?_
  refine r_iload_n C dX6_ranked_19 rfl 4 rfl ?_
  refine r_if_ltN C dX6_ranked_20 (tgt := 28) (by decide) (by omega) ?_
  refine r_iload_n C dX6_ranked_23 rfl 4 rfl ?_
  refine r_iconst (v := nI 1) C dX6_ranked_24 (by decide) ?_
  refine r_icmp_leN (tgt := 31) C dX6_ranked_25 (by decide) (by omega) (by decide) (fun c25 => ?_) (fun c25 => ?_)
  · refine r_iload_n C dX6_ranked_31 rfl 3 rfl ?_
    refine r_aload C dX6_ranked_32 0 rfl ?_
    refine r_get (Cn := RX2) (T := TX2) (N := 6) (v := .ref la) C inlX2 hc5 rfl 3 (by decide) wF_X6_62 (fun _ h => h) rfl dX6_ranked_34 ?_
    refine r_get (Cn := RX1) (T := TX1) (N := 8) (v := .int (nI (rR (sid kd) N))) C inlX1 hc7 rfl 1 (by decide) wF_X6_151 (fun _ h => h) rfl dX6_ranked_37 ?_
    refine r_icmp_ltN (tgt := 46) C dX6_ranked_40 (by decide) (by omega) (by omega) (fun c40 => ?_) (fun c40 => ?_)
    · exact absurd c40 (by omega)
    · refine r_ldc C wQ_X6_132 dX6_ranked_43 ?_
      exact r_iret C hr hlocks (Nat.le_of_ble_eq_true rfl) (Nat.le_of_ble_eq_true rfl) dX6_ranked_45 (hpo _ _ _ ⟨rfl, rfl, rfl⟩)
  · exact absurd c25 (by omega)

abbrev rm_X6_ranked_y : Room := { frames := 2, cells := 0, slots := 0, locals := 42 }
set_option maxRecDepth 100000 in
set_option maxHeartbeats 4000000 in
theorem c_X6_ranked_y {l : Launch} {G : gG} {n : Nat} {σ : gS} {b0 st : Nat} {K : KT} {k sa la : Nat} {kd N sr : Nat} {sv : Value} {cfl : Nat} {f1 : Nat → Int32} {f2 : Nat → Int32} {f3 : Nat → Int32} {f4 : Nat → Int32} {f5 : Nat → Int32} {r w : Nat} (hc0 : σ b0 = some (.inr (6, [.ref (b0 + 1), .ref (b0 + 5), .ref (b0 + 7), .ref (b0 + 13), .ref (b0 + 19), .int (nI st)]))) (hc1 : σ (b0 + 7) = some (.inr (0, [.int (nI (kN K)), .int (nI (kH K)), .ref (b0 + 8), .ref (b0 + 9), .ref (b0 + 10), .ref (b0 + 11), .ref (b0 + 12)]))) (hc2 : σ (b0 + 10) = some (aR 4 G 5 (kS K))) (hc3 : σ (b0 + 11) = some (aI G 5 (kR K))) (hc4 : σ (b0 + 12) = some (aI G 5 (kM K))) (hc5 : σ sa = some (.inr (2, [.int (nI kd), .int (nI sr), .int (nI N), .ref la, .ref (sa + 1), sv]))) (hc6 : σ (sa + 1) = some (aI G (rR (sid kd) N) f5)) (hc7 : σ la = some (.inr (1, [.int (nI N), .int (nI (rR (sid kd) N)), .int (nI (sbN (sid kd) N)), .int (nI (sm (sid kd) N - 1)), .ref (la + 1), .ref (la + 2), .ref (la + 3), .ref (la + 4)]))) (hc8 : σ (la + 1) = some (aI G (fac N) f1)) (hc9 : σ (la + 2) = some (aI G (fac N * N) f2)) (hc10 : σ (la + 3) = some (aI G (rR (sid kd) N * N) f3)) (hc11 : σ (la + 4) = some (aI G (rR (sid kd) N) f4)) (hk : k < kN K) (hk5 : kN K ≤ 5) (hs : kS K k = some sa) (hso : shOK kd N sr) (h1 : ∀ o, o < fac N → f1 o = nI (cd N o)) (h2 : ∀ o, o < fac N → ∀ j, j < N → f2 (o * N + j) = nI (sz N o j)) (h3 : ∀ r, r < rR (sid kd) N → ∀ k, 1 ≤ k → k ≤ N → f3 (r * N + k - 1) = nI (nx (sid kd) N r k)) (h4 : ∀ r, r < rR (sid kd) N → f4 r = nI (jw (sid kd) N r)) (h5 : ∀ r, r < rR (sid kd) N → f5 r = nI (psR kd sr N r)) (hrk : r < rR (sid kd) N) (hw : w ≤ 1) : GM l G yX6_ranked cX6_ranked 5 (some .int) rm_X6_ranked_y n σ [.ref b0, .int (nI k), .int (nI r), .int (nI w)] (fun rv n2 σ2 => some (.int (nI (if w = 0 then cd N (oR (sid kd) N r) else sR (sid kd) N r))) = rv ∧ n = n2 ∧ σ = σ2) := by
  refine GM.intro (by decide +kernel) (Nat.le_of_ble_eq_true rfl) (fun p e s m args below meth c C hr hlocks hname po hpo => ?_)
  have C : Cx p s m args c cX6_ranked 5 RX6 G := C
  have hLL := hso.L
  have hb9 := hLL.b
  refine r_aload_n C dX6_ranked_0 rfl 0 rfl ?_
  refine r_get (Cn := RX6) (T := TX6) (N := 6) (v := .ref (b0 + 7)) C inlX6 hc0 rfl 2 (by decide) wF_X6_26 (fun _ h => h) rfl dX6_ranked_1 ?_
  refine r_iload_n C dX6_ranked_4 rfl 1 rfl ?_
  refine r_callV (As := [.int (nI k)]) C (c_X0_shapeOf_y (k0 := b0 + 7) (K := K) (k := k) (sa := sa) hc1 hc2 (by first | assumption | omega) (by first | assumption | omega) (by first | assumption | omega)) wM_X6_58 wI_X0_shapeOf wN_X0 wC_X0_shapeOf wV_X0_shapeOf hd_X0_shapeOf ⟨Nat.le_of_ble_eq_true rfl, Nat.le_of_ble_eq_true rfl⟩ rfl hc1 rfl rfl (Nat.le_of_ble_eq_true rfl) dX6_ranked_5 ⟨(Nat.le_of_ble_eq_true rfl), (Nat.le_of_ble_eq_true rfl)⟩ (fun rv n2 σ2 hp => ?_)
  obtain ⟨rfl, rfl, rfl⟩ := hp
  refine V.eq (σ2 := σ) (n2 := n) (st2 := [.ref sa]) rfl rfl rfl rfl ?_
  refine r_astore (lv2 := [(4, .ref sa), (0, .ref b0), (1, .int (nI k)), (2, .int (nI r)), (3, .int (nI w))]) C dX6_ranked_8 (by decide) rfl ?_
  refine r_aload C dX6_ranked_10 0 rfl ?_
  refine r_ifnull C dX6_ranked_12 ?_
  refine r_iload_n C dX6_ranked_15 rfl 3 rfl ?_
  refine r_if_ltN C dX6_ranked_16 (tgt := 28) (by decide) (by omega) ?_
  refine r_iload_n C dX6_ranked_19 rfl 4 rfl ?_
  refine r_if_ltN C dX6_ranked_20 (tgt := 28) (by decide) (by omega) ?_
  refine r_iload_n C dX6_ranked_23 rfl 4 rfl ?_
  refine r_iconst (v := nI 1) C dX6_ranked_24 (by decide) ?_
  refine r_icmp_leN (tgt := 31) C dX6_ranked_25 (by decide) (by omega) (by decide) (fun c25 => ?_) (fun c25 => ?_)
  · refine r_iload_n C dX6_ranked_31 rfl 3 rfl ?_
    refine r_aload C dX6_ranked_32 0 rfl ?_
    refine r_get (Cn := RX2) (T := TX2) (N := 6) (v := .ref la) C inlX2 hc5 rfl 3 (by decide) wF_X6_62 (fun _ h => h) rfl dX6_ranked_34 ?_
    refine r_get (Cn := RX1) (T := TX1) (N := 8) (v := .int (nI (rR (sid kd) N))) C inlX1 hc7 rfl 1 (by decide) wF_X6_151 (fun _ h => h) rfl dX6_ranked_37 ?_
    refine r_icmp_ltN (tgt := 46) C dX6_ranked_40 (by decide) (by omega) (by omega) (fun c40 => ?_) (fun c40 => ?_)
    · refine r_iload_n C dX6_ranked_46 rfl 4 rfl ?_
      refine r_if_neN (tgt := 62) C dX6_ranked_47 (by decide) (by omega) (fun c47 => ?_) (fun c47 => ?_)
      · refine r_aload C dX6_ranked_62 0 rfl ?_
        refine r_get (Cn := RX2) (T := TX2) (N := 6) (v := .ref la) C inlX2 hc5 rfl 3 (by decide) wF_X6_62 (fun _ h => h) rfl dX6_ranked_64 ?_
        refine r_iload_n C dX6_ranked_67 rfl 3 rfl ?_
        refine r_callV (As := [.int (nI r)]) C (c_X1_sidesOf (la := la) (N := N) (cfl := cfl) (sb := (sid kd)) (r := r) hc7 (hLL) (by first | assumption | omega)) wM_X6_105 wI_X1_sidesOf wN_X1 wC_X1_sidesOf wV_X1_sidesOf hd_X1_sidesOf ⟨Nat.le_of_ble_eq_true rfl, Nat.le_of_ble_eq_true rfl⟩ rfl hc7 rfl rfl (Nat.le_of_ble_eq_true rfl) dX6_ranked_68 ⟨(Nat.le_of_ble_eq_true rfl), (Nat.le_of_ble_eq_true rfl)⟩ (fun rv n2 σ2 hp => ?_)
        obtain ⟨rfl, rfl, rfl⟩ := hp
        refine V.eq (σ2 := σ) (n2 := n) (st2 := [.int (nI (sR (sid kd) N r))]) rfl rfl rfl rfl ?_
        exact r_iret C hr hlocks (Nat.le_of_ble_eq_true rfl) (Nat.le_of_ble_eq_true rfl) dX6_ranked_71 (hpo _ _ _ ⟨by first | (rw [if_pos c47]; done) | (rw [if_neg c47]; done), rfl, rfl⟩)
      · refine r_aload C dX6_ranked_50 0 rfl ?_
        refine r_get (Cn := RX2) (T := TX2) (N := 6) (v := .ref la) C inlX2 hc5 rfl 3 (by decide) wF_X6_62 (fun _ h => h) rfl dX6_ranked_52 ?_
        refine r_iload_n C dX6_ranked_55 rfl 3 rfl ?_
        refine r_callV (As := [.int (nI r)]) C (c_X1_codeOf (la := la) (N := N) (cfl := cfl) (sb := (sid kd)) (f1 := f1) (r := r) hc7 hc8 (hLL) (by first | assumption | omega) (by first | assumption | omega)) wM_X6_102 wI_X1_codeOf wN_X1 wC_X1_codeOf wV_X1_codeOf hd_X1_codeOf ⟨Nat.le_of_ble_eq_true rfl, Nat.le_of_ble_eq_true rfl⟩ rfl hc7 rfl rfl (Nat.le_of_ble_eq_true rfl) dX6_ranked_56 ⟨(Nat.le_of_ble_eq_true rfl), (Nat.le_of_ble_eq_true rfl)⟩ (fun rv n2 σ2 hp => ?_)
        obtain ⟨rfl, rfl, rfl⟩ := hp
        refine V.eq (σ2 := σ) (n2 := n) (st2 := [.int (nI (cd N (oR (sid kd) N r)))]) rfl rfl rfl rfl ?_
        refine r_goto (tgt := 71) C dX6_ranked_59 (by decide) ?_
        exact r_iret C hr hlocks (Nat.le_of_ble_eq_true rfl) (Nat.le_of_ble_eq_true rfl) dX6_ranked_71 (hpo _ _ _ ⟨by first | (rw [if_pos c47]; done) | (rw [if_neg c47]; done), rfl, rfl⟩)
    · exact absurd c40 (by omega)
  · exact absurd c25 (by omega)

abbrev rm_X6_count_x : Room := { frames := 0, cells := 0, slots := 0, locals := 0 }
set_option maxRecDepth 100000 in
set_option maxHeartbeats 4000000 in
theorem c_X6_count_x {l : Launch} {G : gG} {n : Nat} {σ : gS} {b0 : Nat} {x : Int32}  (hbad : x.toInt < 0 ∨ 12 < x.toInt) : GM l G yX6_count cX6_count 2 (some .int) rm_X6_count_x n σ [.ref b0, .int x] (fun rv n2 σ2 => some (.int (-1000001)) = rv ∧ n = n2 ∧ σ = σ2) := by
  refine GM.intro (by decide +kernel) (Nat.le_of_ble_eq_true rfl) (fun p e s m args below meth c C hr hlocks hname po hpo => ?_)
  have C : Cx p s m args c cX6_count 2 RX6 G := C
  refine r_iload_n C dX6_count_0 rfl 1 rfl ?_
  by_cases hsw1 : (x).toInt < 0 ∨ 12 < (x).toInt
  · refine r_tableOut (tgt := 150) C dX6_count_1 hsw1 (by decide) ?_
    refine r_ldc C wQ_X6_45 dX6_count_150 ?_
    exact r_iret C hr hlocks (Nat.le_of_ble_eq_true rfl) (Nat.le_of_ble_eq_true rfl) dX6_count_152 (hpo _ _ _ ⟨rfl, rfl, rfl⟩)
  · obtain ⟨hlo, hhi⟩ := not_or.mp hsw1
    rcases (show (x).toInt = 0 ∨ (x).toInt = 1 ∨ (x).toInt = 2 ∨ (x).toInt = 3 ∨ (x).toInt = 4 ∨ (x).toInt = 5 ∨ (x).toInt = 6 ∨ (x).toInt = 7 ∨ (x).toInt = 8 ∨ (x).toInt = 9 ∨ (x).toInt = 10 ∨ (x).toInt = 11 ∨ (x).toInt = 12 by omega) with hz | hz | hz | hz | hz | hz | hz | hz | hz | hz | hz | hz | hz
    · exact absurd hz (by omega)
    · exact absurd hz (by omega)
    · exact absurd hz (by omega)
    · exact absurd hz (by omega)
    · exact absurd hz (by omega)
    · exact absurd hz (by omega)
    · exact absurd hz (by omega)
    · exact absurd hz (by omega)
    · exact absurd hz (by omega)
    · exact absurd hz (by omega)
    · exact absurd hz (by omega)
    · exact absurd hz (by omega)
    · exact absurd hz (by omega)

abbrev rm_X6_count_y : Room := { frames := 3, cells := 0, slots := 0, locals := 65 }
set_option maxRecDepth 100000 in
set_option maxHeartbeats 4000000 in
theorem c_X6_count_y {l : Launch} {G : gG} {n : Nat} {σ : gS} {b0 st : Nat} {K : KT} {a : AK} {w L B : Nat} {rs fpl tn op dg : Int32} (hc0 : σ b0 = some (.inr (6, [.ref (b0 + 1), .ref (b0 + 5), .ref (b0 + 7), .ref (b0 + 13), .ref (b0 + 19), .int (nI st)]))) (hc1 : σ (b0 + 7) = some (.inr (0, [.int (nI (kN K)), .int (nI (kH K)), .ref (b0 + 8), .ref (b0 + 9), .ref (b0 + 10), .ref (b0 + 11), .ref (b0 + 12)]))) (hc2 : σ (b0 + 8) = some (aI G 3 (kT K))) (hc3 : σ (b0 + 9) = some (aI G 3 (kW K))) (hc4 : σ (b0 + 10) = some (aR 4 G 5 (kS K))) (hc5 : σ (b0 + 11) = some (aI G 5 (kR K))) (hc6 : σ (b0 + 12) = some (aI G 5 (kM K))) (hc7 : σ (b0 + 5) = some (.inr (5, [.int (nI L), .int rs, .int fpl, .int tn, .ref (b0 + 6), .int op, .int dg]))) (hKA : KA K a) (hA : AOK a) (hSh : ∀ k, k < aN a → ∃ sa, kS K k = some sa ∧ ShpAt G B σ sa (aKd a k) (aCk a k) (aSr a k)) (hw : w ≤ 12) (hst : st ≤ 4) (hL5 : L ≤ 50) : GM l G yX6_count cX6_count 2 (some .int) rm_X6_count_y n σ [.ref b0, .int (nI w)] (fun rv n2 σ2 => some (.int (cntA a st L w)) = rv ∧ n = n2 ∧ σ = σ2) := by
  refine GM.intro (by decide +kernel) (Nat.le_of_ble_eq_true rfl) (fun p e s m args below meth c C hr hlocks hname po hpo => ?_)
  have C : Cx p s m args c cX6_count 2 RX6 G := C
  have hg1 := hKA.1
  have hg2 := hKA.2.1
  refine r_iload_n C dX6_count_0 rfl 1 rfl ?_
  by_cases hsw1 : (nI w).toInt < 0 ∨ 12 < (nI w).toInt
  · exact absurd hsw1 (by rw [nI_toInt (by omega)]; omega)
  · obtain ⟨hlo, hhi⟩ := not_or.mp hsw1
    rcases (show (nI w).toInt = 0 ∨ (nI w).toInt = 1 ∨ (nI w).toInt = 2 ∨ (nI w).toInt = 3 ∨ (nI w).toInt = 4 ∨ (nI w).toInt = 5 ∨ (nI w).toInt = 6 ∨ (nI w).toInt = 7 ∨ (nI w).toInt = 8 ∨ (nI w).toInt = 9 ∨ (nI w).toInt = 10 ∨ (nI w).toInt = 11 ∨ (nI w).toInt = 12 by omega) with hz | hz | hz | hz | hz | hz | hz | hz | hz | hz | hz | hz | hz
    · have hwj : w = 0 := (by rw [nI_toInt (by omega)] at hz; omega)
      refine r_tableIn (tgt := 68) C dX6_count_1 hlo hhi (by rw [hz]; rfl) (by decide) ?_
      refine r_aload_n C dX6_count_68 rfl 0 rfl ?_
      refine r_get (Cn := RX6) (T := TX6) (N := 6) (v := .ref (b0 + 7)) C inlX6 hc0 rfl 2 (by decide) wF_X6_26 (fun _ h => h) rfl dX6_count_69 ?_
      refine r_get (Cn := RX0) (T := TX0) (N := 7) (v := .int (nI (kN K))) C inlX0 hc1 rfl 0 (by decide) wF_X6_157 (fun _ h => h) rfl dX6_count_72 ?_
      exact r_iret C hr hlocks (Nat.le_of_ble_eq_true rfl) (Nat.le_of_ble_eq_true rfl) dX6_count_75 (hpo _ _ _ ⟨by rw [hwj, hg1]; rfl, rfl, rfl⟩)
    · have hwj : w = 1 := (by rw [nI_toInt (by omega)] at hz; omega)
      refine r_tableIn (tgt := 76) C dX6_count_1 hlo hhi (by rw [hz]; rfl) (by decide) ?_
      refine r_aload_n C dX6_count_76 rfl 0 rfl ?_
      refine r_get (Cn := RX6) (T := TX6) (N := 6) (v := .ref (b0 + 7)) C inlX6 hc0 rfl 2 (by decide) wF_X6_26 (fun _ h => h) rfl dX6_count_77 ?_
      refine r_callV (As := []) C (c_X0_sortedStacks (k0 := b0 + 7) (K := K) (a := a) hc1 hc5 (by first | assumption | omega) (by first | assumption | omega)) wM_X6_160 wI_X0_sortedStacks wN_X0 wC_X0_sortedStacks wV_X0_sortedStacks hd_X0_sortedStacks ⟨Nat.le_of_ble_eq_true rfl, Nat.le_of_ble_eq_true rfl⟩ rfl hc1 rfl rfl (Nat.le_of_ble_eq_true rfl) dX6_count_80 ⟨(Nat.le_of_ble_eq_true rfl), (Nat.le_of_ble_eq_true rfl)⟩ (fun rv n2 σ2 hp => ?_)
      obtain ⟨rfl, rfl, rfl⟩ := hp
      refine V.eq (σ2 := σ) (n2 := n) (st2 := [.int (nI (ofa a 1 (aN a)))]) rfl rfl rfl rfl ?_
      exact r_iret C hr hlocks (Nat.le_of_ble_eq_true rfl) (Nat.le_of_ble_eq_true rfl) dX6_count_83 (hpo _ _ _ ⟨by rw [hwj]; rfl, rfl, rfl⟩)
    · have hwj : w = 2 := (by rw [nI_toInt (by omega)] at hz; omega)
      refine r_tableIn (tgt := 84) C dX6_count_1 hlo hhi (by rw [hz]; rfl) (by decide) ?_
      refine r_aload_n C dX6_count_84 rfl 0 rfl ?_
      refine r_get (Cn := RX6) (T := TX6) (N := 6) (v := .ref (b0 + 7)) C inlX6 hc0 rfl 2 (by decide) wF_X6_26 (fun _ h => h) rfl dX6_count_85 ?_
      refine r_callV (As := []) C (c_X0_allGaps (k0 := b0 + 7) (K := K) (a := a) (B := B) hc1 hc4 hc5 (by first | assumption | omega) (by first | assumption | omega) (by first | assumption | omega)) wM_X6_164 wI_X0_allGaps wN_X0 wC_X0_allGaps wV_X0_allGaps hd_X0_allGaps ⟨Nat.le_of_ble_eq_true rfl, Nat.le_of_ble_eq_true rfl⟩ rfl hc1 rfl rfl (Nat.le_of_ble_eq_true rfl) dX6_count_88 ⟨(Nat.le_of_ble_eq_true rfl), (Nat.le_of_ble_eq_true rfl)⟩ (fun rv n2 σ2 hp => ?_)
      obtain ⟨rfl, rfl, rfl⟩ := hp
      refine V.eq (σ2 := σ) (n2 := n) (st2 := [.int (nI (ofa a 2 (aN a)))]) rfl rfl rfl rfl ?_
      exact r_iret C hr hlocks (Nat.le_of_ble_eq_true rfl) (Nat.le_of_ble_eq_true rfl) dX6_count_91 (hpo _ _ _ ⟨by rw [hwj]; rfl, rfl, rfl⟩)
    · have hwj : w = 3 := (by rw [nI_toInt (by omega)] at hz; omega)
      refine r_tableIn (tgt := 92) C dX6_count_1 hlo hhi (by rw [hz]; rfl) (by decide) ?_
      refine r_aload_n C dX6_count_92 rfl 0 rfl ?_
      refine r_get (Cn := RX6) (T := TX6) (N := 6) (v := .ref (b0 + 7)) C inlX6 hc0 rfl 2 (by decide) wF_X6_26 (fun _ h => h) rfl dX6_count_93 ?_
      refine r_get (Cn := RX0) (T := TX0) (N := 7) (v := .int (nI (kH K))) C inlX0 hc1 rfl 1 (by decide) wF_X6_167 (fun _ h => h) rfl dX6_count_96 ?_
      exact r_iret C hr hlocks (Nat.le_of_ble_eq_true rfl) (Nat.le_of_ble_eq_true rfl) dX6_count_99 (hpo _ _ _ ⟨by rw [hwj, hg2]; rfl, rfl, rfl⟩)
    · have hwj : w = 4 := (by rw [nI_toInt (by omega)] at hz; omega)
      refine r_tableIn (tgt := 100) C dX6_count_1 hlo hhi (by rw [hz]; rfl) (by decide) ?_
      refine r_aload_n C dX6_count_100 rfl 0 rfl ?_
      refine r_get (Cn := RX6) (T := TX6) (N := 6) (v := .ref (b0 + 7)) C inlX6 hc0 rfl 2 (by decide) wF_X6_26 (fun _ h => h) rfl dX6_count_101 ?_
      refine r_get (Cn := RX0) (T := TX0) (N := 7) (v := .ref (b0 + 8)) C inlX0 hc1 rfl 2 (by decide) wF_X6_170 (fun _ h => h) rfl dX6_count_104 ?_
      refine r_iload_n C dX6_count_107 rfl 1 rfl ?_
      refine r_iconst (v := nI 4) C dX6_count_108 (by decide) ?_
      refine r_isubN C dX6_count_109 (by omega) ?_
      refine r_callS (As := [.ref (b0 + 8), .int (nI (w - 4))]) C (c_X6_at_y (a := b0 + 8) (len := 3) (f := kT K) (i := w - 4) hc2 (by omega) (by first | assumption | omega)) wM_X6_174 wS_X6_at wN_X6 wC_X6_at hd_X6_at ⟨Nat.le_of_ble_eq_true rfl, Nat.le_of_ble_eq_true rfl⟩ rfl rfl (Nat.le_of_ble_eq_true rfl) dX6_count_110 ⟨(Nat.le_of_ble_eq_true rfl), (Nat.le_of_ble_eq_true rfl)⟩ (fun rv n2 σ2 hp => ?_)
      obtain ⟨rfl, rfl, rfl⟩ := hp
      refine V.eq (σ2 := σ) (n2 := n) (st2 := [.int ((kT K) (w - 4))]) rfl rfl rfl rfl ?_
      exact r_iret C hr hlocks (Nat.le_of_ble_eq_true rfl) (Nat.le_of_ble_eq_true rfl) dX6_count_113 (hpo _ _ _ ⟨by rw [hwj]; exact congrArg (fun z => some (Value.int z)) (hKA.2.2.1 _ (by decide)).symm, rfl, rfl⟩)
    · have hwj : w = 5 := (by rw [nI_toInt (by omega)] at hz; omega)
      refine r_tableIn (tgt := 100) C dX6_count_1 hlo hhi (by rw [hz]; rfl) (by decide) ?_
      refine r_aload_n C dX6_count_100 rfl 0 rfl ?_
      refine r_get (Cn := RX6) (T := TX6) (N := 6) (v := .ref (b0 + 7)) C inlX6 hc0 rfl 2 (by decide) wF_X6_26 (fun _ h => h) rfl dX6_count_101 ?_
      refine r_get (Cn := RX0) (T := TX0) (N := 7) (v := .ref (b0 + 8)) C inlX0 hc1 rfl 2 (by decide) wF_X6_170 (fun _ h => h) rfl dX6_count_104 ?_
      refine r_iload_n C dX6_count_107 rfl 1 rfl ?_
      refine r_iconst (v := nI 4) C dX6_count_108 (by decide) ?_
      refine r_isubN C dX6_count_109 (by omega) ?_
      refine r_callS (As := [.ref (b0 + 8), .int (nI (w - 4))]) C (c_X6_at_y (a := b0 + 8) (len := 3) (f := kT K) (i := w - 4) hc2 (by omega) (by first | assumption | omega)) wM_X6_174 wS_X6_at wN_X6 wC_X6_at hd_X6_at ⟨Nat.le_of_ble_eq_true rfl, Nat.le_of_ble_eq_true rfl⟩ rfl rfl (Nat.le_of_ble_eq_true rfl) dX6_count_110 ⟨(Nat.le_of_ble_eq_true rfl), (Nat.le_of_ble_eq_true rfl)⟩ (fun rv n2 σ2 hp => ?_)
      obtain ⟨rfl, rfl, rfl⟩ := hp
      refine V.eq (σ2 := σ) (n2 := n) (st2 := [.int ((kT K) (w - 4))]) rfl rfl rfl rfl ?_
      exact r_iret C hr hlocks (Nat.le_of_ble_eq_true rfl) (Nat.le_of_ble_eq_true rfl) dX6_count_113 (hpo _ _ _ ⟨by rw [hwj]; exact congrArg (fun z => some (Value.int z)) (hKA.2.2.1 _ (by decide)).symm, rfl, rfl⟩)
    · have hwj : w = 6 := (by rw [nI_toInt (by omega)] at hz; omega)
      refine r_tableIn (tgt := 100) C dX6_count_1 hlo hhi (by rw [hz]; rfl) (by decide) ?_
      refine r_aload_n C dX6_count_100 rfl 0 rfl ?_
      refine r_get (Cn := RX6) (T := TX6) (N := 6) (v := .ref (b0 + 7)) C inlX6 hc0 rfl 2 (by decide) wF_X6_26 (fun _ h => h) rfl dX6_count_101 ?_
      refine r_get (Cn := RX0) (T := TX0) (N := 7) (v := .ref (b0 + 8)) C inlX0 hc1 rfl 2 (by decide) wF_X6_170 (fun _ h => h) rfl dX6_count_104 ?_
      refine r_iload_n C dX6_count_107 rfl 1 rfl ?_
      refine r_iconst (v := nI 4) C dX6_count_108 (by decide) ?_
      refine r_isubN C dX6_count_109 (by omega) ?_
      refine r_callS (As := [.ref (b0 + 8), .int (nI (w - 4))]) C (c_X6_at_y (a := b0 + 8) (len := 3) (f := kT K) (i := w - 4) hc2 (by omega) (by first | assumption | omega)) wM_X6_174 wS_X6_at wN_X6 wC_X6_at hd_X6_at ⟨Nat.le_of_ble_eq_true rfl, Nat.le_of_ble_eq_true rfl⟩ rfl rfl (Nat.le_of_ble_eq_true rfl) dX6_count_110 ⟨(Nat.le_of_ble_eq_true rfl), (Nat.le_of_ble_eq_true rfl)⟩ (fun rv n2 σ2 hp => ?_)
      obtain ⟨rfl, rfl, rfl⟩ := hp
      refine V.eq (σ2 := σ) (n2 := n) (st2 := [.int ((kT K) (w - 4))]) rfl rfl rfl rfl ?_
      exact r_iret C hr hlocks (Nat.le_of_ble_eq_true rfl) (Nat.le_of_ble_eq_true rfl) dX6_count_113 (hpo _ _ _ ⟨by rw [hwj]; exact congrArg (fun z => some (Value.int z)) (hKA.2.2.1 _ (by decide)).symm, rfl, rfl⟩)
    · have hwj : w = 7 := (by rw [nI_toInt (by omega)] at hz; omega)
      refine r_tableIn (tgt := 114) C dX6_count_1 hlo hhi (by rw [hz]; rfl) (by decide) ?_
      refine r_aload_n C dX6_count_114 rfl 0 rfl ?_
      refine r_get (Cn := RX6) (T := TX6) (N := 6) (v := .ref (b0 + 7)) C inlX6 hc0 rfl 2 (by decide) wF_X6_26 (fun _ h => h) rfl dX6_count_115 ?_
      refine r_get (Cn := RX0) (T := TX0) (N := 7) (v := .ref (b0 + 9)) C inlX0 hc1 rfl 3 (by decide) wF_X6_178 (fun _ h => h) rfl dX6_count_118 ?_
      refine r_iload_n C dX6_count_121 rfl 1 rfl ?_
      refine r_bipush (v := nI 7) C dX6_count_122 (by decide) ?_
      refine r_isubN C dX6_count_124 (by omega) ?_
      refine r_callS (As := [.ref (b0 + 9), .int (nI (w - 7))]) C (c_X6_at_y (a := b0 + 9) (len := 3) (f := kW K) (i := w - 7) hc3 (by omega) (by first | assumption | omega)) wM_X6_174 wS_X6_at wN_X6 wC_X6_at hd_X6_at ⟨Nat.le_of_ble_eq_true rfl, Nat.le_of_ble_eq_true rfl⟩ rfl rfl (Nat.le_of_ble_eq_true rfl) dX6_count_125 ⟨(Nat.le_of_ble_eq_true rfl), (Nat.le_of_ble_eq_true rfl)⟩ (fun rv n2 σ2 hp => ?_)
      obtain ⟨rfl, rfl, rfl⟩ := hp
      refine V.eq (σ2 := σ) (n2 := n) (st2 := [.int ((kW K) (w - 7))]) rfl rfl rfl rfl ?_
      exact r_iret C hr hlocks (Nat.le_of_ble_eq_true rfl) (Nat.le_of_ble_eq_true rfl) dX6_count_128 (hpo _ _ _ ⟨by rw [hwj]; exact congrArg (fun z => some (Value.int z)) (hKA.2.2.2.1 _ (by decide)).symm, rfl, rfl⟩)
    · have hwj : w = 8 := (by rw [nI_toInt (by omega)] at hz; omega)
      refine r_tableIn (tgt := 114) C dX6_count_1 hlo hhi (by rw [hz]; rfl) (by decide) ?_
      refine r_aload_n C dX6_count_114 rfl 0 rfl ?_
      refine r_get (Cn := RX6) (T := TX6) (N := 6) (v := .ref (b0 + 7)) C inlX6 hc0 rfl 2 (by decide) wF_X6_26 (fun _ h => h) rfl dX6_count_115 ?_
      refine r_get (Cn := RX0) (T := TX0) (N := 7) (v := .ref (b0 + 9)) C inlX0 hc1 rfl 3 (by decide) wF_X6_178 (fun _ h => h) rfl dX6_count_118 ?_
      refine r_iload_n C dX6_count_121 rfl 1 rfl ?_
      refine r_bipush (v := nI 7) C dX6_count_122 (by decide) ?_
      refine r_isubN C dX6_count_124 (by omega) ?_
      refine r_callS (As := [.ref (b0 + 9), .int (nI (w - 7))]) C (c_X6_at_y (a := b0 + 9) (len := 3) (f := kW K) (i := w - 7) hc3 (by omega) (by first | assumption | omega)) wM_X6_174 wS_X6_at wN_X6 wC_X6_at hd_X6_at ⟨Nat.le_of_ble_eq_true rfl, Nat.le_of_ble_eq_true rfl⟩ rfl rfl (Nat.le_of_ble_eq_true rfl) dX6_count_125 ⟨(Nat.le_of_ble_eq_true rfl), (Nat.le_of_ble_eq_true rfl)⟩ (fun rv n2 σ2 hp => ?_)
      obtain ⟨rfl, rfl, rfl⟩ := hp
      refine V.eq (σ2 := σ) (n2 := n) (st2 := [.int ((kW K) (w - 7))]) rfl rfl rfl rfl ?_
      exact r_iret C hr hlocks (Nat.le_of_ble_eq_true rfl) (Nat.le_of_ble_eq_true rfl) dX6_count_128 (hpo _ _ _ ⟨by rw [hwj]; exact congrArg (fun z => some (Value.int z)) (hKA.2.2.2.1 _ (by decide)).symm, rfl, rfl⟩)
    · have hwj : w = 9 := (by rw [nI_toInt (by omega)] at hz; omega)
      refine r_tableIn (tgt := 114) C dX6_count_1 hlo hhi (by rw [hz]; rfl) (by decide) ?_
      refine r_aload_n C dX6_count_114 rfl 0 rfl ?_
      refine r_get (Cn := RX6) (T := TX6) (N := 6) (v := .ref (b0 + 7)) C inlX6 hc0 rfl 2 (by decide) wF_X6_26 (fun _ h => h) rfl dX6_count_115 ?_
      refine r_get (Cn := RX0) (T := TX0) (N := 7) (v := .ref (b0 + 9)) C inlX0 hc1 rfl 3 (by decide) wF_X6_178 (fun _ h => h) rfl dX6_count_118 ?_
      refine r_iload_n C dX6_count_121 rfl 1 rfl ?_
      refine r_bipush (v := nI 7) C dX6_count_122 (by decide) ?_
      refine r_isubN C dX6_count_124 (by omega) ?_
      refine r_callS (As := [.ref (b0 + 9), .int (nI (w - 7))]) C (c_X6_at_y (a := b0 + 9) (len := 3) (f := kW K) (i := w - 7) hc3 (by omega) (by first | assumption | omega)) wM_X6_174 wS_X6_at wN_X6 wC_X6_at hd_X6_at ⟨Nat.le_of_ble_eq_true rfl, Nat.le_of_ble_eq_true rfl⟩ rfl rfl (Nat.le_of_ble_eq_true rfl) dX6_count_125 ⟨(Nat.le_of_ble_eq_true rfl), (Nat.le_of_ble_eq_true rfl)⟩ (fun rv n2 σ2 hp => ?_)
      obtain ⟨rfl, rfl, rfl⟩ := hp
      refine V.eq (σ2 := σ) (n2 := n) (st2 := [.int ((kW K) (w - 7))]) rfl rfl rfl rfl ?_
      exact r_iret C hr hlocks (Nat.le_of_ble_eq_true rfl) (Nat.le_of_ble_eq_true rfl) dX6_count_128 (hpo _ _ _ ⟨by rw [hwj]; exact congrArg (fun z => some (Value.int z)) (hKA.2.2.2.1 _ (by decide)).symm, rfl, rfl⟩)
    · have hwj : w = 10 := (by rw [nI_toInt (by omega)] at hz; omega)
      refine r_tableIn (tgt := 129) C dX6_count_1 hlo hhi (by rw [hz]; rfl) (by decide) ?_
      refine r_aload_n C dX6_count_129 rfl 0 rfl ?_
      refine r_get (Cn := RX6) (T := TX6) (N := 6) (v := .ref (b0 + 7)) C inlX6 hc0 rfl 2 (by decide) wF_X6_26 (fun _ h => h) rfl dX6_count_130 ?_
      refine r_callV (As := []) C (c_X0_allTurns (k0 := b0 + 7) (K := K) hc1 hc2 ) wM_X6_181 wI_X0_allTurns wN_X0 wC_X0_allTurns wV_X0_allTurns hd_X0_allTurns ⟨Nat.le_of_ble_eq_true rfl, Nat.le_of_ble_eq_true rfl⟩ rfl hc1 rfl rfl (Nat.le_of_ble_eq_true rfl) dX6_count_133 ⟨(Nat.le_of_ble_eq_true rfl), (Nat.le_of_ble_eq_true rfl)⟩ (fun rv n2 σ2 hp => ?_)
      obtain ⟨rfl, rfl, rfl⟩ := hp
      refine V.eq (σ2 := σ) (n2 := n) (st2 := [.int (kT K 0 + kT K 1 + kT K 2)]) rfl rfl rfl rfl ?_
      exact r_iret C hr hlocks (Nat.le_of_ble_eq_true rfl) (Nat.le_of_ble_eq_true rfl) dX6_count_136 (hpo _ _ _ ⟨by rw [hwj, hKA.2.2.1 0 (by decide), hKA.2.2.1 1 (by decide), hKA.2.2.1 2 (by decide)]; rfl, rfl, rfl⟩)
    · have hwj : w = 11 := (by rw [nI_toInt (by omega)] at hz; omega)
      refine r_tableIn (tgt := 137) C dX6_count_1 hlo hhi (by rw [hz]; rfl) (by decide) ?_
      refine r_aload_n C dX6_count_137 rfl 0 rfl ?_
      refine r_get (Cn := RX6) (T := TX6) (N := 6) (v := .int (nI st)) C inlX6 hc0 rfl 5 (by decide) wF_X6_37 (fun _ h => h) rfl dX6_count_138 ?_
      exact r_iret C hr hlocks (Nat.le_of_ble_eq_true rfl) (Nat.le_of_ble_eq_true rfl) dX6_count_141 (hpo _ _ _ ⟨by rw [hwj]; rfl, rfl, rfl⟩)
    · have hwj : w = 12 := (by rw [nI_toInt (by omega)] at hz; omega)
      refine r_tableIn (tgt := 142) C dX6_count_1 hlo hhi (by rw [hz]; rfl) (by decide) ?_
      refine r_aload_n C dX6_count_142 rfl 0 rfl ?_
      refine r_get (Cn := RX6) (T := TX6) (N := 6) (v := .ref (b0 + 5)) C inlX6 hc0 rfl 1 (by decide) wF_X6_19 (fun _ h => h) rfl dX6_count_143 ?_
      refine r_get (Cn := RX5) (T := TX5) (N := 7) (v := .int (nI L)) C inlX5 hc7 rfl 0 (by decide) wF_X6_184 (fun _ h => h) rfl dX6_count_146 ?_
      exact r_iret C hr hlocks (Nat.le_of_ble_eq_true rfl) (Nat.le_of_ble_eq_true rfl) dX6_count_149 (hpo _ _ _ ⟨by rw [hwj]; rfl, rfl, rfl⟩)
