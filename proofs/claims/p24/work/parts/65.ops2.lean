abbrev rm_X6_fewest_pf : Room := { frames := 40, cells := 3, slots := 7686, locals := 4000 }
set_option maxRecDepth 100000 in
set_option maxHeartbeats 4000000 in
theorem c_X6_fewest_pf {l : Launch} {G : gG} {n : Nat} {σ : gS} {b0 : Nat} {Z : ZT} {k : Nat}  (hZ : ZOK Z) (hk : k < aN (zA Z)) (hbad : 9 < dsA (zA Z) k) (hW : WX G b0 n σ Z 13) : GM l G yX6_fewest cX6_fewest 7 (some .int) rm_X6_fewest_pf n σ [.ref b0, .int (nI k), .int (nI 0)] (fun rv n2 σ2 => ∃ (n9 : Nat) (σ9 : gS), some (.int (-1000004)) = rv ∧ n9 = n2 ∧ σ9 = σ2 ∧ (WX G b0 n9 σ9 Z 13)) := by
  obtain ⟨hA, hHA, hS4, hL50, hX128⟩ := id hZ
  have hN5 := hA.1
  have hvk := hA.2.2 k hk
  have hN6 := hvk.1.N
  have hN1 := hvk.1.2.1
  have hsd := hvk.2.2
  obtain ⟨ph, tau, fp, fq, fx, rs, fpl, tn, op, dg, ftx, Kn, Kt, Ka, Kb, Kc, Kd, hp4, hE, hD, hBn, hSR, hmi, ⟨kn, kt, ka, kb, kc, kd⟩, hKA, hKT, hHi, hTx⟩ := id hW
  have eN : kN Kn = aN (zA Z) := hKA.1
  obtain ⟨sa, la0, hs, hsa⟩ := hKT k hk
  obtain ⟨hso, hBs, la, cfl, sv, f1, f2, f3, f4, f5, hBl, z0, z1, z2, z3, z4, z5, z6, g1, g2, g3, g4, g5⟩ := hD.shp hsa
  refine GM.post (GM.room2 (c_X6_fewest_f (k := k) (K := Kn) (tau := tau) (B := b0 + 44) (la := la0) (kd := (aKd (zA Z) k)) (N := (aCk (zA Z) k)) (sr := (aSr (zA Z) k)) (r := (rk (sid (aKd (zA Z) k)) (aCk (zA Z) k) (aO (zA Z) k) (aSd (zA Z) k))) (w := 0) (wx_at0 hE rfl) (wx_at hE 7 rfl) (wx_at hE 10 rfl) (wx_at hE 11 rfl) (hD) (hBn) ((by omega)) (hsa) (hvk.1) ((by omega)) ((by omega)) (hs) ((hKA.2.2.2.2 k hk).1) ((rk_at hA hk rfl rfl)) ((by decide)) (hbad)) (Nat.le_of_ble_eq_true rfl) (Nat.le_of_ble_eq_true rfl) (Nat.le_of_ble_eq_true rfl) (Nat.le_of_ble_eq_true rfl)) (fun v n' σ' hp => ?_)
  obtain ⟨tau2, e1, hn1, hn2, hfr, hD9, hmo9⟩ := hp
  have hx : PX G b0 n σ 13 Z (-1000004) v n' σ' := px_q hE hBn hSR hmi ⟨kn, kt, ka, kb, kc, kd⟩ hKA hKT hHi hTx (by rw [← e1] <;> rfl) hn1 hfr hD9 hmo9
  exact ⟨n', σ', hx.1.symm, rfl, rfl, hx.2.2.1⟩

abbrev rm_X6_fewest_pc : Room := { frames := 40, cells := 3, slots := 7686, locals := 4000 }
set_option maxRecDepth 100000 in
set_option maxHeartbeats 4000000 in
theorem c_X6_fewest_pc {l : Launch} {G : gG} {n : Nat} {σ : gS} {b0 : Nat} {Z : ZT} {k : Nat}  (hZ : ZOK Z) (hk : k < aN (zA Z)) (hgood : dsA (zA Z) k ≤ 9) (hW : WX G b0 n σ Z 13) : GM l G yX6_fewest cX6_fewest 7 (some .int) rm_X6_fewest_pc n σ [.ref b0, .int (nI k), .int (nI 0)] (fun rv n2 σ2 => ∃ (n9 : Nat) (σ9 : gS), some (.int (nI (dsA (zA Z) k))) = rv ∧ n9 = n2 ∧ σ9 = σ2 ∧ (WX G b0 n9 σ9 Z 13)) := by
  obtain ⟨hA, hHA, hS4, hL50, hX128⟩ := id hZ
  have hN5 := hA.1
  have hvk := hA.2.2 k hk
  have hN6 := hvk.1.N
  have hN1 := hvk.1.2.1
  have hsd := hvk.2.2
  obtain ⟨ph, tau, fp, fq, fx, rs, fpl, tn, op, dg, ftx, Kn, Kt, Ka, Kb, Kc, Kd, hp4, hE, hD, hBn, hSR, hmi, ⟨kn, kt, ka, kb, kc, kd⟩, hKA, hKT, hHi, hTx⟩ := id hW
  have eN : kN Kn = aN (zA Z) := hKA.1
  obtain ⟨sa, la0, hs, hsa⟩ := hKT k hk
  obtain ⟨hso, hBs, la, cfl, sv, f1, f2, f3, f4, f5, hBl, z0, z1, z2, z3, z4, z5, z6, g1, g2, g3, g4, g5⟩ := hD.shp hsa
  refine GM.post (GM.room2 (c_X6_fewest_c (k := k) (K := Kn) (tau := tau) (B := b0 + 44) (la := la0) (kd := (aKd (zA Z) k)) (N := (aCk (zA Z) k)) (sr := (aSr (zA Z) k)) (r := (rk (sid (aKd (zA Z) k)) (aCk (zA Z) k) (aO (zA Z) k) (aSd (zA Z) k))) (wx_at0 hE rfl) (wx_at hE 7 rfl) (wx_at hE 10 rfl) (wx_at hE 11 rfl) (hD) (hBn) ((by omega)) (hsa) (hvk.1) ((by omega)) ((by omega)) (hs) ((hKA.2.2.2.2 k hk).1) ((rk_at hA hk rfl rfl)) (hgood)) (Nat.le_of_ble_eq_true rfl) (Nat.le_of_ble_eq_true rfl) (Nat.le_of_ble_eq_true rfl) (Nat.le_of_ble_eq_true rfl)) (fun v n' σ' hp => ?_)
  obtain ⟨tau2, e1, hn1, hn2, hfr, hD9, hmo9⟩ := hp
  have hx : PX G b0 n σ 13 Z (nI (dsA (zA Z) k)) v n' σ' := px_q hE hBn hSR hmi ⟨kn, kt, ka, kb, kc, kd⟩ hKA hKT hHi hTx (by rw [← e1] <;> rfl) hn1 hfr hD9 hmo9
  exact ⟨n', σ', hx.1.symm, rfl, rfl, hx.2.2.1⟩

abbrev rm_X6_fewest_pw : Room := { frames := 40, cells := 3, slots := 7686, locals := 4000 }
set_option maxRecDepth 100000 in
set_option maxHeartbeats 4000000 in
theorem c_X6_fewest_pw {l : Launch} {G : gG} {n : Nat} {σ : gS} {b0 : Nat} {Z : ZT} {k : Nat}  (hZ : ZOK Z) (hk : k < aN (zA Z)) (hgood : dsA (zA Z) k ≤ 9) (hW : WX G b0 n σ Z 13) : GM l G yX6_fewest cX6_fewest 7 (some .int) rm_X6_fewest_pw n σ [.ref b0, .int (nI k), .int (nI 1)] (fun rv n2 σ2 => ∃ (n9 : Nat) (σ9 : gS), some (.int (nI (fwA (zA Z) k))) = rv ∧ n9 = n2 ∧ σ9 = σ2 ∧ (WX G b0 n9 σ9 Z 13)) := by
  obtain ⟨hA, hHA, hS4, hL50, hX128⟩ := id hZ
  have hN5 := hA.1
  have hvk := hA.2.2 k hk
  have hN6 := hvk.1.N
  have hN1 := hvk.1.2.1
  have hsd := hvk.2.2
  obtain ⟨ph, tau, fp, fq, fx, rs, fpl, tn, op, dg, ftx, Kn, Kt, Ka, Kb, Kc, Kd, hp4, hE, hD, hBn, hSR, hmi, ⟨kn, kt, ka, kb, kc, kd⟩, hKA, hKT, hHi, hTx⟩ := id hW
  have eN : kN Kn = aN (zA Z) := hKA.1
  obtain ⟨sa, la0, hs, hsa⟩ := hKT k hk
  obtain ⟨hso, hBs, la, cfl, sv, f1, f2, f3, f4, f5, hBl, z0, z1, z2, z3, z4, z5, z6, g1, g2, g3, g4, g5⟩ := hD.shp hsa
  refine GM.post (GM.room2 (c_X6_fewest_w (k := k) (K := Kn) (tau := tau) (B := b0 + 44) (la := la0) (kd := (aKd (zA Z) k)) (N := (aCk (zA Z) k)) (sr := (aSr (zA Z) k)) (r := (rk (sid (aKd (zA Z) k)) (aCk (zA Z) k) (aO (zA Z) k) (aSd (zA Z) k))) (wx_at0 hE rfl) (wx_at hE 7 rfl) (wx_at hE 10 rfl) (wx_at hE 11 rfl) (hD) (hBn) ((by omega)) (hsa) (hvk.1) ((by omega)) ((by omega)) (hs) ((hKA.2.2.2.2 k hk).1) ((rk_at hA hk rfl rfl)) (hgood)) (Nat.le_of_ble_eq_true rfl) (Nat.le_of_ble_eq_true rfl) (Nat.le_of_ble_eq_true rfl) (Nat.le_of_ble_eq_true rfl)) (fun v n' σ' hp => ?_)
  obtain ⟨tau2, e1, hn1, hn2, hfr, hD9, hmo9⟩ := hp
  have hx : PX G b0 n σ 13 Z (nI (fwA (zA Z) k)) v n' σ' := px_q hE hBn hSR hmi ⟨kn, kt, ka, kb, kc, kd⟩ hKA hKT hHi hTx (by rw [← e1] <;> rfl) hn1 hfr hD9 hmo9
  exact ⟨n', σ', hx.1.symm, rfl, rfl, hx.2.2.1⟩

abbrev rm_X6_leastWork_p : Room := { frames := 40, cells := 3, slots := 7686, locals := 4000 }
set_option maxRecDepth 100000 in
set_option maxHeartbeats 4000000 in
theorem c_X6_leastWork_p {l : Launch} {G : gG} {n : Nat} {σ : gS} {b0 : Nat} {Z : ZT} {k : Nat}  (hZ : ZOK Z) (hk : k < aN (zA Z)) (hW : WX G b0 n σ Z 13) : GM l G yX6_leastWork cX6_leastWork 4 (some .int) rm_X6_leastWork_p n σ [.ref b0, .int (nI k)] (fun rv n2 σ2 => ∃ (n9 : Nat) (σ9 : gS), some (.int (lwA (dwA (zA Z) k))) = rv ∧ n9 = n2 ∧ σ9 = σ2 ∧ (WX G b0 n9 σ9 Z 13)) := by
  obtain ⟨hA, hHA, hS4, hL50, hX128⟩ := id hZ
  have hN5 := hA.1
  have hvk := hA.2.2 k hk
  have hN6 := hvk.1.N
  have hN1 := hvk.1.2.1
  have hsd := hvk.2.2
  obtain ⟨ph, tau, fp, fq, fx, rs, fpl, tn, op, dg, ftx, Kn, Kt, Ka, Kb, Kc, Kd, hp4, hE, hD, hBn, hSR, hmi, ⟨kn, kt, ka, kb, kc, kd⟩, hKA, hKT, hHi, hTx⟩ := id hW
  have eN : kN Kn = aN (zA Z) := hKA.1
  obtain ⟨sa, la0, hs, hsa⟩ := hKT k hk
  obtain ⟨hso, hBs, la, cfl, sv, f1, f2, f3, f4, f5, hBl, z0, z1, z2, z3, z4, z5, z6, g1, g2, g3, g4, g5⟩ := hD.shp hsa
  refine GM.post (GM.room2 (c_X6_leastWork_y (k := k) (K := Kn) (tau := tau) (B := b0 + 44) (la := la0) (kd := (aKd (zA Z) k)) (N := (aCk (zA Z) k)) (sr := (aSr (zA Z) k)) (r := (rk (sid (aKd (zA Z) k)) (aCk (zA Z) k) (aO (zA Z) k) (aSd (zA Z) k))) (wx_at0 hE rfl) (wx_at hE 7 rfl) (wx_at hE 10 rfl) (wx_at hE 11 rfl) (hD) (hBn) ((by omega)) (hsa) (hvk.1) ((by omega)) ((by omega)) (hs) ((hKA.2.2.2.2 k hk).1) ((rk_at hA hk rfl rfl))) (Nat.le_of_ble_eq_true rfl) (Nat.le_of_ble_eq_true rfl) (Nat.le_of_ble_eq_true rfl) (Nat.le_of_ble_eq_true rfl)) (fun v n' σ' hp => ?_)
  obtain ⟨tau2, e1, hn1, hn2, hfr, hD9, hmo9⟩ := hp
  have hx : PX G b0 n σ 13 Z (lwA (dwA (zA Z) k)) v n' σ' := px_q hE hBn hSR hmi ⟨kn, kt, ka, kb, kc, kd⟩ hKA hKT hHi hTx (by rw [← e1] <;> rfl) hn1 hfr hD9 hmo9
  exact ⟨n', σ', hx.1.symm, rfl, rfl, hx.2.2.1⟩

abbrev rm_X6_ways_p : Room := { frames := 40, cells := 3, slots := 7686, locals := 4000 }
set_option maxRecDepth 100000 in
set_option maxHeartbeats 4000000 in
theorem c_X6_ways_p {l : Launch} {G : gG} {n : Nat} {σ : gS} {b0 : Nat} {Z : ZT} {k t : Nat}  (hZ : ZOK Z) (hk : k < aN (zA Z)) (ht : t ≤ 5) (hW : WX G b0 n σ Z 13) : GM l G yX6_ways cX6_ways 4 (some .int) rm_X6_ways_p n σ [.ref b0, .int (nI k), .int (nI t)] (fun rv n2 σ2 => ∃ (n9 : Nat) (σ9 : gS), some (.int (nI (wy (aKd (zA Z) k) (aSr (zA Z) k) (aCk (zA Z) k) t (rkA (zA Z) k)))) = rv ∧ n9 = n2 ∧ σ9 = σ2 ∧ (WX G b0 n9 σ9 Z 13)) := by
  obtain ⟨hA, hHA, hS4, hL50, hX128⟩ := id hZ
  have hN5 := hA.1
  have hvk := hA.2.2 k hk
  have hN6 := hvk.1.N
  have hN1 := hvk.1.2.1
  have hsd := hvk.2.2
  rcases (show t = 0 ∨ t = 1 ∨ t = 2 ∨ t = 3 ∨ t = 4 ∨ t = 5 by omega) with rfl | rfl | rfl | rfl | rfl | rfl
  · obtain ⟨ph, tau, fp, fq, fx, rs, fpl, tn, op, dg, ftx, Kn, Kt, Ka, Kb, Kc, Kd, hp4, hE, hD, hBn, hSR, hmi, ⟨kn, kt, ka, kb, kc, kd⟩, hKA, hKT, hHi, hTx⟩ := id hW
    have eN : kN Kn = aN (zA Z) := hKA.1
    obtain ⟨sa, la0, hs, hsa⟩ := hKT k hk
    obtain ⟨hso, hBs, la, cfl, sv, f1, f2, f3, f4, f5, hBl, z0, z1, z2, z3, z4, z5, z6, g1, g2, g3, g4, g5⟩ := hD.shp hsa
    refine GM.post (GM.room2 (c_X6_ways_y0 (k := k) (K := Kn) (tau := tau) (B := b0 + 44) (la := la0) (kd := (aKd (zA Z) k)) (N := (aCk (zA Z) k)) (sr := (aSr (zA Z) k)) (r := (rk (sid (aKd (zA Z) k)) (aCk (zA Z) k) (aO (zA Z) k) (aSd (zA Z) k))) (wx_at0 hE rfl) (wx_at hE 7 rfl) (wx_at hE 10 rfl) (wx_at hE 11 rfl) (hD) (hBn) ((by omega)) (hsa) (hvk.1) ((by omega)) ((by omega)) (hs) ((hKA.2.2.2.2 k hk).1) ((rk_at hA hk rfl rfl))) (Nat.le_of_ble_eq_true rfl) (Nat.le_of_ble_eq_true rfl) (Nat.le_of_ble_eq_true rfl) (Nat.le_of_ble_eq_true rfl)) (fun v n' σ' hp => ?_)
    obtain ⟨tau2, e1, hn1, hn2, hfr, hD9, hmo9⟩ := hp
    have hx : PX G b0 n σ 13 Z (nI (wy (aKd (zA Z) k) (aSr (zA Z) k) (aCk (zA Z) k) 0 (rkA (zA Z) k))) v n' σ' := px_q hE hBn hSR hmi ⟨kn, kt, ka, kb, kc, kd⟩ hKA hKT hHi hTx (by rw [← e1] <;> rfl) hn1 hfr hD9 hmo9
    exact ⟨n', σ', hx.1.symm, rfl, rfl, hx.2.2.1⟩
  · obtain ⟨ph, tau, fp, fq, fx, rs, fpl, tn, op, dg, ftx, Kn, Kt, Ka, Kb, Kc, Kd, hp4, hE, hD, hBn, hSR, hmi, ⟨kn, kt, ka, kb, kc, kd⟩, hKA, hKT, hHi, hTx⟩ := id hW
    have eN : kN Kn = aN (zA Z) := hKA.1
    obtain ⟨sa, la0, hs, hsa⟩ := hKT k hk
    obtain ⟨hso, hBs, la, cfl, sv, f1, f2, f3, f4, f5, hBl, z0, z1, z2, z3, z4, z5, z6, g1, g2, g3, g4, g5⟩ := hD.shp hsa
    refine GM.post (GM.room2 (c_X6_ways_y1 (k := k) (K := Kn) (tau := tau) (B := b0 + 44) (la := la0) (kd := (aKd (zA Z) k)) (N := (aCk (zA Z) k)) (sr := (aSr (zA Z) k)) (r := (rk (sid (aKd (zA Z) k)) (aCk (zA Z) k) (aO (zA Z) k) (aSd (zA Z) k))) (wx_at0 hE rfl) (wx_at hE 7 rfl) (wx_at hE 10 rfl) (wx_at hE 11 rfl) (hD) (hBn) ((by omega)) (hsa) (hvk.1) ((by omega)) ((by omega)) (hs) ((hKA.2.2.2.2 k hk).1) ((rk_at hA hk rfl rfl))) (Nat.le_of_ble_eq_true rfl) (Nat.le_of_ble_eq_true rfl) (Nat.le_of_ble_eq_true rfl) (Nat.le_of_ble_eq_true rfl)) (fun v n' σ' hp => ?_)
    obtain ⟨tau2, e1, hn1, hn2, hfr, hD9, hmo9⟩ := hp
    have hx : PX G b0 n σ 13 Z (nI (wy (aKd (zA Z) k) (aSr (zA Z) k) (aCk (zA Z) k) 1 (rkA (zA Z) k))) v n' σ' := px_q hE hBn hSR hmi ⟨kn, kt, ka, kb, kc, kd⟩ hKA hKT hHi hTx (by rw [← e1] <;> rfl) hn1 hfr hD9 hmo9
    exact ⟨n', σ', hx.1.symm, rfl, rfl, hx.2.2.1⟩
  · obtain ⟨ph, tau, fp, fq, fx, rs, fpl, tn, op, dg, ftx, Kn, Kt, Ka, Kb, Kc, Kd, hp4, hE, hD, hBn, hSR, hmi, ⟨kn, kt, ka, kb, kc, kd⟩, hKA, hKT, hHi, hTx⟩ := id hW
    have eN : kN Kn = aN (zA Z) := hKA.1
    obtain ⟨sa, la0, hs, hsa⟩ := hKT k hk
    obtain ⟨hso, hBs, la, cfl, sv, f1, f2, f3, f4, f5, hBl, z0, z1, z2, z3, z4, z5, z6, g1, g2, g3, g4, g5⟩ := hD.shp hsa
    refine GM.post (GM.room2 (c_X6_ways_y2 (k := k) (K := Kn) (tau := tau) (B := b0 + 44) (la := la0) (kd := (aKd (zA Z) k)) (N := (aCk (zA Z) k)) (sr := (aSr (zA Z) k)) (r := (rk (sid (aKd (zA Z) k)) (aCk (zA Z) k) (aO (zA Z) k) (aSd (zA Z) k))) (wx_at0 hE rfl) (wx_at hE 7 rfl) (wx_at hE 10 rfl) (wx_at hE 11 rfl) (hD) (hBn) ((by omega)) (hsa) (hvk.1) ((by omega)) ((by omega)) (hs) ((hKA.2.2.2.2 k hk).1) ((rk_at hA hk rfl rfl))) (Nat.le_of_ble_eq_true rfl) (Nat.le_of_ble_eq_true rfl) (Nat.le_of_ble_eq_true rfl) (Nat.le_of_ble_eq_true rfl)) (fun v n' σ' hp => ?_)
    obtain ⟨tau2, e1, hn1, hn2, hfr, hD9, hmo9⟩ := hp
    have hx : PX G b0 n σ 13 Z (nI (wy (aKd (zA Z) k) (aSr (zA Z) k) (aCk (zA Z) k) 2 (rkA (zA Z) k))) v n' σ' := px_q hE hBn hSR hmi ⟨kn, kt, ka, kb, kc, kd⟩ hKA hKT hHi hTx (by rw [← e1] <;> rfl) hn1 hfr hD9 hmo9
    exact ⟨n', σ', hx.1.symm, rfl, rfl, hx.2.2.1⟩
  · obtain ⟨ph, tau, fp, fq, fx, rs, fpl, tn, op, dg, ftx, Kn, Kt, Ka, Kb, Kc, Kd, hp4, hE, hD, hBn, hSR, hmi, ⟨kn, kt, ka, kb, kc, kd⟩, hKA, hKT, hHi, hTx⟩ := id hW
    have eN : kN Kn = aN (zA Z) := hKA.1
    obtain ⟨sa, la0, hs, hsa⟩ := hKT k hk
    obtain ⟨hso, hBs, la, cfl, sv, f1, f2, f3, f4, f5, hBl, z0, z1, z2, z3, z4, z5, z6, g1, g2, g3, g4, g5⟩ := hD.shp hsa
    refine GM.post (GM.room2 (c_X6_ways_y3 (k := k) (K := Kn) (tau := tau) (B := b0 + 44) (la := la0) (kd := (aKd (zA Z) k)) (N := (aCk (zA Z) k)) (sr := (aSr (zA Z) k)) (r := (rk (sid (aKd (zA Z) k)) (aCk (zA Z) k) (aO (zA Z) k) (aSd (zA Z) k))) (wx_at0 hE rfl) (wx_at hE 7 rfl) (wx_at hE 10 rfl) (wx_at hE 11 rfl) (hD) (hBn) ((by omega)) (hsa) (hvk.1) ((by omega)) ((by omega)) (hs) ((hKA.2.2.2.2 k hk).1) ((rk_at hA hk rfl rfl))) (Nat.le_of_ble_eq_true rfl) (Nat.le_of_ble_eq_true rfl) (Nat.le_of_ble_eq_true rfl) (Nat.le_of_ble_eq_true rfl)) (fun v n' σ' hp => ?_)
    obtain ⟨tau2, e1, hn1, hn2, hfr, hD9, hmo9⟩ := hp
    have hx : PX G b0 n σ 13 Z (nI (wy (aKd (zA Z) k) (aSr (zA Z) k) (aCk (zA Z) k) 3 (rkA (zA Z) k))) v n' σ' := px_q hE hBn hSR hmi ⟨kn, kt, ka, kb, kc, kd⟩ hKA hKT hHi hTx (by rw [← e1] <;> rfl) hn1 hfr hD9 hmo9
    exact ⟨n', σ', hx.1.symm, rfl, rfl, hx.2.2.1⟩
  · obtain ⟨ph, tau, fp, fq, fx, rs, fpl, tn, op, dg, ftx, Kn, Kt, Ka, Kb, Kc, Kd, hp4, hE, hD, hBn, hSR, hmi, ⟨kn, kt, ka, kb, kc, kd⟩, hKA, hKT, hHi, hTx⟩ := id hW
    have eN : kN Kn = aN (zA Z) := hKA.1
    obtain ⟨sa, la0, hs, hsa⟩ := hKT k hk
    obtain ⟨hso, hBs, la, cfl, sv, f1, f2, f3, f4, f5, hBl, z0, z1, z2, z3, z4, z5, z6, g1, g2, g3, g4, g5⟩ := hD.shp hsa
    refine GM.post (GM.room2 (c_X6_ways_y4 (k := k) (K := Kn) (tau := tau) (B := b0 + 44) (la := la0) (kd := (aKd (zA Z) k)) (N := (aCk (zA Z) k)) (sr := (aSr (zA Z) k)) (r := (rk (sid (aKd (zA Z) k)) (aCk (zA Z) k) (aO (zA Z) k) (aSd (zA Z) k))) (wx_at0 hE rfl) (wx_at hE 7 rfl) (wx_at hE 10 rfl) (wx_at hE 11 rfl) (hD) (hBn) ((by omega)) (hsa) (hvk.1) ((by omega)) ((by omega)) (hs) ((hKA.2.2.2.2 k hk).1) ((rk_at hA hk rfl rfl))) (Nat.le_of_ble_eq_true rfl) (Nat.le_of_ble_eq_true rfl) (Nat.le_of_ble_eq_true rfl) (Nat.le_of_ble_eq_true rfl)) (fun v n' σ' hp => ?_)
    obtain ⟨tau2, e1, hn1, hn2, hfr, hD9, hmo9⟩ := hp
    have hx : PX G b0 n σ 13 Z (nI (wy (aKd (zA Z) k) (aSr (zA Z) k) (aCk (zA Z) k) 4 (rkA (zA Z) k))) v n' σ' := px_q hE hBn hSR hmi ⟨kn, kt, ka, kb, kc, kd⟩ hKA hKT hHi hTx (by rw [← e1] <;> rfl) hn1 hfr hD9 hmo9
    exact ⟨n', σ', hx.1.symm, rfl, rfl, hx.2.2.1⟩
  · obtain ⟨ph, tau, fp, fq, fx, rs, fpl, tn, op, dg, ftx, Kn, Kt, Ka, Kb, Kc, Kd, hp4, hE, hD, hBn, hSR, hmi, ⟨kn, kt, ka, kb, kc, kd⟩, hKA, hKT, hHi, hTx⟩ := id hW
    have eN : kN Kn = aN (zA Z) := hKA.1
    obtain ⟨sa, la0, hs, hsa⟩ := hKT k hk
    obtain ⟨hso, hBs, la, cfl, sv, f1, f2, f3, f4, f5, hBl, z0, z1, z2, z3, z4, z5, z6, g1, g2, g3, g4, g5⟩ := hD.shp hsa
    refine GM.post (GM.room2 (c_X6_ways_y5 (k := k) (K := Kn) (tau := tau) (B := b0 + 44) (la := la0) (kd := (aKd (zA Z) k)) (N := (aCk (zA Z) k)) (sr := (aSr (zA Z) k)) (r := (rk (sid (aKd (zA Z) k)) (aCk (zA Z) k) (aO (zA Z) k) (aSd (zA Z) k))) (wx_at0 hE rfl) (wx_at hE 7 rfl) (wx_at hE 10 rfl) (wx_at hE 11 rfl) (hD) (hBn) ((by omega)) (hsa) (hvk.1) ((by omega)) ((by omega)) (hs) ((hKA.2.2.2.2 k hk).1) ((rk_at hA hk rfl rfl))) (Nat.le_of_ble_eq_true rfl) (Nat.le_of_ble_eq_true rfl) (Nat.le_of_ble_eq_true rfl) (Nat.le_of_ble_eq_true rfl)) (fun v n' σ' hp => ?_)
    obtain ⟨tau2, e1, hn1, hn2, hfr, hD9, hmo9⟩ := hp
    have hx : PX G b0 n σ 13 Z (nI (wy (aKd (zA Z) k) (aSr (zA Z) k) (aCk (zA Z) k) 5 (rkA (zA Z) k))) v n' σ' := px_q hE hBn hSR hmi ⟨kn, kt, ka, kb, kc, kd⟩ hKA hKT hHi hTx (by rw [← e1] <;> rfl) hn1 hfr hD9 hmo9
    exact ⟨n', σ', hx.1.symm, rfl, rfl, hx.2.2.1⟩

abbrev rm_X6_ofDistance_p : Room := { frames := 40, cells := 3, slots := 7686, locals := 4000 }
set_option maxRecDepth 100000 in
set_option maxHeartbeats 4000000 in
theorem c_X6_ofDistance_p {l : Launch} {G : gG} {n : Nat} {σ : gS} {b0 : Nat} {Z : ZT} {k w : Nat}  (hZ : ZOK Z) (hk : k < aN (zA Z)) (hw : w ≤ 12) (hW : WX G b0 n σ Z 13) : GM l G yX6_ofDistance cX6_ofDistance 4 (some .int) rm_X6_ofDistance_p n σ [.ref b0, .int (nI k), .int (nI w)] (fun rv n2 σ2 => ∃ (n9 : Nat) (σ9 : gS), some (.int (nI (ofd (dst false (aKd (zA Z) k) (aSr (zA Z) k) (aCk (zA Z) k)) w (rR (sid (aKd (zA Z) k)) (aCk (zA Z) k))))) = rv ∧ n9 = n2 ∧ σ9 = σ2 ∧ (WX G b0 n9 σ9 Z 13)) := by
  obtain ⟨hA, hHA, hS4, hL50, hX128⟩ := id hZ
  have hN5 := hA.1
  have hvk := hA.2.2 k hk
  have hN6 := hvk.1.N
  have hN1 := hvk.1.2.1
  have hsd := hvk.2.2
  obtain ⟨ph, tau, fp, fq, fx, rs, fpl, tn, op, dg, ftx, Kn, Kt, Ka, Kb, Kc, Kd, hp4, hE, hD, hBn, hSR, hmi, ⟨kn, kt, ka, kb, kc, kd⟩, hKA, hKT, hHi, hTx⟩ := id hW
  have eN : kN Kn = aN (zA Z) := hKA.1
  obtain ⟨sa, la0, hs, hsa⟩ := hKT k hk
  obtain ⟨hso, hBs, la, cfl, sv, f1, f2, f3, f4, f5, hBl, z0, z1, z2, z3, z4, z5, z6, g1, g2, g3, g4, g5⟩ := hD.shp hsa
  refine GM.post (GM.room2 (c_X6_ofDistance_y (k := k) (K := Kn) (tau := tau) (B := b0 + 44) (la := la0) (kd := (aKd (zA Z) k)) (N := (aCk (zA Z) k)) (sr := (aSr (zA Z) k)) (r := (rk (sid (aKd (zA Z) k)) (aCk (zA Z) k) (aO (zA Z) k) (aSd (zA Z) k))) (w := w) (wx_at0 hE rfl) (wx_at hE 7 rfl) (wx_at hE 10 rfl) (wx_at hE 11 rfl) (hD) (hBn) ((by omega)) (hsa) (hvk.1) ((by omega)) ((by omega)) (hs) ((hKA.2.2.2.2 k hk).1) ((rk_at hA hk rfl rfl)) (hw)) (Nat.le_of_ble_eq_true rfl) (Nat.le_of_ble_eq_true rfl) (Nat.le_of_ble_eq_true rfl) (Nat.le_of_ble_eq_true rfl)) (fun v n' σ' hp => ?_)
  obtain ⟨tau2, e1, hn1, hn2, hfr, hD9, hmo9⟩ := hp
  have hx : PX G b0 n σ 13 Z (nI (ofd (dst false (aKd (zA Z) k) (aSr (zA Z) k) (aCk (zA Z) k)) w (rR (sid (aKd (zA Z) k)) (aCk (zA Z) k)))) v n' σ' := px_q hE hBn hSR hmi ⟨kn, kt, ka, kb, kc, kd⟩ hKA hKT hHi hTx (by rw [← e1] <;> rfl) hn1 hfr hD9 hmo9
  exact ⟨n', σ', hx.1.symm, rfl, rfl, hx.2.2.1⟩

abbrev rm_X6_stack_p : Room := { frames := 40, cells := 7, slots := 31935, locals := 4000 }
set_option maxRecDepth 100000 in
set_option maxHeartbeats 4000000 in
theorem c_X6_stack_p {l : Launch} {G : gG} {n : Nat} {σ : gS} {b0 : Nat} {Z : ZT} {kq N sr : Nat}  (hZ : ZOK Z) (hso : shOK kq N sr) (hlt5 : aN (zA Z) < 5) (hW : WX G b0 n σ Z 13) : GM l G yX6_stack cX6_stack 6 (some .int) rm_X6_stack_p n σ [.ref b0, .int (nI kq), .int (nI N), .int (nI sr)] (fun rv n2 σ2 => ∃ (n9 : Nat) (σ9 : gS), some (.int (nI (aN (zA Z)))) = rv ∧ n9 = n2 ∧ σ9 = σ2 ∧ (WX G b0 n9 σ9 (zP Z (addA (zA Z) kq N sr)) 13)) := by
  obtain ⟨hA, hHA, hS4, hL50, hX128⟩ := id hZ
  have hN5 := hA.1
  obtain ⟨ph, tau, fp, fq, fx, rs, fpl, tn, op, dg, ftx, Kn, Kt, Ka, Kb, Kc, Kd, hp4, hE, hD, hBn, hSR, hmi, ⟨kn, kt, ka, kb, kc, kd⟩, hKA, hKT, hHi, hTx⟩ := id hW
  have eN : kN Kn = aN (zA Z) := hKA.1
  have hN6 := hso.N
  by_cases hkn : (if sid kq = true then fq else fp) N = none
  · refine GM.post (GM.room2 (GM.heap hE (c_X6_stack_yn (kd := kq) (N := N) (sr := sr) (tau := tau) (B := b0 + 44)  (hD) (hBn) (hS4) (by omega) ((by omega)) (kn) (kt) (ka) (kb) (kc) (kd) (hSR) (hso) (hkn) ((by omega)))) (Nat.le_of_ble_eq_true rfl) (Nat.le_of_ble_eq_true rfl) (Nat.le_of_ble_eq_true rfl) (Nat.le_of_ble_eq_true rfl)) (fun v n' σ' hp => ?_)
    obtain ⟨n9, τ9, sa9, la9, tau9, fp9, fq9, fx9, ph2, s2, Ka2, Kb2, Kc2, Kd2, e1, e2, e3, hD9, hmo9, hf9, hsa9, hSR9, hmi9, hn9, ha0, ha1, ha2, ha3, ha4⟩ := hp
    have hx : PX G b0 n σ 13 (zP Z (addA (zA Z) kq N sr)) (nI (aN (zA Z))) v n' σ' := px_keep (mi := 13) (by rw [← e1, eN]) (by omega) e3 (fun q h1 h2 => hf9 q h2 (Or.inr h1)) (hD9.fr (by omega) (fun _ _ _ => rfl)) (by omega) hSR9 (by omega) ⟨kn.mono hmo9, ka.mono hmo9, kb.mono hmo9, kc.mono hmo9, kd.mono hmo9⟩ hKA (hKT.mono hmo9) (fun i hi => ⟨(hHi i hi).1, (hHi i hi).2.mono hmo9⟩) hTx ha2 ha3 ha4 (addA_S (kn.mono hmo9) hsa9) (addA_S (kn.mono hmo9) hsa9) (addA_K hKA) (addA_T hKA (hKT.mono hmo9) hsa9)
    exact ⟨n', σ', hx.1.symm, rfl, rfl, hx.2.2.1⟩
  · refine GM.post (GM.room2 (GM.heap hE (c_X6_stack_yk (kd := kq) (N := N) (sr := sr) (tau := tau) (B := b0 + 44)  (hD) (hBn) (hS4) (by omega) ((by omega)) (kn) (kt) (ka) (kb) (kc) (kd) (hSR) (hso) (hkn) ((by omega)))) (Nat.le_of_ble_eq_true rfl) (Nat.le_of_ble_eq_true rfl) (Nat.le_of_ble_eq_true rfl) (Nat.le_of_ble_eq_true rfl)) (fun v n' σ' hp => ?_)
    obtain ⟨n9, τ9, sa9, la9, tau9, fp9, fq9, fx9, ph2, s2, Ka2, Kb2, Kc2, Kd2, e1, e2, e3, hD9, hmo9, hf9, hsa9, hSR9, hmi9, hn9, ha0, ha1, ha2, ha3, ha4⟩ := hp
    have hx : PX G b0 n σ 13 (zP Z (addA (zA Z) kq N sr)) (nI (aN (zA Z))) v n' σ' := px_keep (mi := 13) (by rw [← e1, eN]) (by omega) e3 (fun q h1 h2 => hf9 q h2 (Or.inr h1)) (hD9.fr (by omega) (fun _ _ _ => rfl)) (by omega) hSR9 (by omega) ⟨kn.mono hmo9, ka.mono hmo9, kb.mono hmo9, kc.mono hmo9, kd.mono hmo9⟩ hKA (hKT.mono hmo9) (fun i hi => ⟨(hHi i hi).1, (hHi i hi).2.mono hmo9⟩) hTx ha2 ha3 ha4 (addA_S (kn.mono hmo9) hsa9) (addA_S (kn.mono hmo9) hsa9) (addA_K hKA) (addA_T hKA (hKT.mono hmo9) hsa9)
    exact ⟨n', σ', hx.1.symm, rfl, rfl, hx.2.2.1⟩
