set_option maxRecDepth 100000 in
set_option maxHeartbeats 4000000 in
theorem op_ranked {l : Launch} {G : gG} {b0 : Nat} {Z : ZT} (hZ : ZOK Z) (x y z : Int32) : ∃ (ans : Int32) (Z2 : ZT), ZOK Z2 ∧ (∀ n σ mi, WX G b0 n σ Z mi → (GM l G yX6_ranked cX6_ranked 5 (some .int) rmC n σ [.ref b0, .int x, .int y, .int z] (PX G b0 n σ mi Z2 ans)) ∨ (1 ≤ mi ∧ GM l G yX6_ranked cX6_ranked 5 (some .int) rmS n σ [.ref b0, .int x, .int y, .int z] (PX G b0 n σ (mi - 1) Z2 ans))) ∧ (∀ n σ, WM G b0 σ Z → GM l G yX7_ranked cX7_ranked 4 (some .int) rmM n σ [.ref (b0 + 44), .int x, .int y, .int z] (PM G b0 n σ Z2 ans)) := by
  obtain ⟨hA, hHA, hS4, hL50, hX128⟩ := id hZ
  have hN5 := hA.1
  cases hS : isS x (aN (zA Z)) with
  | false =>
    refine ⟨(-1000001), Z, hZ, fun n σ mi hW => Or.inl ?_, fun n σ hM => ?_⟩
    · obtain ⟨ph, tau, fp, fq, fx, rs, fpl, tn, op, dg, ftx, Kn, Kt, Ka, Kb, Kc, Kd, hp4, hE, hD, hBn, hSR, hmi, ⟨kn, kt, ka, kb, kc, kd⟩, hKA, hKT, hHi, hTx⟩ := id hW
      have eN : kN Kn = aN (zA Z) := hKA.1
      refine GM.post (GM.room2 (c_X6_ranked_x (K := Kn) (wx_at0 hE rfl) (wx_at hE 7 rfl) ((by omega)) (by rw [eN]; exact hS)) (Nat.le_of_ble_eq_true rfl) (Nat.le_of_ble_eq_true rfl) (Nat.le_of_ble_eq_true rfl) (Nat.le_of_ble_eq_true rfl)) (fun v n' σ' hp => ?_)
      obtain ⟨e1, e2, e3⟩ := hp
      exact px_read hW (by rw [← e1] <;> rfl) e2 e3
    · obtain ⟨xat, xreason, xdone, xkind, xn, xstrength, fs, fwas, fbegun, faside, ftext, fsize, fburnt, fnext, ffar, fthen, fqueue, frankAt, fturnAt, hE, hMR, hMW, hMT⟩ := id hM
      refine GM.post (GM.room2 (GM.heap hE (c_X7_ranked_x (ns := aN (zA Z))  (hMR.1) (hS))) (Nat.le_of_ble_eq_true rfl) (Nat.le_of_ble_eq_true rfl) (Nat.le_of_ble_eq_true rfl) (Nat.le_of_ble_eq_true rfl)) (fun v n' σ' hp => ?_)
      obtain ⟨e1, e2, e3⟩ := hp
      exact pm_mk (by rw [← e1] <;> rfl) e2 e3 rfl rfl hMR hMW hMT
  | true =>
    obtain ⟨k, hk, rfl⟩ := isS_of hN5 hS
    have hvk := hA.2.2 k hk
    have hN6 := hvk.1.N
    have hN1 := hvk.1.2.1
    have hsd := hvk.2.2
    by_cases hy : y < 0
    · refine ⟨(-1000001), Z, hZ, fun n σ mi hW => Or.inl ?_, fun n σ hM => ?_⟩
      · obtain ⟨ph, tau, fp, fq, fx, rs, fpl, tn, op, dg, ftx, Kn, Kt, Ka, Kb, Kc, Kd, hp4, hE, hD, hBn, hSR, hmi, ⟨kn, kt, ka, kb, kc, kd⟩, hKA, hKT, hHi, hTx⟩ := id hW
        have eN : kN Kn = aN (zA Z) := hKA.1
        obtain ⟨sa, la0, hs, hsa⟩ := hKT k hk
        obtain ⟨hso, hBs, la, cfl, sv, f1, f2, f3, f4, f5, hBl, z0, z1, z2, z3, z4, z5, z6, g1, g2, g3, g4, g5⟩ := hD.shp hsa
        refine GM.post (GM.room2 (c_X6_ranked_r (k := k) (K := Kn) (wx_at0 hE rfl) (wx_at hE 7 rfl) (wx_at hE 10 rfl) ((by omega)) ((by omega)) (hs) (hy)) (Nat.le_of_ble_eq_true rfl) (Nat.le_of_ble_eq_true rfl) (Nat.le_of_ble_eq_true rfl) (Nat.le_of_ble_eq_true rfl)) (fun v n' σ' hp => ?_)
        obtain ⟨e1, e2, e3⟩ := hp
        exact px_read hW (by rw [← e1] <;> rfl) e2 e3
      · obtain ⟨xat, xreason, xdone, xkind, xn, xstrength, fs, fwas, fbegun, faside, ftext, fsize, fburnt, fnext, ffar, fthen, fqueue, frankAt, fturnAt, hE, hMR, hMW, hMT⟩ := id hM
        refine GM.post (GM.room2 (GM.heap hE (c_X7_ranked_r (k := k)  (hMR.1) (hA.1) (hk) ((hMR.2.2.2.2 k hk).1) ((hA.2.2 k hk)) (hy))) (Nat.le_of_ble_eq_true rfl) (Nat.le_of_ble_eq_true rfl) (Nat.le_of_ble_eq_true rfl) (Nat.le_of_ble_eq_true rfl)) (fun v n' σ' hp => ?_)
        obtain ⟨e1, e2, e3⟩ := hp
        exact pm_mk (by rw [← e1] <;> rfl) e2 e3 rfl rfl hMR hMW hMT
    · obtain ⟨r, hr31, rfl⟩ := nn_of hy
      cases hz : decide (nI 0 ≤ z ∧ z ≤ nI 1) with
      | false =>
        refine ⟨(-1000001), Z, hZ, fun n σ mi hW => Or.inl ?_, fun n σ hM => ?_⟩
        · obtain ⟨ph, tau, fp, fq, fx, rs, fpl, tn, op, dg, ftx, Kn, Kt, Ka, Kb, Kc, Kd, hp4, hE, hD, hBn, hSR, hmi, ⟨kn, kt, ka, kb, kc, kd⟩, hKA, hKT, hHi, hTx⟩ := id hW
          have eN : kN Kn = aN (zA Z) := hKA.1
          obtain ⟨sa, la0, hs, hsa⟩ := hKT k hk
          obtain ⟨hso, hBs, la, cfl, sv, f1, f2, f3, f4, f5, hBl, z0, z1, z2, z3, z4, z5, z6, g1, g2, g3, g4, g5⟩ := hD.shp hsa
          refine GM.post (GM.room2 (c_X6_ranked_z (k := k) (K := Kn) (r := r) (wx_at0 hE rfl) (wx_at hE 7 rfl) (wx_at hE 10 rfl) ((by omega)) ((by omega)) (hs) (hr31) (hz)) (Nat.le_of_ble_eq_true rfl) (Nat.le_of_ble_eq_true rfl) (Nat.le_of_ble_eq_true rfl) (Nat.le_of_ble_eq_true rfl)) (fun v n' σ' hp => ?_)
          obtain ⟨e1, e2, e3⟩ := hp
          exact px_read hW (by rw [← e1] <;> rfl) e2 e3
        · obtain ⟨xat, xreason, xdone, xkind, xn, xstrength, fs, fwas, fbegun, faside, ftext, fsize, fburnt, fnext, ffar, fthen, fqueue, frankAt, fturnAt, hE, hMR, hMW, hMT⟩ := id hM
          refine GM.post (GM.room2 (GM.heap hE (c_X7_ranked_z (k := k) (r := r)  (hMR.1) (hA.1) (hk) ((hMR.2.2.2.2 k hk).1) ((hA.2.2 k hk)) (hr31) (hz))) (Nat.le_of_ble_eq_true rfl) (Nat.le_of_ble_eq_true rfl) (Nat.le_of_ble_eq_true rfl) (Nat.le_of_ble_eq_true rfl)) (fun v n' σ' hp => ?_)
          obtain ⟨e1, e2, e3⟩ := hp
          exact pm_mk (by rw [← e1] <;> rfl) e2 e3 rfl rfl hMR hMW hMT
      | true =>
        obtain ⟨w, w0, w1, rfl⟩ := in_of (by omega) (by omega) hz
        by_cases hrr : rR (sid (aKd (zA Z) k)) (aCk (zA Z) k) ≤ r
        · refine ⟨(-1000004), Z, hZ, fun n σ mi hW => Or.inl ?_, fun n σ hM => ?_⟩
          · obtain ⟨ph, tau, fp, fq, fx, rs, fpl, tn, op, dg, ftx, Kn, Kt, Ka, Kb, Kc, Kd, hp4, hE, hD, hBn, hSR, hmi, ⟨kn, kt, ka, kb, kc, kd⟩, hKA, hKT, hHi, hTx⟩ := id hW
            have eN : kN Kn = aN (zA Z) := hKA.1
            obtain ⟨sa, la0, hs, hsa⟩ := hKT k hk
            obtain ⟨hso, hBs, la, cfl, sv, f1, f2, f3, f4, f5, hBl, z0, z1, z2, z3, z4, z5, z6, g1, g2, g3, g4, g5⟩ := hD.shp hsa
            refine GM.post (GM.room2 (c_X6_ranked_f (cfl := 0) (k := k) (K := Kn) (r := r) (w := w) (wx_at0 hE rfl) (wx_at hE 7 rfl) (wx_at hE 10 rfl) (wx_at hE 11 rfl) (wx_at hE 12 rfl) z0 z1 z2 z3 z4 z5 z6 ((by omega)) ((by omega)) (hs) (hso) (g1) (g2) (g3) (g4) (g5) (hr31) (hrr) (w1)) (Nat.le_of_ble_eq_true rfl) (Nat.le_of_ble_eq_true rfl) (Nat.le_of_ble_eq_true rfl) (Nat.le_of_ble_eq_true rfl)) (fun v n' σ' hp => ?_)
            obtain ⟨e1, e2, e3⟩ := hp
            exact px_read hW (by rw [← e1] <;> rfl) e2 e3
          · obtain ⟨xat, xreason, xdone, xkind, xn, xstrength, fs, fwas, fbegun, faside, ftext, fsize, fburnt, fnext, ffar, fthen, fqueue, frankAt, fturnAt, hE, hMR, hMW, hMT⟩ := id hM
            refine GM.post (GM.room2 (GM.heap hE (c_X7_ranked_f (k := k) (r := r) (w := w)  (hMR.1) (hA.1) (hk) ((hMR.2.2.2.2 k hk).1) ((hA.2.2 k hk)) (hr31) (w1) (hrr))) (Nat.le_of_ble_eq_true rfl) (Nat.le_of_ble_eq_true rfl) (Nat.le_of_ble_eq_true rfl) (Nat.le_of_ble_eq_true rfl)) (fun v n' σ' hp => ?_)
            obtain ⟨e1, e2, f2, g2, e3⟩ := hp
            exact pm_mk (by rw [← e1] <;> rfl) e2 e3 rfl rfl hMR hMW hMT
        · obtain ⟨o2, sd2, ho2, hs2, rfl⟩ : ∃ o2 sd2, o2 < fac (aCk (zA Z) k) ∧ sd2 < sm (sid (aKd (zA Z) k)) (aCk (zA Z) k) ∧ r = rk (sid (aKd (zA Z) k)) (aCk (zA Z) k) o2 sd2 := ⟨_, _, oR_lt (by omega), sR_lt, rk_R _ _ _⟩
          refine ⟨(nI (if w = 0 then cd (aCk (zA Z) k) o2 else sd2)), Z, hZ, fun n σ mi hW => Or.inl ?_, fun n σ hM => ?_⟩
          · obtain ⟨ph, tau, fp, fq, fx, rs, fpl, tn, op, dg, ftx, Kn, Kt, Ka, Kb, Kc, Kd, hp4, hE, hD, hBn, hSR, hmi, ⟨kn, kt, ka, kb, kc, kd⟩, hKA, hKT, hHi, hTx⟩ := id hW
            have eN : kN Kn = aN (zA Z) := hKA.1
            obtain ⟨sa, la0, hs, hsa⟩ := hKT k hk
            obtain ⟨hso, hBs, la, cfl, sv, f1, f2, f3, f4, f5, hBl, z0, z1, z2, z3, z4, z5, z6, g1, g2, g3, g4, g5⟩ := hD.shp hsa
            refine GM.post (GM.room2 (c_X6_ranked_y (cfl := 0) (k := k) (K := Kn) (r := (rk (sid (aKd (zA Z) k)) (aCk (zA Z) k) o2 sd2)) (w := w) (wx_at0 hE rfl) (wx_at hE 7 rfl) (wx_at hE 10 rfl) (wx_at hE 11 rfl) (wx_at hE 12 rfl) z0 z1 z2 z3 z4 z5 z6 ((by omega)) ((by omega)) (hs) (hso) (g1) (g2) (g3) (g4) (g5) ((by omega)) (w1)) (Nat.le_of_ble_eq_true rfl) (Nat.le_of_ble_eq_true rfl) (Nat.le_of_ble_eq_true rfl) (Nat.le_of_ble_eq_true rfl)) (fun v n' σ' hp => ?_)
            obtain ⟨e1, e2, e3⟩ := hp
            exact px_read hW (by rw [← e1] <;> rw [oR_rk hs2, sR_rk hs2]) e2 e3
          · obtain ⟨xat, xreason, xdone, xkind, xn, xstrength, fs, fwas, fbegun, faside, ftext, fsize, fburnt, fnext, ffar, fthen, fqueue, frankAt, fturnAt, hE, hMR, hMW, hMT⟩ := id hM
            refine GM.post (GM.room2 (GM.heap hE (c_X7_ranked_y (k := k) (o2 := o2) (sd2 := sd2) (w := w)  (hMR.1) (hA.1) (hk) ((hMR.2.2.2.2 k hk).1) ((hA.2.2 k hk)) (w1) (ho2) (hs2))) (Nat.le_of_ble_eq_true rfl) (Nat.le_of_ble_eq_true rfl) (Nat.le_of_ble_eq_true rfl) (Nat.le_of_ble_eq_true rfl)) (fun v n' σ' hp => ?_)
            obtain ⟨e1, e2, f2, g2, e3⟩ := hp
            exact pm_mk (by rw [← e1] <;> rfl) e2 e3 rfl rfl hMR hMW hMT

set_option maxRecDepth 100000 in
set_option maxHeartbeats 4000000 in
theorem op_fewest {l : Launch} {G : gG} {b0 : Nat} {Z : ZT} (hZ : ZOK Z) (x y : Int32) : ∃ (ans : Int32) (Z2 : ZT), ZOK Z2 ∧ (∀ n σ mi, WX G b0 n σ Z mi → (GM l G yX6_fewest cX6_fewest 7 (some .int) rmC n σ [.ref b0, .int x, .int y] (PX G b0 n σ mi Z2 ans)) ∨ (1 ≤ mi ∧ GM l G yX6_fewest cX6_fewest 7 (some .int) rmS n σ [.ref b0, .int x, .int y] (PX G b0 n σ (mi - 1) Z2 ans))) ∧ (∀ n σ, WM G b0 σ Z → GM l G yX7_fewest cX7_fewest 6 (some .int) rmM n σ [.ref (b0 + 44), .int x, .int y] (PM G b0 n σ Z2 ans)) := by
  obtain ⟨hA, hHA, hS4, hL50, hX128⟩ := id hZ
  have hN5 := hA.1
  cases hS : isS x (aN (zA Z)) with
  | false =>
    refine ⟨(-1000001), Z, hZ, fun n σ mi hW => Or.inl ?_, fun n σ hM => ?_⟩
    · obtain ⟨ph, tau, fp, fq, fx, rs, fpl, tn, op, dg, ftx, Kn, Kt, Ka, Kb, Kc, Kd, hp4, hE, hD, hBn, hSR, hmi, ⟨kn, kt, ka, kb, kc, kd⟩, hKA, hKT, hHi, hTx⟩ := id hW
      have eN : kN Kn = aN (zA Z) := hKA.1
      refine GM.post (GM.room2 (c_X6_fewest_x (K := Kn) (wx_at0 hE rfl) (wx_at hE 7 rfl) ((by omega)) (by rw [eN]; exact hS)) (Nat.le_of_ble_eq_true rfl) (Nat.le_of_ble_eq_true rfl) (Nat.le_of_ble_eq_true rfl) (Nat.le_of_ble_eq_true rfl)) (fun v n' σ' hp => ?_)
      obtain ⟨e1, e2, e3⟩ := hp
      exact px_read hW (by rw [← e1] <;> rfl) e2 e3
    · obtain ⟨xat, xreason, xdone, xkind, xn, xstrength, fs, fwas, fbegun, faside, ftext, fsize, fburnt, fnext, ffar, fthen, fqueue, frankAt, fturnAt, hE, hMR, hMW, hMT⟩ := id hM
      refine GM.post (GM.room2 (GM.heap hE (c_X7_fewest_x (ns := aN (zA Z))  (hMR.1) (hS))) (Nat.le_of_ble_eq_true rfl) (Nat.le_of_ble_eq_true rfl) (Nat.le_of_ble_eq_true rfl) (Nat.le_of_ble_eq_true rfl)) (fun v n' σ' hp => ?_)
      obtain ⟨e1, e2, e3⟩ := hp
      exact pm_mk (by rw [← e1] <;> rfl) e2 e3 rfl rfl hMR hMW hMT
  | true =>
    obtain ⟨k, hk, rfl⟩ := isS_of hN5 hS
    have hvk := hA.2.2 k hk
    have hN6 := hvk.1.N
    have hN1 := hvk.1.2.1
    have hsd := hvk.2.2
    cases hy : decide (nI 0 ≤ y ∧ y ≤ nI 1) with
    | false =>
      refine ⟨(-1000001), Z, hZ, fun n σ mi hW => Or.inl ?_, fun n σ hM => ?_⟩
      · obtain ⟨ph, tau, fp, fq, fx, rs, fpl, tn, op, dg, ftx, Kn, Kt, Ka, Kb, Kc, Kd, hp4, hE, hD, hBn, hSR, hmi, ⟨kn, kt, ka, kb, kc, kd⟩, hKA, hKT, hHi, hTx⟩ := id hW
        have eN : kN Kn = aN (zA Z) := hKA.1
        obtain ⟨sa, la0, hs, hsa⟩ := hKT k hk
        obtain ⟨hso, hBs, la, cfl, sv, f1, f2, f3, f4, f5, hBl, z0, z1, z2, z3, z4, z5, z6, g1, g2, g3, g4, g5⟩ := hD.shp hsa
        refine GM.post (GM.room2 (c_X6_fewest_z (k := k) (K := Kn) (wx_at0 hE rfl) (wx_at hE 7 rfl) (wx_at hE 10 rfl) ((by omega)) ((by omega)) (hs) (hy)) (Nat.le_of_ble_eq_true rfl) (Nat.le_of_ble_eq_true rfl) (Nat.le_of_ble_eq_true rfl) (Nat.le_of_ble_eq_true rfl)) (fun v n' σ' hp => ?_)
        obtain ⟨e1, e2, e3⟩ := hp
        exact px_read hW (by rw [← e1] <;> rfl) e2 e3
      · obtain ⟨xat, xreason, xdone, xkind, xn, xstrength, fs, fwas, fbegun, faside, ftext, fsize, fburnt, fnext, ffar, fthen, fqueue, frankAt, fturnAt, hE, hMR, hMW, hMT⟩ := id hM
        refine GM.post (GM.room2 (GM.heap hE (c_X7_fewest_z (k := k)  (hMR.1) (hA.1) (hk) ((hMR.2.2.2.2 k hk).1) ((hA.2.2 k hk)) (hy))) (Nat.le_of_ble_eq_true rfl) (Nat.le_of_ble_eq_true rfl) (Nat.le_of_ble_eq_true rfl) (Nat.le_of_ble_eq_true rfl)) (fun v n' σ' hp => ?_)
        obtain ⟨e1, e2, e3⟩ := hp
        exact pm_mk (by rw [← e1] <;> rfl) e2 e3 rfl rfl hMR hMW hMT
    | true =>
      obtain ⟨w, w0, w1, rfl⟩ := in_of (by omega) (by omega) hy
      by_cases h9 : dst false (aKd (zA Z) k) (aSr (zA Z) k) (aCk (zA Z) k) (rk (sid (aKd (zA Z) k)) (aCk (zA Z) k) (aO (zA Z) k) (aSd (zA Z) k)) ≤ 9
      · rcases (show w = 0 ∨ w = 1 by omega) with rfl | rfl
        · refine ⟨(nI (dst false (aKd (zA Z) k) (aSr (zA Z) k) (aCk (zA Z) k) (rk (sid (aKd (zA Z) k)) (aCk (zA Z) k) (aO (zA Z) k) (aSd (zA Z) k)))), Z, hZ, fun n σ mi hW => Or.inl ?_, fun n σ hM => ?_⟩
          · obtain ⟨ph, tau, fp, fq, fx, rs, fpl, tn, op, dg, ftx, Kn, Kt, Ka, Kb, Kc, Kd, hp4, hE, hD, hBn, hSR, hmi, ⟨kn, kt, ka, kb, kc, kd⟩, hKA, hKT, hHi, hTx⟩ := id hW
            have eN : kN Kn = aN (zA Z) := hKA.1
            obtain ⟨sa, la0, hs, hsa⟩ := hKT k hk
            obtain ⟨hso, hBs, la, cfl, sv, f1, f2, f3, f4, f5, hBl, z0, z1, z2, z3, z4, z5, z6, g1, g2, g3, g4, g5⟩ := hD.shp hsa
            refine GM.post (GM.room2 (c_X6_fewest_c (k := k) (K := Kn) (tau := tau) (B := b0 + 58) (la := la0) (kd := (aKd (zA Z) k)) (N := (aCk (zA Z) k)) (sr := (aSr (zA Z) k)) (r := (rk (sid (aKd (zA Z) k)) (aCk (zA Z) k) (aO (zA Z) k) (aSd (zA Z) k))) (wx_at0 hE rfl) (wx_at hE 7 rfl) (wx_at hE 10 rfl) (wx_at hE 11 rfl) (hD) (hBn) ((by omega)) (hsa) (hvk.1) ((by omega)) ((by omega)) (hs) ((hKA.2.2.2.2 k hk).1) ((rk_at hA hk rfl rfl)) (h9)) (Nat.le_of_ble_eq_true rfl) (Nat.le_of_ble_eq_true rfl) (Nat.le_of_ble_eq_true rfl) (Nat.le_of_ble_eq_true rfl)) (fun v n' σ' hp => ?_)
            obtain ⟨tau2, e1, hn1, hn2, hfr, hD9, hmo9⟩ := hp
            exact px_q hE hBn hSR hmi ⟨kn, kt, ka, kb, kc, kd⟩ hKA hKT hHi hTx (by rw [← e1] <;> rfl) hn1 hfr hD9 hmo9
          · obtain ⟨xat, xreason, xdone, xkind, xn, xstrength, fs, fwas, fbegun, faside, ftext, fsize, fburnt, fnext, ffar, fthen, fqueue, frankAt, fturnAt, hE, hMR, hMW, hMT⟩ := id hM
            refine GM.post (GM.room2 (GM.heap hE (c_X7_fewest_c (dd := (dst false (aKd (zA Z) k) (aSr (zA Z) k) (aCk (zA Z) k))) (k := k)  (hMR.1) (hA.1) (hk) ((hMR.2.2.2.2 k hk).1) ((hA.2.2 k hk)) ((dst_ok false hvk.1)) (h9))) (Nat.le_of_ble_eq_true rfl) (Nat.le_of_ble_eq_true rfl) (Nat.le_of_ble_eq_true rfl) (Nat.le_of_ble_eq_true rfl)) (fun v n' σ' hp => ?_)
            obtain ⟨e1, e2, f3, fr2, q3, f2, g2, e3⟩ := hp
            exact pm_mk (by rw [← e1] <;> rfl) e2 e3 rfl rfl hMR hMW hMT
        · refine ⟨(nI (fwR (aKd (zA Z) k) (aSr (zA Z) k) (aCk (zA Z) k) (dst false (aKd (zA Z) k) (aSr (zA Z) k) (aCk (zA Z) k)) (dst false (aKd (zA Z) k) (aSr (zA Z) k) (aCk (zA Z) k) (rk (sid (aKd (zA Z) k)) (aCk (zA Z) k) (aO (zA Z) k) (aSd (zA Z) k))) (rk (sid (aKd (zA Z) k)) (aCk (zA Z) k) (aO (zA Z) k) (aSd (zA Z) k)) 0)), Z, hZ, fun n σ mi hW => Or.inl ?_, fun n σ hM => ?_⟩
          · obtain ⟨ph, tau, fp, fq, fx, rs, fpl, tn, op, dg, ftx, Kn, Kt, Ka, Kb, Kc, Kd, hp4, hE, hD, hBn, hSR, hmi, ⟨kn, kt, ka, kb, kc, kd⟩, hKA, hKT, hHi, hTx⟩ := id hW
            have eN : kN Kn = aN (zA Z) := hKA.1
            obtain ⟨sa, la0, hs, hsa⟩ := hKT k hk
            obtain ⟨hso, hBs, la, cfl, sv, f1, f2, f3, f4, f5, hBl, z0, z1, z2, z3, z4, z5, z6, g1, g2, g3, g4, g5⟩ := hD.shp hsa
            refine GM.post (GM.room2 (c_X6_fewest_w (k := k) (K := Kn) (tau := tau) (B := b0 + 58) (la := la0) (kd := (aKd (zA Z) k)) (N := (aCk (zA Z) k)) (sr := (aSr (zA Z) k)) (r := (rk (sid (aKd (zA Z) k)) (aCk (zA Z) k) (aO (zA Z) k) (aSd (zA Z) k))) (wx_at0 hE rfl) (wx_at hE 7 rfl) (wx_at hE 10 rfl) (wx_at hE 11 rfl) (hD) (hBn) ((by omega)) (hsa) (hvk.1) ((by omega)) ((by omega)) (hs) ((hKA.2.2.2.2 k hk).1) ((rk_at hA hk rfl rfl)) (h9)) (Nat.le_of_ble_eq_true rfl) (Nat.le_of_ble_eq_true rfl) (Nat.le_of_ble_eq_true rfl) (Nat.le_of_ble_eq_true rfl)) (fun v n' σ' hp => ?_)
            obtain ⟨tau2, e1, hn1, hn2, hfr, hD9, hmo9⟩ := hp
            exact px_q hE hBn hSR hmi ⟨kn, kt, ka, kb, kc, kd⟩ hKA hKT hHi hTx (by rw [← e1] <;> rfl) hn1 hfr hD9 hmo9
          · obtain ⟨xat, xreason, xdone, xkind, xn, xstrength, fs, fwas, fbegun, faside, ftext, fsize, fburnt, fnext, ffar, fthen, fqueue, frankAt, fturnAt, hE, hMR, hMW, hMT⟩ := id hM
            refine GM.post (GM.room2 (GM.heap hE (c_X7_fewest_w (dd := (dst false (aKd (zA Z) k) (aSr (zA Z) k) (aCk (zA Z) k))) (k := k)  (hMR.1) (hA.1) (hk) ((hMR.2.2.2.2 k hk).1) ((hA.2.2 k hk)) ((dst_ok false hvk.1)) (h9))) (Nat.le_of_ble_eq_true rfl) (Nat.le_of_ble_eq_true rfl) (Nat.le_of_ble_eq_true rfl) (Nat.le_of_ble_eq_true rfl)) (fun v n' σ' hp => ?_)
            obtain ⟨e1, e2, f3, fr2, q3, f2, g2, e3⟩ := hp
            exact pm_mk (by rw [← e1] <;> rfl) e2 e3 rfl rfl hMR hMW hMT
      · refine ⟨(-1000004), Z, hZ, fun n σ mi hW => Or.inl ?_, fun n σ hM => ?_⟩
        · obtain ⟨ph, tau, fp, fq, fx, rs, fpl, tn, op, dg, ftx, Kn, Kt, Ka, Kb, Kc, Kd, hp4, hE, hD, hBn, hSR, hmi, ⟨kn, kt, ka, kb, kc, kd⟩, hKA, hKT, hHi, hTx⟩ := id hW
          have eN : kN Kn = aN (zA Z) := hKA.1
          obtain ⟨sa, la0, hs, hsa⟩ := hKT k hk
          obtain ⟨hso, hBs, la, cfl, sv, f1, f2, f3, f4, f5, hBl, z0, z1, z2, z3, z4, z5, z6, g1, g2, g3, g4, g5⟩ := hD.shp hsa
          refine GM.post (GM.room2 (c_X6_fewest_f (k := k) (K := Kn) (tau := tau) (B := b0 + 58) (la := la0) (kd := (aKd (zA Z) k)) (N := (aCk (zA Z) k)) (sr := (aSr (zA Z) k)) (r := (rk (sid (aKd (zA Z) k)) (aCk (zA Z) k) (aO (zA Z) k) (aSd (zA Z) k))) (w := w) (wx_at0 hE rfl) (wx_at hE 7 rfl) (wx_at hE 10 rfl) (wx_at hE 11 rfl) (hD) (hBn) ((by omega)) (hsa) (hvk.1) ((by omega)) ((by omega)) (hs) ((hKA.2.2.2.2 k hk).1) ((rk_at hA hk rfl rfl)) (w1) ((by omega))) (Nat.le_of_ble_eq_true rfl) (Nat.le_of_ble_eq_true rfl) (Nat.le_of_ble_eq_true rfl) (Nat.le_of_ble_eq_true rfl)) (fun v n' σ' hp => ?_)
          obtain ⟨tau2, e1, hn1, hn2, hfr, hD9, hmo9⟩ := hp
          exact px_q hE hBn hSR hmi ⟨kn, kt, ka, kb, kc, kd⟩ hKA hKT hHi hTx (by rw [← e1] <;> rfl) hn1 hfr hD9 hmo9
        · obtain ⟨xat, xreason, xdone, xkind, xn, xstrength, fs, fwas, fbegun, faside, ftext, fsize, fburnt, fnext, ffar, fthen, fqueue, frankAt, fturnAt, hE, hMR, hMW, hMT⟩ := id hM
          refine GM.post (GM.room2 (GM.heap hE (c_X7_fewest_f (dd := (dst false (aKd (zA Z) k) (aSr (zA Z) k) (aCk (zA Z) k))) (k := k) (w := w)  (hMR.1) (hA.1) (hk) ((hMR.2.2.2.2 k hk).1) ((hA.2.2 k hk)) ((dst_ok false hvk.1)) (w1) ((by omega)))) (Nat.le_of_ble_eq_true rfl) (Nat.le_of_ble_eq_true rfl) (Nat.le_of_ble_eq_true rfl) (Nat.le_of_ble_eq_true rfl)) (fun v n' σ' hp => ?_)
          obtain ⟨e1, e2, f3, fr2, q3, f2, g2, e3⟩ := hp
          exact pm_mk (by rw [← e1] <;> rfl) e2 e3 rfl rfl hMR hMW hMT

set_option maxRecDepth 100000 in
set_option maxHeartbeats 4000000 in
theorem op_leastWork {l : Launch} {G : gG} {b0 : Nat} {Z : ZT} (hZ : ZOK Z) (x : Int32) : ∃ (ans : Int32) (Z2 : ZT), ZOK Z2 ∧ (∀ n σ mi, WX G b0 n σ Z mi → (GM l G yX6_leastWork cX6_leastWork 4 (some .int) rmC n σ [.ref b0, .int x] (PX G b0 n σ mi Z2 ans)) ∨ (1 ≤ mi ∧ GM l G yX6_leastWork cX6_leastWork 4 (some .int) rmS n σ [.ref b0, .int x] (PX G b0 n σ (mi - 1) Z2 ans))) ∧ (∀ n σ, WM G b0 σ Z → GM l G yX7_leastWork cX7_leastWork 7 (some .int) rmM n σ [.ref (b0 + 44), .int x] (PM G b0 n σ Z2 ans)) := by
  obtain ⟨hA, hHA, hS4, hL50, hX128⟩ := id hZ
  have hN5 := hA.1
  cases hS : isS x (aN (zA Z)) with
  | false =>
    refine ⟨(-1000001), Z, hZ, fun n σ mi hW => Or.inl ?_, fun n σ hM => ?_⟩
    · obtain ⟨ph, tau, fp, fq, fx, rs, fpl, tn, op, dg, ftx, Kn, Kt, Ka, Kb, Kc, Kd, hp4, hE, hD, hBn, hSR, hmi, ⟨kn, kt, ka, kb, kc, kd⟩, hKA, hKT, hHi, hTx⟩ := id hW
      have eN : kN Kn = aN (zA Z) := hKA.1
      refine GM.post (GM.room2 (c_X6_leastWork_x (K := Kn) (wx_at0 hE rfl) (wx_at hE 7 rfl) ((by omega)) (by rw [eN]; exact hS)) (Nat.le_of_ble_eq_true rfl) (Nat.le_of_ble_eq_true rfl) (Nat.le_of_ble_eq_true rfl) (Nat.le_of_ble_eq_true rfl)) (fun v n' σ' hp => ?_)
      obtain ⟨e1, e2, e3⟩ := hp
      exact px_read hW (by rw [← e1] <;> rfl) e2 e3
    · obtain ⟨xat, xreason, xdone, xkind, xn, xstrength, fs, fwas, fbegun, faside, ftext, fsize, fburnt, fnext, ffar, fthen, fqueue, frankAt, fturnAt, hE, hMR, hMW, hMT⟩ := id hM
      refine GM.post (GM.room2 (GM.heap hE (c_X7_leastWork_x (ns := aN (zA Z))  (hMR.1) (hS))) (Nat.le_of_ble_eq_true rfl) (Nat.le_of_ble_eq_true rfl) (Nat.le_of_ble_eq_true rfl) (Nat.le_of_ble_eq_true rfl)) (fun v n' σ' hp => ?_)
      obtain ⟨e1, e2, e3⟩ := hp
      exact pm_mk (by rw [← e1] <;> rfl) e2 e3 rfl rfl hMR hMW hMT
  | true =>
    obtain ⟨k, hk, rfl⟩ := isS_of hN5 hS
    have hvk := hA.2.2 k hk
    have hN6 := hvk.1.N
    have hN1 := hvk.1.2.1
    have hsd := hvk.2.2
    refine ⟨(lwA (dst true (aKd (zA Z) k) (aSr (zA Z) k) (aCk (zA Z) k) (rk (sid (aKd (zA Z) k)) (aCk (zA Z) k) (aO (zA Z) k) (aSd (zA Z) k)))), Z, hZ, fun n σ mi hW => Or.inl ?_, fun n σ hM => ?_⟩
    · obtain ⟨ph, tau, fp, fq, fx, rs, fpl, tn, op, dg, ftx, Kn, Kt, Ka, Kb, Kc, Kd, hp4, hE, hD, hBn, hSR, hmi, ⟨kn, kt, ka, kb, kc, kd⟩, hKA, hKT, hHi, hTx⟩ := id hW
      have eN : kN Kn = aN (zA Z) := hKA.1
      obtain ⟨sa, la0, hs, hsa⟩ := hKT k hk
      obtain ⟨hso, hBs, la, cfl, sv, f1, f2, f3, f4, f5, hBl, z0, z1, z2, z3, z4, z5, z6, g1, g2, g3, g4, g5⟩ := hD.shp hsa
      refine GM.post (GM.room2 (c_X6_leastWork_y (k := k) (K := Kn) (tau := tau) (B := b0 + 58) (la := la0) (kd := (aKd (zA Z) k)) (N := (aCk (zA Z) k)) (sr := (aSr (zA Z) k)) (r := (rk (sid (aKd (zA Z) k)) (aCk (zA Z) k) (aO (zA Z) k) (aSd (zA Z) k))) (wx_at0 hE rfl) (wx_at hE 7 rfl) (wx_at hE 10 rfl) (wx_at hE 11 rfl) (hD) (hBn) ((by omega)) (hsa) (hvk.1) ((by omega)) ((by omega)) (hs) ((hKA.2.2.2.2 k hk).1) ((rk_at hA hk rfl rfl))) (Nat.le_of_ble_eq_true rfl) (Nat.le_of_ble_eq_true rfl) (Nat.le_of_ble_eq_true rfl) (Nat.le_of_ble_eq_true rfl)) (fun v n' σ' hp => ?_)
      obtain ⟨tau2, e1, hn1, hn2, hfr, hD9, hmo9⟩ := hp
      exact px_q hE hBn hSR hmi ⟨kn, kt, ka, kb, kc, kd⟩ hKA hKT hHi hTx (by rw [← e1] <;> rfl) hn1 hfr hD9 hmo9
    · obtain ⟨xat, xreason, xdone, xkind, xn, xstrength, fs, fwas, fbegun, faside, ftext, fsize, fburnt, fnext, ffar, fthen, fqueue, frankAt, fturnAt, hE, hMR, hMW, hMT⟩ := id hM
      refine GM.post (GM.room2 (GM.heap hE (c_X7_leastWork_y (k := k) (dw := (dst true (aKd (zA Z) k) (aSr (zA Z) k) (aCk (zA Z) k)))  (hMR.1) (hA.1) (hk) ((hMR.2.2.2.2 k hk).1) ((hA.2.2 k hk)) ((dst_ok true hvk.1)))) (Nat.le_of_ble_eq_true rfl) (Nat.le_of_ble_eq_true rfl) (Nat.le_of_ble_eq_true rfl) (Nat.le_of_ble_eq_true rfl)) (fun v n' σ' hp => ?_)
      obtain ⟨e1, e2, f3, fr2, f2, g2, e3⟩ := hp
      exact pm_mk (by rw [← e1] <;> rfl) e2 e3 rfl rfl hMR hMW hMT

set_option maxRecDepth 100000 in
set_option maxHeartbeats 4000000 in
theorem op_ways {l : Launch} {G : gG} {b0 : Nat} {Z : ZT} (hZ : ZOK Z) (x y : Int32) : ∃ (ans : Int32) (Z2 : ZT), ZOK Z2 ∧ (∀ n σ mi, WX G b0 n σ Z mi → (GM l G yX6_ways cX6_ways 4 (some .int) rmC n σ [.ref b0, .int x, .int y] (PX G b0 n σ mi Z2 ans)) ∨ (1 ≤ mi ∧ GM l G yX6_ways cX6_ways 4 (some .int) rmS n σ [.ref b0, .int x, .int y] (PX G b0 n σ (mi - 1) Z2 ans))) ∧ (∀ n σ, WM G b0 σ Z → GM l G yX7_ways cX7_ways 7 (some .int) rmM n σ [.ref (b0 + 44), .int x, .int y] (PM G b0 n σ Z2 ans)) := by
  obtain ⟨hA, hHA, hS4, hL50, hX128⟩ := id hZ
  have hN5 := hA.1
  cases hS : isS x (aN (zA Z)) with
  | false =>
    refine ⟨(-1000001), Z, hZ, fun n σ mi hW => Or.inl ?_, fun n σ hM => ?_⟩
    · obtain ⟨ph, tau, fp, fq, fx, rs, fpl, tn, op, dg, ftx, Kn, Kt, Ka, Kb, Kc, Kd, hp4, hE, hD, hBn, hSR, hmi, ⟨kn, kt, ka, kb, kc, kd⟩, hKA, hKT, hHi, hTx⟩ := id hW
      have eN : kN Kn = aN (zA Z) := hKA.1
      refine GM.post (GM.room2 (c_X6_ways_x (K := Kn) (wx_at0 hE rfl) (wx_at hE 7 rfl) ((by omega)) (by rw [eN]; exact hS)) (Nat.le_of_ble_eq_true rfl) (Nat.le_of_ble_eq_true rfl) (Nat.le_of_ble_eq_true rfl) (Nat.le_of_ble_eq_true rfl)) (fun v n' σ' hp => ?_)
      obtain ⟨e1, e2, e3⟩ := hp
      exact px_read hW (by rw [← e1] <;> rfl) e2 e3
    · obtain ⟨xat, xreason, xdone, xkind, xn, xstrength, fs, fwas, fbegun, faside, ftext, fsize, fburnt, fnext, ffar, fthen, fqueue, frankAt, fturnAt, hE, hMR, hMW, hMT⟩ := id hM
      refine GM.post (GM.room2 (GM.heap hE (c_X7_ways_x (ns := aN (zA Z))  (hMR.1) (hS))) (Nat.le_of_ble_eq_true rfl) (Nat.le_of_ble_eq_true rfl) (Nat.le_of_ble_eq_true rfl) (Nat.le_of_ble_eq_true rfl)) (fun v n' σ' hp => ?_)
      obtain ⟨e1, e2, e3⟩ := hp
      exact pm_mk (by rw [← e1] <;> rfl) e2 e3 rfl rfl hMR hMW hMT
  | true =>
    obtain ⟨k, hk, rfl⟩ := isS_of hN5 hS
    have hvk := hA.2.2 k hk
    have hN6 := hvk.1.N
    have hN1 := hvk.1.2.1
    have hsd := hvk.2.2
    cases hy : decide (nI 0 ≤ y ∧ y ≤ nI 5) with
    | false =>
      refine ⟨(-1000001), Z, hZ, fun n σ mi hW => Or.inl ?_, fun n σ hM => ?_⟩
      · obtain ⟨ph, tau, fp, fq, fx, rs, fpl, tn, op, dg, ftx, Kn, Kt, Ka, Kb, Kc, Kd, hp4, hE, hD, hBn, hSR, hmi, ⟨kn, kt, ka, kb, kc, kd⟩, hKA, hKT, hHi, hTx⟩ := id hW
        have eN : kN Kn = aN (zA Z) := hKA.1
        obtain ⟨sa, la0, hs, hsa⟩ := hKT k hk
        obtain ⟨hso, hBs, la, cfl, sv, f1, f2, f3, f4, f5, hBl, z0, z1, z2, z3, z4, z5, z6, g1, g2, g3, g4, g5⟩ := hD.shp hsa
        refine GM.post (GM.room2 (c_X6_ways_z (k := k) (K := Kn) (wx_at0 hE rfl) (wx_at hE 7 rfl) (wx_at hE 10 rfl) ((by omega)) ((by omega)) (hs) (hy)) (Nat.le_of_ble_eq_true rfl) (Nat.le_of_ble_eq_true rfl) (Nat.le_of_ble_eq_true rfl) (Nat.le_of_ble_eq_true rfl)) (fun v n' σ' hp => ?_)
        obtain ⟨e1, e2, e3⟩ := hp
        exact px_read hW (by rw [← e1] <;> rfl) e2 e3
      · obtain ⟨xat, xreason, xdone, xkind, xn, xstrength, fs, fwas, fbegun, faside, ftext, fsize, fburnt, fnext, ffar, fthen, fqueue, frankAt, fturnAt, hE, hMR, hMW, hMT⟩ := id hM
        refine GM.post (GM.room2 (GM.heap hE (c_X7_ways_z (k := k)  (hMR.1) (hA.1) (hk) ((hMR.2.2.2.2 k hk).1) ((hA.2.2 k hk)) (hy))) (Nat.le_of_ble_eq_true rfl) (Nat.le_of_ble_eq_true rfl) (Nat.le_of_ble_eq_true rfl) (Nat.le_of_ble_eq_true rfl)) (fun v n' σ' hp => ?_)
        obtain ⟨e1, e2, e3⟩ := hp
        exact pm_mk (by rw [← e1] <;> rfl) e2 e3 rfl rfl hMR hMW hMT
    | true =>
      obtain ⟨w, w0, w1, rfl⟩ := in_of (by omega) (by omega) hy
      rcases (show w = 0 ∨ w = 1 ∨ w = 2 ∨ w = 3 ∨ w = 4 ∨ w = 5 by omega) with rfl | rfl | rfl | rfl | rfl | rfl
      · refine ⟨(nI (wy (aKd (zA Z) k) (aSr (zA Z) k) (aCk (zA Z) k) 0 (rk (sid (aKd (zA Z) k)) (aCk (zA Z) k) (aO (zA Z) k) (aSd (zA Z) k)))), Z, hZ, fun n σ mi hW => Or.inl ?_, fun n σ hM => ?_⟩
        · obtain ⟨ph, tau, fp, fq, fx, rs, fpl, tn, op, dg, ftx, Kn, Kt, Ka, Kb, Kc, Kd, hp4, hE, hD, hBn, hSR, hmi, ⟨kn, kt, ka, kb, kc, kd⟩, hKA, hKT, hHi, hTx⟩ := id hW
          have eN : kN Kn = aN (zA Z) := hKA.1
          obtain ⟨sa, la0, hs, hsa⟩ := hKT k hk
          obtain ⟨hso, hBs, la, cfl, sv, f1, f2, f3, f4, f5, hBl, z0, z1, z2, z3, z4, z5, z6, g1, g2, g3, g4, g5⟩ := hD.shp hsa
          refine GM.post (GM.room2 (c_X6_ways_y0 (k := k) (K := Kn) (tau := tau) (B := b0 + 58) (la := la0) (kd := (aKd (zA Z) k)) (N := (aCk (zA Z) k)) (sr := (aSr (zA Z) k)) (r := (rk (sid (aKd (zA Z) k)) (aCk (zA Z) k) (aO (zA Z) k) (aSd (zA Z) k))) (wx_at0 hE rfl) (wx_at hE 7 rfl) (wx_at hE 10 rfl) (wx_at hE 11 rfl) (hD) (hBn) ((by omega)) (hsa) (hvk.1) ((by omega)) ((by omega)) (hs) ((hKA.2.2.2.2 k hk).1) ((rk_at hA hk rfl rfl))) (Nat.le_of_ble_eq_true rfl) (Nat.le_of_ble_eq_true rfl) (Nat.le_of_ble_eq_true rfl) (Nat.le_of_ble_eq_true rfl)) (fun v n' σ' hp => ?_)
          obtain ⟨tau2, e1, hn1, hn2, hfr, hD9, hmo9⟩ := hp
          exact px_q hE hBn hSR hmi ⟨kn, kt, ka, kb, kc, kd⟩ hKA hKT hHi hTx (by rw [← e1] <;> rfl) hn1 hfr hD9 hmo9
        · obtain ⟨xat, xreason, xdone, xkind, xn, xstrength, fs, fwas, fbegun, faside, ftext, fsize, fburnt, fnext, ffar, fthen, fqueue, frankAt, fturnAt, hE, hMR, hMW, hMT⟩ := id hM
          refine GM.post (GM.room2 (GM.heap hE (c_X7_ways_y (k := k) (w := 0)  (hMR.1) (hA.1) (hk) ((hMR.2.2.2.2 k hk).1) ((hA.2.2 k hk)) (by omega))) (Nat.le_of_ble_eq_true rfl) (Nat.le_of_ble_eq_true rfl) (Nat.le_of_ble_eq_true rfl) (Nat.le_of_ble_eq_true rfl)) (fun v n' σ' hp => ?_)
          obtain ⟨e1, e2, fr2, th9, f3, f2, g2, e3⟩ := hp
          exact pm_mk (by rw [← e1] <;> rfl) e2 e3 rfl rfl hMR hMW hMT
      · refine ⟨(nI (wy (aKd (zA Z) k) (aSr (zA Z) k) (aCk (zA Z) k) 1 (rk (sid (aKd (zA Z) k)) (aCk (zA Z) k) (aO (zA Z) k) (aSd (zA Z) k)))), Z, hZ, fun n σ mi hW => Or.inl ?_, fun n σ hM => ?_⟩
        · obtain ⟨ph, tau, fp, fq, fx, rs, fpl, tn, op, dg, ftx, Kn, Kt, Ka, Kb, Kc, Kd, hp4, hE, hD, hBn, hSR, hmi, ⟨kn, kt, ka, kb, kc, kd⟩, hKA, hKT, hHi, hTx⟩ := id hW
          have eN : kN Kn = aN (zA Z) := hKA.1
          obtain ⟨sa, la0, hs, hsa⟩ := hKT k hk
          obtain ⟨hso, hBs, la, cfl, sv, f1, f2, f3, f4, f5, hBl, z0, z1, z2, z3, z4, z5, z6, g1, g2, g3, g4, g5⟩ := hD.shp hsa
          refine GM.post (GM.room2 (c_X6_ways_y1 (k := k) (K := Kn) (tau := tau) (B := b0 + 58) (la := la0) (kd := (aKd (zA Z) k)) (N := (aCk (zA Z) k)) (sr := (aSr (zA Z) k)) (r := (rk (sid (aKd (zA Z) k)) (aCk (zA Z) k) (aO (zA Z) k) (aSd (zA Z) k))) (wx_at0 hE rfl) (wx_at hE 7 rfl) (wx_at hE 10 rfl) (wx_at hE 11 rfl) (hD) (hBn) ((by omega)) (hsa) (hvk.1) ((by omega)) ((by omega)) (hs) ((hKA.2.2.2.2 k hk).1) ((rk_at hA hk rfl rfl))) (Nat.le_of_ble_eq_true rfl) (Nat.le_of_ble_eq_true rfl) (Nat.le_of_ble_eq_true rfl) (Nat.le_of_ble_eq_true rfl)) (fun v n' σ' hp => ?_)
          obtain ⟨tau2, e1, hn1, hn2, hfr, hD9, hmo9⟩ := hp
          exact px_q hE hBn hSR hmi ⟨kn, kt, ka, kb, kc, kd⟩ hKA hKT hHi hTx (by rw [← e1] <;> rfl) hn1 hfr hD9 hmo9
        · obtain ⟨xat, xreason, xdone, xkind, xn, xstrength, fs, fwas, fbegun, faside, ftext, fsize, fburnt, fnext, ffar, fthen, fqueue, frankAt, fturnAt, hE, hMR, hMW, hMT⟩ := id hM
          refine GM.post (GM.room2 (GM.heap hE (c_X7_ways_y (k := k) (w := 1)  (hMR.1) (hA.1) (hk) ((hMR.2.2.2.2 k hk).1) ((hA.2.2 k hk)) (by omega))) (Nat.le_of_ble_eq_true rfl) (Nat.le_of_ble_eq_true rfl) (Nat.le_of_ble_eq_true rfl) (Nat.le_of_ble_eq_true rfl)) (fun v n' σ' hp => ?_)
          obtain ⟨e1, e2, fr2, th9, f3, f2, g2, e3⟩ := hp
          exact pm_mk (by rw [← e1] <;> rfl) e2 e3 rfl rfl hMR hMW hMT
      · refine ⟨(nI (wy (aKd (zA Z) k) (aSr (zA Z) k) (aCk (zA Z) k) 2 (rk (sid (aKd (zA Z) k)) (aCk (zA Z) k) (aO (zA Z) k) (aSd (zA Z) k)))), Z, hZ, fun n σ mi hW => Or.inl ?_, fun n σ hM => ?_⟩
        · obtain ⟨ph, tau, fp, fq, fx, rs, fpl, tn, op, dg, ftx, Kn, Kt, Ka, Kb, Kc, Kd, hp4, hE, hD, hBn, hSR, hmi, ⟨kn, kt, ka, kb, kc, kd⟩, hKA, hKT, hHi, hTx⟩ := id hW
          have eN : kN Kn = aN (zA Z) := hKA.1
          obtain ⟨sa, la0, hs, hsa⟩ := hKT k hk
          obtain ⟨hso, hBs, la, cfl, sv, f1, f2, f3, f4, f5, hBl, z0, z1, z2, z3, z4, z5, z6, g1, g2, g3, g4, g5⟩ := hD.shp hsa
          refine GM.post (GM.room2 (c_X6_ways_y2 (k := k) (K := Kn) (tau := tau) (B := b0 + 58) (la := la0) (kd := (aKd (zA Z) k)) (N := (aCk (zA Z) k)) (sr := (aSr (zA Z) k)) (r := (rk (sid (aKd (zA Z) k)) (aCk (zA Z) k) (aO (zA Z) k) (aSd (zA Z) k))) (wx_at0 hE rfl) (wx_at hE 7 rfl) (wx_at hE 10 rfl) (wx_at hE 11 rfl) (hD) (hBn) ((by omega)) (hsa) (hvk.1) ((by omega)) ((by omega)) (hs) ((hKA.2.2.2.2 k hk).1) ((rk_at hA hk rfl rfl))) (Nat.le_of_ble_eq_true rfl) (Nat.le_of_ble_eq_true rfl) (Nat.le_of_ble_eq_true rfl) (Nat.le_of_ble_eq_true rfl)) (fun v n' σ' hp => ?_)
          obtain ⟨tau2, e1, hn1, hn2, hfr, hD9, hmo9⟩ := hp
          exact px_q hE hBn hSR hmi ⟨kn, kt, ka, kb, kc, kd⟩ hKA hKT hHi hTx (by rw [← e1] <;> rfl) hn1 hfr hD9 hmo9
        · obtain ⟨xat, xreason, xdone, xkind, xn, xstrength, fs, fwas, fbegun, faside, ftext, fsize, fburnt, fnext, ffar, fthen, fqueue, frankAt, fturnAt, hE, hMR, hMW, hMT⟩ := id hM
          refine GM.post (GM.room2 (GM.heap hE (c_X7_ways_y (k := k) (w := 2)  (hMR.1) (hA.1) (hk) ((hMR.2.2.2.2 k hk).1) ((hA.2.2 k hk)) (by omega))) (Nat.le_of_ble_eq_true rfl) (Nat.le_of_ble_eq_true rfl) (Nat.le_of_ble_eq_true rfl) (Nat.le_of_ble_eq_true rfl)) (fun v n' σ' hp => ?_)
          obtain ⟨e1, e2, fr2, th9, f3, f2, g2, e3⟩ := hp
          exact pm_mk (by rw [← e1] <;> rfl) e2 e3 rfl rfl hMR hMW hMT
      · refine ⟨(nI (wy (aKd (zA Z) k) (aSr (zA Z) k) (aCk (zA Z) k) 3 (rk (sid (aKd (zA Z) k)) (aCk (zA Z) k) (aO (zA Z) k) (aSd (zA Z) k)))), Z, hZ, fun n σ mi hW => Or.inl ?_, fun n σ hM => ?_⟩
        · obtain ⟨ph, tau, fp, fq, fx, rs, fpl, tn, op, dg, ftx, Kn, Kt, Ka, Kb, Kc, Kd, hp4, hE, hD, hBn, hSR, hmi, ⟨kn, kt, ka, kb, kc, kd⟩, hKA, hKT, hHi, hTx⟩ := id hW
          have eN : kN Kn = aN (zA Z) := hKA.1
          obtain ⟨sa, la0, hs, hsa⟩ := hKT k hk
          obtain ⟨hso, hBs, la, cfl, sv, f1, f2, f3, f4, f5, hBl, z0, z1, z2, z3, z4, z5, z6, g1, g2, g3, g4, g5⟩ := hD.shp hsa
          refine GM.post (GM.room2 (c_X6_ways_y3 (k := k) (K := Kn) (tau := tau) (B := b0 + 58) (la := la0) (kd := (aKd (zA Z) k)) (N := (aCk (zA Z) k)) (sr := (aSr (zA Z) k)) (r := (rk (sid (aKd (zA Z) k)) (aCk (zA Z) k) (aO (zA Z) k) (aSd (zA Z) k))) (wx_at0 hE rfl) (wx_at hE 7 rfl) (wx_at hE 10 rfl) (wx_at hE 11 rfl) (hD) (hBn) ((by omega)) (hsa) (hvk.1) ((by omega)) ((by omega)) (hs) ((hKA.2.2.2.2 k hk).1) ((rk_at hA hk rfl rfl))) (Nat.le_of_ble_eq_true rfl) (Nat.le_of_ble_eq_true rfl) (Nat.le_of_ble_eq_true rfl) (Nat.le_of_ble_eq_true rfl)) (fun v n' σ' hp => ?_)
          obtain ⟨tau2, e1, hn1, hn2, hfr, hD9, hmo9⟩ := hp
          exact px_q hE hBn hSR hmi ⟨kn, kt, ka, kb, kc, kd⟩ hKA hKT hHi hTx (by rw [← e1] <;> rfl) hn1 hfr hD9 hmo9
        · obtain ⟨xat, xreason, xdone, xkind, xn, xstrength, fs, fwas, fbegun, faside, ftext, fsize, fburnt, fnext, ffar, fthen, fqueue, frankAt, fturnAt, hE, hMR, hMW, hMT⟩ := id hM
          refine GM.post (GM.room2 (GM.heap hE (c_X7_ways_y (k := k) (w := 3)  (hMR.1) (hA.1) (hk) ((hMR.2.2.2.2 k hk).1) ((hA.2.2 k hk)) (by omega))) (Nat.le_of_ble_eq_true rfl) (Nat.le_of_ble_eq_true rfl) (Nat.le_of_ble_eq_true rfl) (Nat.le_of_ble_eq_true rfl)) (fun v n' σ' hp => ?_)
          obtain ⟨e1, e2, fr2, th9, f3, f2, g2, e3⟩ := hp
          exact pm_mk (by rw [← e1] <;> rfl) e2 e3 rfl rfl hMR hMW hMT
      · refine ⟨(nI (wy (aKd (zA Z) k) (aSr (zA Z) k) (aCk (zA Z) k) 4 (rk (sid (aKd (zA Z) k)) (aCk (zA Z) k) (aO (zA Z) k) (aSd (zA Z) k)))), Z, hZ, fun n σ mi hW => Or.inl ?_, fun n σ hM => ?_⟩
        · obtain ⟨ph, tau, fp, fq, fx, rs, fpl, tn, op, dg, ftx, Kn, Kt, Ka, Kb, Kc, Kd, hp4, hE, hD, hBn, hSR, hmi, ⟨kn, kt, ka, kb, kc, kd⟩, hKA, hKT, hHi, hTx⟩ := id hW
          have eN : kN Kn = aN (zA Z) := hKA.1
          obtain ⟨sa, la0, hs, hsa⟩ := hKT k hk
          obtain ⟨hso, hBs, la, cfl, sv, f1, f2, f3, f4, f5, hBl, z0, z1, z2, z3, z4, z5, z6, g1, g2, g3, g4, g5⟩ := hD.shp hsa
          refine GM.post (GM.room2 (c_X6_ways_y4 (k := k) (K := Kn) (tau := tau) (B := b0 + 58) (la := la0) (kd := (aKd (zA Z) k)) (N := (aCk (zA Z) k)) (sr := (aSr (zA Z) k)) (r := (rk (sid (aKd (zA Z) k)) (aCk (zA Z) k) (aO (zA Z) k) (aSd (zA Z) k))) (wx_at0 hE rfl) (wx_at hE 7 rfl) (wx_at hE 10 rfl) (wx_at hE 11 rfl) (hD) (hBn) ((by omega)) (hsa) (hvk.1) ((by omega)) ((by omega)) (hs) ((hKA.2.2.2.2 k hk).1) ((rk_at hA hk rfl rfl))) (Nat.le_of_ble_eq_true rfl) (Nat.le_of_ble_eq_true rfl) (Nat.le_of_ble_eq_true rfl) (Nat.le_of_ble_eq_true rfl)) (fun v n' σ' hp => ?_)
          obtain ⟨tau2, e1, hn1, hn2, hfr, hD9, hmo9⟩ := hp
          exact px_q hE hBn hSR hmi ⟨kn, kt, ka, kb, kc, kd⟩ hKA hKT hHi hTx (by rw [← e1] <;> rfl) hn1 hfr hD9 hmo9
        · obtain ⟨xat, xreason, xdone, xkind, xn, xstrength, fs, fwas, fbegun, faside, ftext, fsize, fburnt, fnext, ffar, fthen, fqueue, frankAt, fturnAt, hE, hMR, hMW, hMT⟩ := id hM
          refine GM.post (GM.room2 (GM.heap hE (c_X7_ways_y (k := k) (w := 4)  (hMR.1) (hA.1) (hk) ((hMR.2.2.2.2 k hk).1) ((hA.2.2 k hk)) (by omega))) (Nat.le_of_ble_eq_true rfl) (Nat.le_of_ble_eq_true rfl) (Nat.le_of_ble_eq_true rfl) (Nat.le_of_ble_eq_true rfl)) (fun v n' σ' hp => ?_)
          obtain ⟨e1, e2, fr2, th9, f3, f2, g2, e3⟩ := hp
          exact pm_mk (by rw [← e1] <;> rfl) e2 e3 rfl rfl hMR hMW hMT
      · refine ⟨(nI (wy (aKd (zA Z) k) (aSr (zA Z) k) (aCk (zA Z) k) 5 (rk (sid (aKd (zA Z) k)) (aCk (zA Z) k) (aO (zA Z) k) (aSd (zA Z) k)))), Z, hZ, fun n σ mi hW => Or.inl ?_, fun n σ hM => ?_⟩
        · obtain ⟨ph, tau, fp, fq, fx, rs, fpl, tn, op, dg, ftx, Kn, Kt, Ka, Kb, Kc, Kd, hp4, hE, hD, hBn, hSR, hmi, ⟨kn, kt, ka, kb, kc, kd⟩, hKA, hKT, hHi, hTx⟩ := id hW
          have eN : kN Kn = aN (zA Z) := hKA.1
          obtain ⟨sa, la0, hs, hsa⟩ := hKT k hk
          obtain ⟨hso, hBs, la, cfl, sv, f1, f2, f3, f4, f5, hBl, z0, z1, z2, z3, z4, z5, z6, g1, g2, g3, g4, g5⟩ := hD.shp hsa
          refine GM.post (GM.room2 (c_X6_ways_y5 (k := k) (K := Kn) (tau := tau) (B := b0 + 58) (la := la0) (kd := (aKd (zA Z) k)) (N := (aCk (zA Z) k)) (sr := (aSr (zA Z) k)) (r := (rk (sid (aKd (zA Z) k)) (aCk (zA Z) k) (aO (zA Z) k) (aSd (zA Z) k))) (wx_at0 hE rfl) (wx_at hE 7 rfl) (wx_at hE 10 rfl) (wx_at hE 11 rfl) (hD) (hBn) ((by omega)) (hsa) (hvk.1) ((by omega)) ((by omega)) (hs) ((hKA.2.2.2.2 k hk).1) ((rk_at hA hk rfl rfl))) (Nat.le_of_ble_eq_true rfl) (Nat.le_of_ble_eq_true rfl) (Nat.le_of_ble_eq_true rfl) (Nat.le_of_ble_eq_true rfl)) (fun v n' σ' hp => ?_)
          obtain ⟨tau2, e1, hn1, hn2, hfr, hD9, hmo9⟩ := hp
          exact px_q hE hBn hSR hmi ⟨kn, kt, ka, kb, kc, kd⟩ hKA hKT hHi hTx (by rw [← e1] <;> rfl) hn1 hfr hD9 hmo9
        · obtain ⟨xat, xreason, xdone, xkind, xn, xstrength, fs, fwas, fbegun, faside, ftext, fsize, fburnt, fnext, ffar, fthen, fqueue, frankAt, fturnAt, hE, hMR, hMW, hMT⟩ := id hM
          refine GM.post (GM.room2 (GM.heap hE (c_X7_ways_y (k := k) (w := 5)  (hMR.1) (hA.1) (hk) ((hMR.2.2.2.2 k hk).1) ((hA.2.2 k hk)) (by omega))) (Nat.le_of_ble_eq_true rfl) (Nat.le_of_ble_eq_true rfl) (Nat.le_of_ble_eq_true rfl) (Nat.le_of_ble_eq_true rfl)) (fun v n' σ' hp => ?_)
          obtain ⟨e1, e2, fr2, th9, f3, f2, g2, e3⟩ := hp
          exact pm_mk (by rw [← e1] <;> rfl) e2 e3 rfl rfl hMR hMW hMT

set_option maxRecDepth 100000 in
set_option maxHeartbeats 4000000 in
theorem op_lookedAt {l : Launch} {G : gG} {b0 : Nat} {Z : ZT} (hZ : ZOK Z) (x y : Int32) : ∃ (ans : Int32) (Z2 : ZT), ZOK Z2 ∧ (∀ n σ mi, WX G b0 n σ Z mi → (GM l G yX6_lookedAt cX6_lookedAt 4 (some .int) rmC n σ [.ref b0, .int x, .int y] (PX G b0 n σ mi Z2 ans)) ∨ (1 ≤ mi ∧ GM l G yX6_lookedAt cX6_lookedAt 4 (some .int) rmS n σ [.ref b0, .int x, .int y] (PX G b0 n σ (mi - 1) Z2 ans))) ∧ (∀ n σ, WM G b0 σ Z → GM l G yX7_lookedAt cX7_lookedAt 9 (some .int) rmM n σ [.ref (b0 + 44), .int x, .int y] (PM G b0 n σ Z2 ans)) := by
  obtain ⟨hA, hHA, hS4, hL50, hX128⟩ := id hZ
  have hN5 := hA.1
  cases hS : isS x (aN (zA Z)) with
  | false =>
    refine ⟨(-1000001), Z, hZ, fun n σ mi hW => Or.inl ?_, fun n σ hM => ?_⟩
    · obtain ⟨ph, tau, fp, fq, fx, rs, fpl, tn, op, dg, ftx, Kn, Kt, Ka, Kb, Kc, Kd, hp4, hE, hD, hBn, hSR, hmi, ⟨kn, kt, ka, kb, kc, kd⟩, hKA, hKT, hHi, hTx⟩ := id hW
      have eN : kN Kn = aN (zA Z) := hKA.1
      refine GM.post (GM.room2 (c_X6_lookedAt_x (K := Kn) (wx_at0 hE rfl) (wx_at hE 7 rfl) ((by omega)) (by rw [eN]; exact hS)) (Nat.le_of_ble_eq_true rfl) (Nat.le_of_ble_eq_true rfl) (Nat.le_of_ble_eq_true rfl) (Nat.le_of_ble_eq_true rfl)) (fun v n' σ' hp => ?_)
      obtain ⟨e1, e2, e3⟩ := hp
      exact px_read hW (by rw [← e1] <;> rfl) e2 e3
    · obtain ⟨xat, xreason, xdone, xkind, xn, xstrength, fs, fwas, fbegun, faside, ftext, fsize, fburnt, fnext, ffar, fthen, fqueue, frankAt, fturnAt, hE, hMR, hMW, hMT⟩ := id hM
      refine GM.post (GM.room2 (GM.heap hE (c_X7_lookedAt_x (ns := aN (zA Z))  (hMR.1) (hS))) (Nat.le_of_ble_eq_true rfl) (Nat.le_of_ble_eq_true rfl) (Nat.le_of_ble_eq_true rfl) (Nat.le_of_ble_eq_true rfl)) (fun v n' σ' hp => ?_)
      obtain ⟨e1, e2, e3⟩ := hp
      exact pm_mk (by rw [← e1] <;> rfl) e2 e3 rfl rfl hMR hMW hMT
  | true =>
    obtain ⟨k, hk, rfl⟩ := isS_of hN5 hS
    have hvk := hA.2.2 k hk
    have hN6 := hvk.1.N
    have hN1 := hvk.1.2.1
    have hsd := hvk.2.2
    cases hy : decide (nI 0 ≤ y ∧ y ≤ nI 6) with
    | false =>
      refine ⟨(-1000001), Z, hZ, fun n σ mi hW => Or.inl ?_, fun n σ hM => ?_⟩
      · obtain ⟨ph, tau, fp, fq, fx, rs, fpl, tn, op, dg, ftx, Kn, Kt, Ka, Kb, Kc, Kd, hp4, hE, hD, hBn, hSR, hmi, ⟨kn, kt, ka, kb, kc, kd⟩, hKA, hKT, hHi, hTx⟩ := id hW
        have eN : kN Kn = aN (zA Z) := hKA.1
        obtain ⟨sa, la0, hs, hsa⟩ := hKT k hk
        obtain ⟨hso, hBs, la, cfl, sv, f1, f2, f3, f4, f5, hBl, z0, z1, z2, z3, z4, z5, z6, g1, g2, g3, g4, g5⟩ := hD.shp hsa
        refine GM.post (GM.room2 (c_X6_lookedAt_z (k := k) (K := Kn) (wx_at0 hE rfl) (wx_at hE 7 rfl) (wx_at hE 10 rfl) ((by omega)) ((by omega)) (hs) (hy)) (Nat.le_of_ble_eq_true rfl) (Nat.le_of_ble_eq_true rfl) (Nat.le_of_ble_eq_true rfl) (Nat.le_of_ble_eq_true rfl)) (fun v n' σ' hp => ?_)
        obtain ⟨e1, e2, e3⟩ := hp
        exact px_read hW (by rw [← e1] <;> rfl) e2 e3
      · obtain ⟨xat, xreason, xdone, xkind, xn, xstrength, fs, fwas, fbegun, faside, ftext, fsize, fburnt, fnext, ffar, fthen, fqueue, frankAt, fturnAt, hE, hMR, hMW, hMT⟩ := id hM
        refine GM.post (GM.room2 (GM.heap hE (c_X7_lookedAt_z (k := k)  (hMR.1) (hA.1) (hk) ((hMR.2.2.2.2 k hk).1) ((hA.2.2 k hk)) (hy))) (Nat.le_of_ble_eq_true rfl) (Nat.le_of_ble_eq_true rfl) (Nat.le_of_ble_eq_true rfl) (Nat.le_of_ble_eq_true rfl)) (fun v n' σ' hp => ?_)
        obtain ⟨e1, e2, e3⟩ := hp
        exact pm_mk (by rw [← e1] <;> rfl) e2 e3 rfl rfl hMR hMW hMT
    | true =>
      obtain ⟨w, w0, w1, rfl⟩ := in_of (by omega) (by omega) hy
      rcases (show w = 0 ∨ w = 1 ∨ w = 2 ∨ w = 3 ∨ w = 4 ∨ w = 5 ∨ w = 6 by omega) with rfl | rfl | rfl | rfl | rfl | rfl | rfl
      · refine ⟨(nI (lkA (aKd (zA Z) k) (aSr (zA Z) k) (aCk (zA Z) k) 0 (rk (sid (aKd (zA Z) k)) (aCk (zA Z) k) (aO (zA Z) k) (aSd (zA Z) k)) 0)), Z, hZ, fun n σ mi hW => Or.inl ?_, fun n σ hM => ?_⟩
        · obtain ⟨ph, tau, fp, fq, fx, rs, fpl, tn, op, dg, ftx, Kn, Kt, Ka, Kb, Kc, Kd, hp4, hE, hD, hBn, hSR, hmi, ⟨kn, kt, ka, kb, kc, kd⟩, hKA, hKT, hHi, hTx⟩ := id hW
          have eN : kN Kn = aN (zA Z) := hKA.1
          obtain ⟨sa, la0, hs, hsa⟩ := hKT k hk
          obtain ⟨hso, hBs, la, cfl, sv, f1, f2, f3, f4, f5, hBl, z0, z1, z2, z3, z4, z5, z6, g1, g2, g3, g4, g5⟩ := hD.shp hsa
          refine GM.post (GM.room2 (c_X6_lookedAt_y0 (k := k) (K := Kn) (tau := tau) (B := b0 + 58) (la := la0) (kd := (aKd (zA Z) k)) (N := (aCk (zA Z) k)) (sr := (aSr (zA Z) k)) (r := (rk (sid (aKd (zA Z) k)) (aCk (zA Z) k) (aO (zA Z) k) (aSd (zA Z) k))) (wx_at0 hE rfl) (wx_at hE 7 rfl) (wx_at hE 10 rfl) (wx_at hE 11 rfl) (hD) (hBn) ((by omega)) (hsa) (hvk.1) ((by omega)) ((by omega)) (hs) ((hKA.2.2.2.2 k hk).1) ((rk_at hA hk rfl rfl))) (Nat.le_of_ble_eq_true rfl) (Nat.le_of_ble_eq_true rfl) (Nat.le_of_ble_eq_true rfl) (Nat.le_of_ble_eq_true rfl)) (fun v n' σ' hp => ?_)
          obtain ⟨tau2, e1, hn1, hn2, hfr, hD9, hmo9⟩ := hp
          exact px_q hE hBn hSR hmi ⟨kn, kt, ka, kb, kc, kd⟩ hKA hKT hHi hTx (by rw [← e1] <;> rfl) hn1 hfr hD9 hmo9
        · obtain ⟨xat, xreason, xdone, xkind, xn, xstrength, fs, fwas, fbegun, faside, ftext, fsize, fburnt, fnext, ffar, fthen, fqueue, frankAt, fturnAt, hE, hMR, hMW, hMT⟩ := id hM
          refine GM.post (GM.room2 (GM.heap hE (c_X7_lookedAt_y (k := k) (w := 0)  (hMR.1) (hA.1) (hk) ((hMR.2.2.2.2 k hk).1) ((hA.2.2 k hk)) (by omega))) (Nat.le_of_ble_eq_true rfl) (Nat.le_of_ble_eq_true rfl) (Nat.le_of_ble_eq_true rfl) (Nat.le_of_ble_eq_true rfl)) (fun v n' σ' hp => ?_)
          obtain ⟨e1, e2, f3, r9, t9, f2, g2, e3⟩ := hp
          exact pm_mk (by rw [← e1] <;> rfl) e2 e3 rfl rfl hMR hMW hMT
      · refine ⟨(nI (lkA (aKd (zA Z) k) (aSr (zA Z) k) (aCk (zA Z) k) 1 (rk (sid (aKd (zA Z) k)) (aCk (zA Z) k) (aO (zA Z) k) (aSd (zA Z) k)) 0)), Z, hZ, fun n σ mi hW => Or.inl ?_, fun n σ hM => ?_⟩
        · obtain ⟨ph, tau, fp, fq, fx, rs, fpl, tn, op, dg, ftx, Kn, Kt, Ka, Kb, Kc, Kd, hp4, hE, hD, hBn, hSR, hmi, ⟨kn, kt, ka, kb, kc, kd⟩, hKA, hKT, hHi, hTx⟩ := id hW
          have eN : kN Kn = aN (zA Z) := hKA.1
          obtain ⟨sa, la0, hs, hsa⟩ := hKT k hk
          obtain ⟨hso, hBs, la, cfl, sv, f1, f2, f3, f4, f5, hBl, z0, z1, z2, z3, z4, z5, z6, g1, g2, g3, g4, g5⟩ := hD.shp hsa
          refine GM.post (GM.room2 (c_X6_lookedAt_y1 (k := k) (K := Kn) (tau := tau) (B := b0 + 58) (la := la0) (kd := (aKd (zA Z) k)) (N := (aCk (zA Z) k)) (sr := (aSr (zA Z) k)) (r := (rk (sid (aKd (zA Z) k)) (aCk (zA Z) k) (aO (zA Z) k) (aSd (zA Z) k))) (wx_at0 hE rfl) (wx_at hE 7 rfl) (wx_at hE 10 rfl) (wx_at hE 11 rfl) (hD) (hBn) ((by omega)) (hsa) (hvk.1) ((by omega)) ((by omega)) (hs) ((hKA.2.2.2.2 k hk).1) ((rk_at hA hk rfl rfl))) (Nat.le_of_ble_eq_true rfl) (Nat.le_of_ble_eq_true rfl) (Nat.le_of_ble_eq_true rfl) (Nat.le_of_ble_eq_true rfl)) (fun v n' σ' hp => ?_)
          obtain ⟨tau2, e1, hn1, hn2, hfr, hD9, hmo9⟩ := hp
          exact px_q hE hBn hSR hmi ⟨kn, kt, ka, kb, kc, kd⟩ hKA hKT hHi hTx (by rw [← e1] <;> rfl) hn1 hfr hD9 hmo9
        · obtain ⟨xat, xreason, xdone, xkind, xn, xstrength, fs, fwas, fbegun, faside, ftext, fsize, fburnt, fnext, ffar, fthen, fqueue, frankAt, fturnAt, hE, hMR, hMW, hMT⟩ := id hM
          refine GM.post (GM.room2 (GM.heap hE (c_X7_lookedAt_y (k := k) (w := 1)  (hMR.1) (hA.1) (hk) ((hMR.2.2.2.2 k hk).1) ((hA.2.2 k hk)) (by omega))) (Nat.le_of_ble_eq_true rfl) (Nat.le_of_ble_eq_true rfl) (Nat.le_of_ble_eq_true rfl) (Nat.le_of_ble_eq_true rfl)) (fun v n' σ' hp => ?_)
          obtain ⟨e1, e2, f3, r9, t9, f2, g2, e3⟩ := hp
          exact pm_mk (by rw [← e1] <;> rfl) e2 e3 rfl rfl hMR hMW hMT
      · refine ⟨(nI (lkA (aKd (zA Z) k) (aSr (zA Z) k) (aCk (zA Z) k) 2 (rk (sid (aKd (zA Z) k)) (aCk (zA Z) k) (aO (zA Z) k) (aSd (zA Z) k)) 0)), Z, hZ, fun n σ mi hW => Or.inl ?_, fun n σ hM => ?_⟩
        · obtain ⟨ph, tau, fp, fq, fx, rs, fpl, tn, op, dg, ftx, Kn, Kt, Ka, Kb, Kc, Kd, hp4, hE, hD, hBn, hSR, hmi, ⟨kn, kt, ka, kb, kc, kd⟩, hKA, hKT, hHi, hTx⟩ := id hW
          have eN : kN Kn = aN (zA Z) := hKA.1
          obtain ⟨sa, la0, hs, hsa⟩ := hKT k hk
          obtain ⟨hso, hBs, la, cfl, sv, f1, f2, f3, f4, f5, hBl, z0, z1, z2, z3, z4, z5, z6, g1, g2, g3, g4, g5⟩ := hD.shp hsa
          refine GM.post (GM.room2 (c_X6_lookedAt_y2 (k := k) (K := Kn) (tau := tau) (B := b0 + 58) (la := la0) (kd := (aKd (zA Z) k)) (N := (aCk (zA Z) k)) (sr := (aSr (zA Z) k)) (r := (rk (sid (aKd (zA Z) k)) (aCk (zA Z) k) (aO (zA Z) k) (aSd (zA Z) k))) (wx_at0 hE rfl) (wx_at hE 7 rfl) (wx_at hE 10 rfl) (wx_at hE 11 rfl) (hD) (hBn) ((by omega)) (hsa) (hvk.1) ((by omega)) ((by omega)) (hs) ((hKA.2.2.2.2 k hk).1) ((rk_at hA hk rfl rfl))) (Nat.le_of_ble_eq_true rfl) (Nat.le_of_ble_eq_true rfl) (Nat.le_of_ble_eq_true rfl) (Nat.le_of_ble_eq_true rfl)) (fun v n' σ' hp => ?_)
          obtain ⟨tau2, e1, hn1, hn2, hfr, hD9, hmo9⟩ := hp
          exact px_q hE hBn hSR hmi ⟨kn, kt, ka, kb, kc, kd⟩ hKA hKT hHi hTx (by rw [← e1] <;> rfl) hn1 hfr hD9 hmo9
        · obtain ⟨xat, xreason, xdone, xkind, xn, xstrength, fs, fwas, fbegun, faside, ftext, fsize, fburnt, fnext, ffar, fthen, fqueue, frankAt, fturnAt, hE, hMR, hMW, hMT⟩ := id hM
          refine GM.post (GM.room2 (GM.heap hE (c_X7_lookedAt_y (k := k) (w := 2)  (hMR.1) (hA.1) (hk) ((hMR.2.2.2.2 k hk).1) ((hA.2.2 k hk)) (by omega))) (Nat.le_of_ble_eq_true rfl) (Nat.le_of_ble_eq_true rfl) (Nat.le_of_ble_eq_true rfl) (Nat.le_of_ble_eq_true rfl)) (fun v n' σ' hp => ?_)
          obtain ⟨e1, e2, f3, r9, t9, f2, g2, e3⟩ := hp
          exact pm_mk (by rw [← e1] <;> rfl) e2 e3 rfl rfl hMR hMW hMT
      · refine ⟨(nI (lkA (aKd (zA Z) k) (aSr (zA Z) k) (aCk (zA Z) k) 3 (rk (sid (aKd (zA Z) k)) (aCk (zA Z) k) (aO (zA Z) k) (aSd (zA Z) k)) 0)), Z, hZ, fun n σ mi hW => Or.inl ?_, fun n σ hM => ?_⟩
        · obtain ⟨ph, tau, fp, fq, fx, rs, fpl, tn, op, dg, ftx, Kn, Kt, Ka, Kb, Kc, Kd, hp4, hE, hD, hBn, hSR, hmi, ⟨kn, kt, ka, kb, kc, kd⟩, hKA, hKT, hHi, hTx⟩ := id hW
          have eN : kN Kn = aN (zA Z) := hKA.1
          obtain ⟨sa, la0, hs, hsa⟩ := hKT k hk
          obtain ⟨hso, hBs, la, cfl, sv, f1, f2, f3, f4, f5, hBl, z0, z1, z2, z3, z4, z5, z6, g1, g2, g3, g4, g5⟩ := hD.shp hsa
          refine GM.post (GM.room2 (c_X6_lookedAt_y3 (k := k) (K := Kn) (tau := tau) (B := b0 + 58) (la := la0) (kd := (aKd (zA Z) k)) (N := (aCk (zA Z) k)) (sr := (aSr (zA Z) k)) (r := (rk (sid (aKd (zA Z) k)) (aCk (zA Z) k) (aO (zA Z) k) (aSd (zA Z) k))) (wx_at0 hE rfl) (wx_at hE 7 rfl) (wx_at hE 10 rfl) (wx_at hE 11 rfl) (hD) (hBn) ((by omega)) (hsa) (hvk.1) ((by omega)) ((by omega)) (hs) ((hKA.2.2.2.2 k hk).1) ((rk_at hA hk rfl rfl))) (Nat.le_of_ble_eq_true rfl) (Nat.le_of_ble_eq_true rfl) (Nat.le_of_ble_eq_true rfl) (Nat.le_of_ble_eq_true rfl)) (fun v n' σ' hp => ?_)
          obtain ⟨tau2, e1, hn1, hn2, hfr, hD9, hmo9⟩ := hp
          exact px_q hE hBn hSR hmi ⟨kn, kt, ka, kb, kc, kd⟩ hKA hKT hHi hTx (by rw [← e1] <;> rfl) hn1 hfr hD9 hmo9
        · obtain ⟨xat, xreason, xdone, xkind, xn, xstrength, fs, fwas, fbegun, faside, ftext, fsize, fburnt, fnext, ffar, fthen, fqueue, frankAt, fturnAt, hE, hMR, hMW, hMT⟩ := id hM
          refine GM.post (GM.room2 (GM.heap hE (c_X7_lookedAt_y (k := k) (w := 3)  (hMR.1) (hA.1) (hk) ((hMR.2.2.2.2 k hk).1) ((hA.2.2 k hk)) (by omega))) (Nat.le_of_ble_eq_true rfl) (Nat.le_of_ble_eq_true rfl) (Nat.le_of_ble_eq_true rfl) (Nat.le_of_ble_eq_true rfl)) (fun v n' σ' hp => ?_)
          obtain ⟨e1, e2, f3, r9, t9, f2, g2, e3⟩ := hp
          exact pm_mk (by rw [← e1] <;> rfl) e2 e3 rfl rfl hMR hMW hMT
      · refine ⟨(nI (lkA (aKd (zA Z) k) (aSr (zA Z) k) (aCk (zA Z) k) 4 (rk (sid (aKd (zA Z) k)) (aCk (zA Z) k) (aO (zA Z) k) (aSd (zA Z) k)) 0)), Z, hZ, fun n σ mi hW => Or.inl ?_, fun n σ hM => ?_⟩
        · obtain ⟨ph, tau, fp, fq, fx, rs, fpl, tn, op, dg, ftx, Kn, Kt, Ka, Kb, Kc, Kd, hp4, hE, hD, hBn, hSR, hmi, ⟨kn, kt, ka, kb, kc, kd⟩, hKA, hKT, hHi, hTx⟩ := id hW
          have eN : kN Kn = aN (zA Z) := hKA.1
          obtain ⟨sa, la0, hs, hsa⟩ := hKT k hk
          obtain ⟨hso, hBs, la, cfl, sv, f1, f2, f3, f4, f5, hBl, z0, z1, z2, z3, z4, z5, z6, g1, g2, g3, g4, g5⟩ := hD.shp hsa
          refine GM.post (GM.room2 (c_X6_lookedAt_y4 (k := k) (K := Kn) (tau := tau) (B := b0 + 58) (la := la0) (kd := (aKd (zA Z) k)) (N := (aCk (zA Z) k)) (sr := (aSr (zA Z) k)) (r := (rk (sid (aKd (zA Z) k)) (aCk (zA Z) k) (aO (zA Z) k) (aSd (zA Z) k))) (wx_at0 hE rfl) (wx_at hE 7 rfl) (wx_at hE 10 rfl) (wx_at hE 11 rfl) (hD) (hBn) ((by omega)) (hsa) (hvk.1) ((by omega)) ((by omega)) (hs) ((hKA.2.2.2.2 k hk).1) ((rk_at hA hk rfl rfl))) (Nat.le_of_ble_eq_true rfl) (Nat.le_of_ble_eq_true rfl) (Nat.le_of_ble_eq_true rfl) (Nat.le_of_ble_eq_true rfl)) (fun v n' σ' hp => ?_)
          obtain ⟨tau2, e1, hn1, hn2, hfr, hD9, hmo9⟩ := hp
          exact px_q hE hBn hSR hmi ⟨kn, kt, ka, kb, kc, kd⟩ hKA hKT hHi hTx (by rw [← e1] <;> rfl) hn1 hfr hD9 hmo9
        · obtain ⟨xat, xreason, xdone, xkind, xn, xstrength, fs, fwas, fbegun, faside, ftext, fsize, fburnt, fnext, ffar, fthen, fqueue, frankAt, fturnAt, hE, hMR, hMW, hMT⟩ := id hM
          refine GM.post (GM.room2 (GM.heap hE (c_X7_lookedAt_y (k := k) (w := 4)  (hMR.1) (hA.1) (hk) ((hMR.2.2.2.2 k hk).1) ((hA.2.2 k hk)) (by omega))) (Nat.le_of_ble_eq_true rfl) (Nat.le_of_ble_eq_true rfl) (Nat.le_of_ble_eq_true rfl) (Nat.le_of_ble_eq_true rfl)) (fun v n' σ' hp => ?_)
          obtain ⟨e1, e2, f3, r9, t9, f2, g2, e3⟩ := hp
          exact pm_mk (by rw [← e1] <;> rfl) e2 e3 rfl rfl hMR hMW hMT
      · refine ⟨(nI (lkA (aKd (zA Z) k) (aSr (zA Z) k) (aCk (zA Z) k) 5 (rk (sid (aKd (zA Z) k)) (aCk (zA Z) k) (aO (zA Z) k) (aSd (zA Z) k)) 0)), Z, hZ, fun n σ mi hW => Or.inl ?_, fun n σ hM => ?_⟩
        · obtain ⟨ph, tau, fp, fq, fx, rs, fpl, tn, op, dg, ftx, Kn, Kt, Ka, Kb, Kc, Kd, hp4, hE, hD, hBn, hSR, hmi, ⟨kn, kt, ka, kb, kc, kd⟩, hKA, hKT, hHi, hTx⟩ := id hW
          have eN : kN Kn = aN (zA Z) := hKA.1
          obtain ⟨sa, la0, hs, hsa⟩ := hKT k hk
          obtain ⟨hso, hBs, la, cfl, sv, f1, f2, f3, f4, f5, hBl, z0, z1, z2, z3, z4, z5, z6, g1, g2, g3, g4, g5⟩ := hD.shp hsa
          refine GM.post (GM.room2 (c_X6_lookedAt_y5 (k := k) (K := Kn) (tau := tau) (B := b0 + 58) (la := la0) (kd := (aKd (zA Z) k)) (N := (aCk (zA Z) k)) (sr := (aSr (zA Z) k)) (r := (rk (sid (aKd (zA Z) k)) (aCk (zA Z) k) (aO (zA Z) k) (aSd (zA Z) k))) (wx_at0 hE rfl) (wx_at hE 7 rfl) (wx_at hE 10 rfl) (wx_at hE 11 rfl) (hD) (hBn) ((by omega)) (hsa) (hvk.1) ((by omega)) ((by omega)) (hs) ((hKA.2.2.2.2 k hk).1) ((rk_at hA hk rfl rfl))) (Nat.le_of_ble_eq_true rfl) (Nat.le_of_ble_eq_true rfl) (Nat.le_of_ble_eq_true rfl) (Nat.le_of_ble_eq_true rfl)) (fun v n' σ' hp => ?_)
          obtain ⟨tau2, e1, hn1, hn2, hfr, hD9, hmo9⟩ := hp
          exact px_q hE hBn hSR hmi ⟨kn, kt, ka, kb, kc, kd⟩ hKA hKT hHi hTx (by rw [← e1] <;> rfl) hn1 hfr hD9 hmo9
        · obtain ⟨xat, xreason, xdone, xkind, xn, xstrength, fs, fwas, fbegun, faside, ftext, fsize, fburnt, fnext, ffar, fthen, fqueue, frankAt, fturnAt, hE, hMR, hMW, hMT⟩ := id hM
          refine GM.post (GM.room2 (GM.heap hE (c_X7_lookedAt_y (k := k) (w := 5)  (hMR.1) (hA.1) (hk) ((hMR.2.2.2.2 k hk).1) ((hA.2.2 k hk)) (by omega))) (Nat.le_of_ble_eq_true rfl) (Nat.le_of_ble_eq_true rfl) (Nat.le_of_ble_eq_true rfl) (Nat.le_of_ble_eq_true rfl)) (fun v n' σ' hp => ?_)
          obtain ⟨e1, e2, f3, r9, t9, f2, g2, e3⟩ := hp
          exact pm_mk (by rw [← e1] <;> rfl) e2 e3 rfl rfl hMR hMW hMT
      · refine ⟨(nI (lkA (aKd (zA Z) k) (aSr (zA Z) k) (aCk (zA Z) k) 6 (rk (sid (aKd (zA Z) k)) (aCk (zA Z) k) (aO (zA Z) k) (aSd (zA Z) k)) 0)), Z, hZ, fun n σ mi hW => Or.inl ?_, fun n σ hM => ?_⟩
        · obtain ⟨ph, tau, fp, fq, fx, rs, fpl, tn, op, dg, ftx, Kn, Kt, Ka, Kb, Kc, Kd, hp4, hE, hD, hBn, hSR, hmi, ⟨kn, kt, ka, kb, kc, kd⟩, hKA, hKT, hHi, hTx⟩ := id hW
          have eN : kN Kn = aN (zA Z) := hKA.1
          obtain ⟨sa, la0, hs, hsa⟩ := hKT k hk
          obtain ⟨hso, hBs, la, cfl, sv, f1, f2, f3, f4, f5, hBl, z0, z1, z2, z3, z4, z5, z6, g1, g2, g3, g4, g5⟩ := hD.shp hsa
          refine GM.post (GM.room2 (c_X6_lookedAt_y6 (k := k) (K := Kn) (tau := tau) (B := b0 + 58) (la := la0) (kd := (aKd (zA Z) k)) (N := (aCk (zA Z) k)) (sr := (aSr (zA Z) k)) (r := (rk (sid (aKd (zA Z) k)) (aCk (zA Z) k) (aO (zA Z) k) (aSd (zA Z) k))) (wx_at0 hE rfl) (wx_at hE 7 rfl) (wx_at hE 10 rfl) (wx_at hE 11 rfl) (hD) (hBn) ((by omega)) (hsa) (hvk.1) ((by omega)) ((by omega)) (hs) ((hKA.2.2.2.2 k hk).1) ((rk_at hA hk rfl rfl))) (Nat.le_of_ble_eq_true rfl) (Nat.le_of_ble_eq_true rfl) (Nat.le_of_ble_eq_true rfl) (Nat.le_of_ble_eq_true rfl)) (fun v n' σ' hp => ?_)
          obtain ⟨tau2, e1, hn1, hn2, hfr, hD9, hmo9⟩ := hp
          exact px_q hE hBn hSR hmi ⟨kn, kt, ka, kb, kc, kd⟩ hKA hKT hHi hTx (by rw [← e1] <;> rfl) hn1 hfr hD9 hmo9
        · obtain ⟨xat, xreason, xdone, xkind, xn, xstrength, fs, fwas, fbegun, faside, ftext, fsize, fburnt, fnext, ffar, fthen, fqueue, frankAt, fturnAt, hE, hMR, hMW, hMT⟩ := id hM
          refine GM.post (GM.room2 (GM.heap hE (c_X7_lookedAt_y (k := k) (w := 6)  (hMR.1) (hA.1) (hk) ((hMR.2.2.2.2 k hk).1) ((hA.2.2 k hk)) (by omega))) (Nat.le_of_ble_eq_true rfl) (Nat.le_of_ble_eq_true rfl) (Nat.le_of_ble_eq_true rfl) (Nat.le_of_ble_eq_true rfl)) (fun v n' σ' hp => ?_)
          obtain ⟨e1, e2, f3, r9, t9, f2, g2, e3⟩ := hp
          exact pm_mk (by rw [← e1] <;> rfl) e2 e3 rfl rfl hMR hMW hMT

set_option maxRecDepth 100000 in
set_option maxHeartbeats 4000000 in
theorem op_simple {l : Launch} {G : gG} {b0 : Nat} {Z : ZT} (hZ : ZOK Z) (x y : Int32) : ∃ (ans : Int32) (Z2 : ZT), ZOK Z2 ∧ (∀ n σ mi, WX G b0 n σ Z mi → (GM l G yX6_simple cX6_simple 4 (some .int) rmC n σ [.ref b0, .int x, .int y] (PX G b0 n σ mi Z2 ans)) ∨ (1 ≤ mi ∧ GM l G yX6_simple cX6_simple 4 (some .int) rmS n σ [.ref b0, .int x, .int y] (PX G b0 n σ (mi - 1) Z2 ans))) ∧ (∀ n σ, WM G b0 σ Z → GM l G yX7_simple cX7_simple 7 (some .int) rmM n σ [.ref (b0 + 44), .int x, .int y] (PM G b0 n σ Z2 ans)) := by
  obtain ⟨hA, hHA, hS4, hL50, hX128⟩ := id hZ
  have hN5 := hA.1
  cases hS : isS x (aN (zA Z)) with
  | false =>
    refine ⟨(-1000001), Z, hZ, fun n σ mi hW => Or.inl ?_, fun n σ hM => ?_⟩
    · obtain ⟨ph, tau, fp, fq, fx, rs, fpl, tn, op, dg, ftx, Kn, Kt, Ka, Kb, Kc, Kd, hp4, hE, hD, hBn, hSR, hmi, ⟨kn, kt, ka, kb, kc, kd⟩, hKA, hKT, hHi, hTx⟩ := id hW
      have eN : kN Kn = aN (zA Z) := hKA.1
      refine GM.post (GM.room2 (c_X6_simple_x (K := Kn) (wx_at0 hE rfl) (wx_at hE 7 rfl) ((by omega)) (by rw [eN]; exact hS)) (Nat.le_of_ble_eq_true rfl) (Nat.le_of_ble_eq_true rfl) (Nat.le_of_ble_eq_true rfl) (Nat.le_of_ble_eq_true rfl)) (fun v n' σ' hp => ?_)
      obtain ⟨e1, e2, e3⟩ := hp
      exact px_read hW (by rw [← e1] <;> rfl) e2 e3
    · obtain ⟨xat, xreason, xdone, xkind, xn, xstrength, fs, fwas, fbegun, faside, ftext, fsize, fburnt, fnext, ffar, fthen, fqueue, frankAt, fturnAt, hE, hMR, hMW, hMT⟩ := id hM
      refine GM.post (GM.room2 (GM.heap hE (c_X7_simple_x (ns := aN (zA Z))  (hMR.1) (hS))) (Nat.le_of_ble_eq_true rfl) (Nat.le_of_ble_eq_true rfl) (Nat.le_of_ble_eq_true rfl) (Nat.le_of_ble_eq_true rfl)) (fun v n' σ' hp => ?_)
      obtain ⟨e1, e2, e3⟩ := hp
      exact pm_mk (by rw [← e1] <;> rfl) e2 e3 rfl rfl hMR hMW hMT
  | true =>
    obtain ⟨k, hk, rfl⟩ := isS_of hN5 hS
    have hvk := hA.2.2 k hk
    have hN6 := hvk.1.N
    have hN1 := hvk.1.2.1
    have hsd := hvk.2.2
    cases hy : decide (nI 0 ≤ y ∧ y ≤ nI 2) with
    | false =>
      refine ⟨(-1000001), Z, hZ, fun n σ mi hW => Or.inl ?_, fun n σ hM => ?_⟩
      · obtain ⟨ph, tau, fp, fq, fx, rs, fpl, tn, op, dg, ftx, Kn, Kt, Ka, Kb, Kc, Kd, hp4, hE, hD, hBn, hSR, hmi, ⟨kn, kt, ka, kb, kc, kd⟩, hKA, hKT, hHi, hTx⟩ := id hW
        have eN : kN Kn = aN (zA Z) := hKA.1
        obtain ⟨sa, la0, hs, hsa⟩ := hKT k hk
        obtain ⟨hso, hBs, la, cfl, sv, f1, f2, f3, f4, f5, hBl, z0, z1, z2, z3, z4, z5, z6, g1, g2, g3, g4, g5⟩ := hD.shp hsa
        refine GM.post (GM.room2 (c_X6_simple_z (k := k) (K := Kn) (wx_at0 hE rfl) (wx_at hE 7 rfl) (wx_at hE 10 rfl) ((by omega)) ((by omega)) (hs) (hy)) (Nat.le_of_ble_eq_true rfl) (Nat.le_of_ble_eq_true rfl) (Nat.le_of_ble_eq_true rfl) (Nat.le_of_ble_eq_true rfl)) (fun v n' σ' hp => ?_)
        obtain ⟨e1, e2, e3⟩ := hp
        exact px_read hW (by rw [← e1] <;> rfl) e2 e3
      · obtain ⟨xat, xreason, xdone, xkind, xn, xstrength, fs, fwas, fbegun, faside, ftext, fsize, fburnt, fnext, ffar, fthen, fqueue, frankAt, fturnAt, hE, hMR, hMW, hMT⟩ := id hM
        refine GM.post (GM.room2 (GM.heap hE (c_X7_simple_z (k := k)  (hMR.1) (hA.1) (hk) ((hMR.2.2.2.2 k hk).1) ((hA.2.2 k hk)) (hy))) (Nat.le_of_ble_eq_true rfl) (Nat.le_of_ble_eq_true rfl) (Nat.le_of_ble_eq_true rfl) (Nat.le_of_ble_eq_true rfl)) (fun v n' σ' hp => ?_)
        obtain ⟨e1, e2, e3⟩ := hp
        exact pm_mk (by rw [← e1] <;> rfl) e2 e3 rfl rfl hMR hMW hMT
    | true =>
      obtain ⟨w, w0, w1, rfl⟩ := in_of (by omega) (by omega) hy
      refine ⟨(smA (aKd (zA Z) k) (aCk (zA Z) k) (aSr (zA Z) k) (aO (zA Z) k) (aSd (zA Z) k) w), Z, hZ, fun n σ mi hW => Or.inl ?_, fun n σ hM => ?_⟩
      · obtain ⟨ph, tau, fp, fq, fx, rs, fpl, tn, op, dg, ftx, Kn, Kt, Ka, Kb, Kc, Kd, hp4, hE, hD, hBn, hSR, hmi, ⟨kn, kt, ka, kb, kc, kd⟩, hKA, hKT, hHi, hTx⟩ := id hW
        have eN : kN Kn = aN (zA Z) := hKA.1
        obtain ⟨sa, la0, hs, hsa⟩ := hKT k hk
        obtain ⟨hso, hBs, la, cfl, sv, f1, f2, f3, f4, f5, hBl, z0, z1, z2, z3, z4, z5, z6, g1, g2, g3, g4, g5⟩ := hD.shp hsa
        refine GM.post (GM.room2 (c_X6_simple_y (k := k) (K := Kn) (tau := tau) (B := b0 + 58) (la := la0) (kd := (aKd (zA Z) k)) (N := (aCk (zA Z) k)) (sr := (aSr (zA Z) k)) (r := (rk (sid (aKd (zA Z) k)) (aCk (zA Z) k) (aO (zA Z) k) (aSd (zA Z) k))) (w := w) (wx_at0 hE rfl) (wx_at hE 7 rfl) (wx_at hE 10 rfl) (wx_at hE 11 rfl) (hD) (hBn) ((by omega)) (hsa) (hvk.1) ((by omega)) ((by omega)) (hs) ((hKA.2.2.2.2 k hk).1) ((rk_at hA hk rfl rfl)) (w1)) (Nat.le_of_ble_eq_true rfl) (Nat.le_of_ble_eq_true rfl) (Nat.le_of_ble_eq_true rfl) (Nat.le_of_ble_eq_true rfl)) (fun v n' σ' hp => ?_)
        obtain ⟨tau2, e1, hn1, hn2, hfr, hD9, hmo9⟩ := hp
        exact px_q hE hBn hSR hmi ⟨kn, kt, ka, kb, kc, kd⟩ hKA hKT hHi hTx (by rw [← e1] <;> rw [oR_rk hsd, sR_rk hsd]) hn1 hfr hD9 hmo9
      · obtain ⟨xat, xreason, xdone, xkind, xn, xstrength, fs, fwas, fbegun, faside, ftext, fsize, fburnt, fnext, ffar, fthen, fqueue, frankAt, fturnAt, hE, hMR, hMW, hMT⟩ := id hM
        refine GM.post (GM.room2 (GM.heap hE (c_X7_simple_y (k := k) (w := w)  (hMR.1) (hA.1) (hk) ((hMR.2.2.2.2 k hk).1) ((hA.2.2 k hk)) (w1))) (Nat.le_of_ble_eq_true rfl) (Nat.le_of_ble_eq_true rfl) (Nat.le_of_ble_eq_true rfl) (Nat.le_of_ble_eq_true rfl)) (fun v n' σ' hp => ?_)
        obtain ⟨e1, e2, f2, g2, e3⟩ := hp
        exact pm_mk (by rw [← e1] <;> rfl) e2 e3 rfl rfl hMR hMW hMT

set_option maxRecDepth 100000 in
set_option maxHeartbeats 4000000 in
theorem op_ofDistance {l : Launch} {G : gG} {b0 : Nat} {Z : ZT} (hZ : ZOK Z) (x y : Int32) : ∃ (ans : Int32) (Z2 : ZT), ZOK Z2 ∧ (∀ n σ mi, WX G b0 n σ Z mi → (GM l G yX6_ofDistance cX6_ofDistance 4 (some .int) rmC n σ [.ref b0, .int x, .int y] (PX G b0 n σ mi Z2 ans)) ∨ (1 ≤ mi ∧ GM l G yX6_ofDistance cX6_ofDistance 4 (some .int) rmS n σ [.ref b0, .int x, .int y] (PX G b0 n σ (mi - 1) Z2 ans))) ∧ (∀ n σ, WM G b0 σ Z → GM l G yX7_ofDistance cX7_ofDistance 5 (some .int) rmM n σ [.ref (b0 + 44), .int x, .int y] (PM G b0 n σ Z2 ans)) := by
  obtain ⟨hA, hHA, hS4, hL50, hX128⟩ := id hZ
  have hN5 := hA.1
  cases hS : isS x (aN (zA Z)) with
  | false =>
    refine ⟨(-1000001), Z, hZ, fun n σ mi hW => Or.inl ?_, fun n σ hM => ?_⟩
    · obtain ⟨ph, tau, fp, fq, fx, rs, fpl, tn, op, dg, ftx, Kn, Kt, Ka, Kb, Kc, Kd, hp4, hE, hD, hBn, hSR, hmi, ⟨kn, kt, ka, kb, kc, kd⟩, hKA, hKT, hHi, hTx⟩ := id hW
      have eN : kN Kn = aN (zA Z) := hKA.1
      refine GM.post (GM.room2 (c_X6_ofDistance_x (K := Kn) (wx_at0 hE rfl) (wx_at hE 7 rfl) ((by omega)) (by rw [eN]; exact hS)) (Nat.le_of_ble_eq_true rfl) (Nat.le_of_ble_eq_true rfl) (Nat.le_of_ble_eq_true rfl) (Nat.le_of_ble_eq_true rfl)) (fun v n' σ' hp => ?_)
      obtain ⟨e1, e2, e3⟩ := hp
      exact px_read hW (by rw [← e1] <;> rfl) e2 e3
    · obtain ⟨xat, xreason, xdone, xkind, xn, xstrength, fs, fwas, fbegun, faside, ftext, fsize, fburnt, fnext, ffar, fthen, fqueue, frankAt, fturnAt, hE, hMR, hMW, hMT⟩ := id hM
      refine GM.post (GM.room2 (GM.heap hE (c_X7_ofDistance_x (ns := aN (zA Z))  (hMR.1) (hS))) (Nat.le_of_ble_eq_true rfl) (Nat.le_of_ble_eq_true rfl) (Nat.le_of_ble_eq_true rfl) (Nat.le_of_ble_eq_true rfl)) (fun v n' σ' hp => ?_)
      obtain ⟨e1, e2, e3⟩ := hp
      exact pm_mk (by rw [← e1] <;> rfl) e2 e3 rfl rfl hMR hMW hMT
  | true =>
    obtain ⟨k, hk, rfl⟩ := isS_of hN5 hS
    have hvk := hA.2.2 k hk
    have hN6 := hvk.1.N
    have hN1 := hvk.1.2.1
    have hsd := hvk.2.2
    cases hy : decide (nI 0 ≤ y ∧ y ≤ nI 12) with
    | false =>
      refine ⟨(-1000001), Z, hZ, fun n σ mi hW => Or.inl ?_, fun n σ hM => ?_⟩
      · obtain ⟨ph, tau, fp, fq, fx, rs, fpl, tn, op, dg, ftx, Kn, Kt, Ka, Kb, Kc, Kd, hp4, hE, hD, hBn, hSR, hmi, ⟨kn, kt, ka, kb, kc, kd⟩, hKA, hKT, hHi, hTx⟩ := id hW
        have eN : kN Kn = aN (zA Z) := hKA.1
        obtain ⟨sa, la0, hs, hsa⟩ := hKT k hk
        obtain ⟨hso, hBs, la, cfl, sv, f1, f2, f3, f4, f5, hBl, z0, z1, z2, z3, z4, z5, z6, g1, g2, g3, g4, g5⟩ := hD.shp hsa
        refine GM.post (GM.room2 (c_X6_ofDistance_z (k := k) (K := Kn) (wx_at0 hE rfl) (wx_at hE 7 rfl) (wx_at hE 10 rfl) ((by omega)) ((by omega)) (hs) (hy)) (Nat.le_of_ble_eq_true rfl) (Nat.le_of_ble_eq_true rfl) (Nat.le_of_ble_eq_true rfl) (Nat.le_of_ble_eq_true rfl)) (fun v n' σ' hp => ?_)
        obtain ⟨e1, e2, e3⟩ := hp
        exact px_read hW (by rw [← e1] <;> rfl) e2 e3
      · obtain ⟨xat, xreason, xdone, xkind, xn, xstrength, fs, fwas, fbegun, faside, ftext, fsize, fburnt, fnext, ffar, fthen, fqueue, frankAt, fturnAt, hE, hMR, hMW, hMT⟩ := id hM
        refine GM.post (GM.room2 (GM.heap hE (c_X7_ofDistance_z (k := k)  (hMR.1) (hA.1) (hk) ((hMR.2.2.2.2 k hk).1) ((hA.2.2 k hk)) (hy))) (Nat.le_of_ble_eq_true rfl) (Nat.le_of_ble_eq_true rfl) (Nat.le_of_ble_eq_true rfl) (Nat.le_of_ble_eq_true rfl)) (fun v n' σ' hp => ?_)
        obtain ⟨e1, e2, e3⟩ := hp
        exact pm_mk (by rw [← e1] <;> rfl) e2 e3 rfl rfl hMR hMW hMT
    | true =>
      obtain ⟨w, w0, w1, rfl⟩ := in_of (by omega) (by omega) hy
      refine ⟨(nI (ofd (dst false (aKd (zA Z) k) (aSr (zA Z) k) (aCk (zA Z) k)) w (rR (sid (aKd (zA Z) k)) (aCk (zA Z) k)))), Z, hZ, fun n σ mi hW => Or.inl ?_, fun n σ hM => ?_⟩
      · obtain ⟨ph, tau, fp, fq, fx, rs, fpl, tn, op, dg, ftx, Kn, Kt, Ka, Kb, Kc, Kd, hp4, hE, hD, hBn, hSR, hmi, ⟨kn, kt, ka, kb, kc, kd⟩, hKA, hKT, hHi, hTx⟩ := id hW
        have eN : kN Kn = aN (zA Z) := hKA.1
        obtain ⟨sa, la0, hs, hsa⟩ := hKT k hk
        obtain ⟨hso, hBs, la, cfl, sv, f1, f2, f3, f4, f5, hBl, z0, z1, z2, z3, z4, z5, z6, g1, g2, g3, g4, g5⟩ := hD.shp hsa
        refine GM.post (GM.room2 (c_X6_ofDistance_y (k := k) (K := Kn) (tau := tau) (B := b0 + 58) (la := la0) (kd := (aKd (zA Z) k)) (N := (aCk (zA Z) k)) (sr := (aSr (zA Z) k)) (r := (rk (sid (aKd (zA Z) k)) (aCk (zA Z) k) (aO (zA Z) k) (aSd (zA Z) k))) (w := w) (wx_at0 hE rfl) (wx_at hE 7 rfl) (wx_at hE 10 rfl) (wx_at hE 11 rfl) (hD) (hBn) ((by omega)) (hsa) (hvk.1) ((by omega)) ((by omega)) (hs) ((hKA.2.2.2.2 k hk).1) ((rk_at hA hk rfl rfl)) (w1)) (Nat.le_of_ble_eq_true rfl) (Nat.le_of_ble_eq_true rfl) (Nat.le_of_ble_eq_true rfl) (Nat.le_of_ble_eq_true rfl)) (fun v n' σ' hp => ?_)
        obtain ⟨tau2, e1, hn1, hn2, hfr, hD9, hmo9⟩ := hp
        exact px_q hE hBn hSR hmi ⟨kn, kt, ka, kb, kc, kd⟩ hKA hKT hHi hTx (by rw [← e1] <;> rfl) hn1 hfr hD9 hmo9
      · obtain ⟨xat, xreason, xdone, xkind, xn, xstrength, fs, fwas, fbegun, faside, ftext, fsize, fburnt, fnext, ffar, fthen, fqueue, frankAt, fturnAt, hE, hMR, hMW, hMT⟩ := id hM
        refine GM.post (GM.room2 (GM.heap hE (c_X7_ofDistance_y (dd := (dst false (aKd (zA Z) k) (aSr (zA Z) k) (aCk (zA Z) k))) (k := k) (w := w)  (hMR.1) (hA.1) (hk) ((hMR.2.2.2.2 k hk).1) ((hA.2.2 k hk)) ((dst_ok false hvk.1)) (w1))) (Nat.le_of_ble_eq_true rfl) (Nat.le_of_ble_eq_true rfl) (Nat.le_of_ble_eq_true rfl) (Nat.le_of_ble_eq_true rfl)) (fun v n' σ' hp => ?_)
        obtain ⟨e1, e2, f3, fr2, q3, f2, g2, e3⟩ := hp
        exact pm_mk (by rw [← e1] <;> rfl) e2 e3 rfl rfl hMR hMW hMT

set_option maxRecDepth 100000 in
set_option maxHeartbeats 4000000 in
theorem op_count {l : Launch} {G : gG} {b0 : Nat} {Z : ZT} (hZ : ZOK Z) (x : Int32) : ∃ (ans : Int32) (Z2 : ZT), ZOK Z2 ∧ (∀ n σ mi, WX G b0 n σ Z mi → (GM l G yX6_count cX6_count 2 (some .int) rmC n σ [.ref b0, .int x] (PX G b0 n σ mi Z2 ans)) ∨ (1 ≤ mi ∧ GM l G yX6_count cX6_count 2 (some .int) rmS n σ [.ref b0, .int x] (PX G b0 n σ (mi - 1) Z2 ans))) ∧ (∀ n σ, WM G b0 σ Z → GM l G yX7_count cX7_count 2 (some .int) rmM n σ [.ref (b0 + 44), .int x] (PM G b0 n σ Z2 ans)) := by
  obtain ⟨hA, hHA, hS4, hL50, hX128⟩ := id hZ
  have hN5 := hA.1
  by_cases hx : x.toInt < 0 ∨ 12 < x.toInt
  · refine ⟨(-1000001), Z, hZ, fun n σ mi hW => Or.inl ?_, fun n σ hM => ?_⟩
    · obtain ⟨ph, tau, fp, fq, fx, rs, fpl, tn, op, dg, ftx, Kn, Kt, Ka, Kb, Kc, Kd, hp4, hE, hD, hBn, hSR, hmi, ⟨kn, kt, ka, kb, kc, kd⟩, hKA, hKT, hHi, hTx⟩ := id hW
      have eN : kN Kn = aN (zA Z) := hKA.1
      refine GM.post (GM.room2 (c_X6_count_x   (hx)) (Nat.le_of_ble_eq_true rfl) (Nat.le_of_ble_eq_true rfl) (Nat.le_of_ble_eq_true rfl) (Nat.le_of_ble_eq_true rfl)) (fun v n' σ' hp => ?_)
      obtain ⟨e1, e2, e3⟩ := hp
      exact px_read hW (by rw [← e1] <;> rfl) e2 e3
    · obtain ⟨xat, xreason, xdone, xkind, xn, xstrength, fs, fwas, fbegun, faside, ftext, fsize, fburnt, fnext, ffar, fthen, fqueue, frankAt, fturnAt, hE, hMR, hMW, hMT⟩ := id hM
      refine GM.post (GM.room2 (GM.heap hE (c_X7_count_x   (hx))) (Nat.le_of_ble_eq_true rfl) (Nat.le_of_ble_eq_true rfl) (Nat.le_of_ble_eq_true rfl) (Nat.le_of_ble_eq_true rfl)) (fun v n' σ' hp => ?_)
      obtain ⟨e1, e2, e3⟩ := hp
      exact pm_mk (by rw [← e1] <;> rfl) e2 e3 rfl rfl hMR hMW hMT
  · obtain ⟨w, hw, rfl⟩ : ∃ w, w ≤ 12 ∧ x = nI w := ⟨x.toInt.toNat, by omega, Int32.toInt_inj.mp (by rw [nI_toInt (by omega)]; omega)⟩
    refine ⟨(cntA (zA Z) (zS Z) (zL Z) w), Z, hZ, fun n σ mi hW => Or.inl ?_, fun n σ hM => ?_⟩
    · obtain ⟨ph, tau, fp, fq, fx, rs, fpl, tn, op, dg, ftx, Kn, Kt, Ka, Kb, Kc, Kd, hp4, hE, hD, hBn, hSR, hmi, ⟨kn, kt, ka, kb, kc, kd⟩, hKA, hKT, hHi, hTx⟩ := id hW
      have eN : kN Kn = aN (zA Z) := hKA.1
      refine GM.post (GM.room2 (c_X6_count_y (K := Kn) (w := w) (B := b0 + 58) (wx_at0 hE rfl) (wx_at hE 7 rfl) (wx_at hE 8 rfl) (wx_at hE 9 rfl) (wx_at hE 10 rfl) (wx_at hE 11 rfl) (wx_at hE 12 rfl) (wx_at hE 5 rfl) (hKA) (hA) ((hKT.sh hD)) (hw) (hS4) (hL50)) (Nat.le_of_ble_eq_true rfl) (Nat.le_of_ble_eq_true rfl) (Nat.le_of_ble_eq_true rfl) (Nat.le_of_ble_eq_true rfl)) (fun v n' σ' hp => ?_)
      obtain ⟨e1, e2, e3⟩ := hp
      exact px_read hW (by rw [← e1] <;> rfl) e2 e3
    · obtain ⟨xat, xreason, xdone, xkind, xn, xstrength, fs, fwas, fbegun, faside, ftext, fsize, fburnt, fnext, ffar, fthen, fqueue, frankAt, fturnAt, hE, hMR, hMW, hMT⟩ := id hM
      refine GM.post (GM.room2 (GM.heap hE (c_X7_count_y (w := w)  (hMR) (hA) (hw) (hS4) (hL50))) (Nat.le_of_ble_eq_true rfl) (Nat.le_of_ble_eq_true rfl) (Nat.le_of_ble_eq_true rfl) (Nat.le_of_ble_eq_true rfl)) (fun v n' σ' hp => ?_)
      obtain ⟨e1, e2, k2, n3, r2, f2, g2, e3⟩ := hp
      exact pm_mk (by rw [← e1] <;> rfl) e2 e3 rfl rfl hMR hMW hMT
