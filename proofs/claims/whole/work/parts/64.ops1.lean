set_option maxRecDepth 100000 in
set_option maxHeartbeats 4000000 in
theorem op_stackOf {l : Launch} {G : gG} {b0 : Nat} {Z : ZT} (hZ : ZOK Z) (x y : Int32) : ∃ (ans : Int32) (Z2 : ZT), ZOK Z2 ∧ (∀ n σ mi, WX G b0 n σ Z mi → (GM l G yX6_stackOf cX6_stackOf 5 (some .int) rmC n σ [.ref b0, .int x, .int y] (PX G b0 n σ mi Z2 ans)) ∨ (1 ≤ mi ∧ GM l G yX6_stackOf cX6_stackOf 5 (some .int) rmS n σ [.ref b0, .int x, .int y] (PX G b0 n σ (mi - 1) Z2 ans))) ∧ (∀ n σ, WM G b0 σ Z → GM l G yX7_stackOf cX7_stackOf 3 (some .int) rmM n σ [.ref (b0 + 44), .int x, .int y] (PM G b0 n σ Z2 ans)) := by
  obtain ⟨hA, hHA, hS4, hL50, hX128⟩ := id hZ
  have hN5 := hA.1
  cases hS : isS x (aN (zA Z)) with
  | false =>
    refine ⟨(-1000001), Z, hZ, fun n σ mi hW => Or.inl ?_, fun n σ hM => ?_⟩
    · obtain ⟨ph, tau, fp, fq, fx, rs, fpl, tn, op, dg, ftx, Kn, Kt, Ka, Kb, Kc, Kd, hp4, hE, hD, hBn, hSR, hmi, ⟨kn, kt, ka, kb, kc, kd⟩, hKA, hKT, hHi, hTx⟩ := id hW
      have eN : kN Kn = aN (zA Z) := hKA.1
      refine GM.post (GM.room2 (c_X6_stackOf_x (K := Kn) (wx_at0 hE rfl) (wx_at hE 7 rfl) ((by omega)) (by rw [eN]; exact hS)) (Nat.le_of_ble_eq_true rfl) (Nat.le_of_ble_eq_true rfl) (Nat.le_of_ble_eq_true rfl) (Nat.le_of_ble_eq_true rfl)) (fun v n' σ' hp => ?_)
      obtain ⟨e1, e2, e3⟩ := hp
      exact px_read hW (by rw [← e1] <;> rfl) e2 e3
    · obtain ⟨xat, xreason, xdone, xkind, xn, xstrength, fs, fwas, fbegun, faside, ftext, fsize, fburnt, fnext, ffar, fthen, fqueue, frankAt, fturnAt, hE, hMR, hMW, hMT⟩ := id hM
      refine GM.post (GM.room2 (GM.heap hE (c_X7_stackOf_x (ns := aN (zA Z))  (hMR.1) (hS))) (Nat.le_of_ble_eq_true rfl) (Nat.le_of_ble_eq_true rfl) (Nat.le_of_ble_eq_true rfl) (Nat.le_of_ble_eq_true rfl)) (fun v n' σ' hp => ?_)
      obtain ⟨e1, e2, e3⟩ := hp
      exact pm_mk (by rw [← e1] <;> rfl) e2 e3 rfl rfl hMR hMW hMT
  | true =>
    obtain ⟨k, hk, rfl⟩ := isS_of hN5 hS
    have hvk := hA.2.2 k hk
    have hN6 := hvk.1.N
    have hN1 := hvk.1.2.1
    have hsd := hvk.2.2
    cases hy : decide (nI 0 ≤ y ∧ y ≤ nI 9) with
    | false =>
      refine ⟨(-1000001), Z, hZ, fun n σ mi hW => Or.inl ?_, fun n σ hM => ?_⟩
      · obtain ⟨ph, tau, fp, fq, fx, rs, fpl, tn, op, dg, ftx, Kn, Kt, Ka, Kb, Kc, Kd, hp4, hE, hD, hBn, hSR, hmi, ⟨kn, kt, ka, kb, kc, kd⟩, hKA, hKT, hHi, hTx⟩ := id hW
        have eN : kN Kn = aN (zA Z) := hKA.1
        obtain ⟨sa, la0, hs, hsa⟩ := hKT k hk
        obtain ⟨hso, hBs, la, cfl, sv, f1, f2, f3, f4, f5, hBl, z0, z1, z2, z3, z4, z5, z6, g1, g2, g3, g4, g5⟩ := hD.shp hsa
        refine GM.post (GM.room2 (c_X6_stackOf_z (k := k) (K := Kn) (wx_at0 hE rfl) (wx_at hE 7 rfl) (wx_at hE 10 rfl) (wx_at hE 11 rfl) ((by omega)) ((by omega)) (hs) (hy)) (Nat.le_of_ble_eq_true rfl) (Nat.le_of_ble_eq_true rfl) (Nat.le_of_ble_eq_true rfl) (Nat.le_of_ble_eq_true rfl)) (fun v n' σ' hp => ?_)
        obtain ⟨e1, e2, e3⟩ := hp
        exact px_read hW (by rw [← e1] <;> rfl) e2 e3
      · obtain ⟨xat, xreason, xdone, xkind, xn, xstrength, fs, fwas, fbegun, faside, ftext, fsize, fburnt, fnext, ffar, fthen, fqueue, frankAt, fturnAt, hE, hMR, hMW, hMT⟩ := id hM
        refine GM.post (GM.room2 (GM.heap hE (c_X7_stackOf_z (k := k)  (hMR.1) (hA.1) (hk) ((hMR.2.2.2.2 k hk).1) ((hA.2.2 k hk)) (hy))) (Nat.le_of_ble_eq_true rfl) (Nat.le_of_ble_eq_true rfl) (Nat.le_of_ble_eq_true rfl) (Nat.le_of_ble_eq_true rfl)) (fun v n' σ' hp => ?_)
        obtain ⟨e1, e2, e3⟩ := hp
        exact pm_mk (by rw [← e1] <;> rfl) e2 e3 rfl rfl hMR hMW hMT
    | true =>
      obtain ⟨w, w0, w1, rfl⟩ := in_of (by omega) (by omega) hy
      refine ⟨(sof (aKd (zA Z) k) (aCk (zA Z) k) (aSr (zA Z) k) (aO (zA Z) k) (aSd (zA Z) k) (aMd (zA Z) k) w), Z, hZ, fun n σ mi hW => Or.inl ?_, fun n σ hM => ?_⟩
      · obtain ⟨ph, tau, fp, fq, fx, rs, fpl, tn, op, dg, ftx, Kn, Kt, Ka, Kb, Kc, Kd, hp4, hE, hD, hBn, hSR, hmi, ⟨kn, kt, ka, kb, kc, kd⟩, hKA, hKT, hHi, hTx⟩ := id hW
        have eN : kN Kn = aN (zA Z) := hKA.1
        obtain ⟨sa, la0, hs, hsa⟩ := hKT k hk
        obtain ⟨hso, hBs, la, cfl, sv, f1, f2, f3, f4, f5, hBl, z0, z1, z2, z3, z4, z5, z6, g1, g2, g3, g4, g5⟩ := hD.shp hsa
        refine GM.post (GM.room2 (c_X6_stackOf_y (cfl := 0) (k := k) (K := Kn) (w := w) (r := (rk (sid (aKd (zA Z) k)) (aCk (zA Z) k) (aO (zA Z) k) (aSd (zA Z) k))) (wx_at0 hE rfl) (wx_at hE 7 rfl) (wx_at hE 10 rfl) (wx_at hE 11 rfl) (wx_at hE 12 rfl) z0 z1 z2 z3 z4 z5 z6 ((by omega)) ((by omega)) (hs) (hso) (g1) (g2) (g3) (g4) (g5) ((hKA.2.2.2.2 k hk).1) ((rk_at hA hk rfl rfl)) (by omega)) (Nat.le_of_ble_eq_true rfl) (Nat.le_of_ble_eq_true rfl) (Nat.le_of_ble_eq_true rfl) (Nat.le_of_ble_eq_true rfl)) (fun v n' σ' hp => ?_)
        obtain ⟨e1, e2, e3⟩ := hp
        exact px_read hW (by rw [← e1] <;> rw [oR_rk hsd, sR_rk hsd, (hKA.2.2.2.2 k hk).2]) e2 e3
      · obtain ⟨xat, xreason, xdone, xkind, xn, xstrength, fs, fwas, fbegun, faside, ftext, fsize, fburnt, fnext, ffar, fthen, fqueue, frankAt, fturnAt, hE, hMR, hMW, hMT⟩ := id hM
        refine GM.post (GM.room2 (GM.heap hE (c_X7_stackOf_y (k := k) (w := w)  (hMR.1) (hA.1) (hk) ((hMR.2.2.2.2 k hk).1) ((hA.2.2 k hk)) (by omega))) (Nat.le_of_ble_eq_true rfl) (Nat.le_of_ble_eq_true rfl) (Nat.le_of_ble_eq_true rfl) (Nat.le_of_ble_eq_true rfl)) (fun v n' σ' hp => ?_)
        obtain ⟨e1, e2, f2, g2, e3⟩ := hp
        exact pm_mk (by rw [← e1] <;> rw [(hMR.2.2.2.2 k hk).2]) e2 e3 rfl rfl hMR hMW hMT

set_option maxRecDepth 100000 in
set_option maxHeartbeats 4000000 in
theorem op_cakeAt {l : Launch} {G : gG} {b0 : Nat} {Z : ZT} (hZ : ZOK Z) (x y : Int32) : ∃ (ans : Int32) (Z2 : ZT), ZOK Z2 ∧ (∀ n σ mi, WX G b0 n σ Z mi → (GM l G yX6_cakeAt cX6_cakeAt 6 (some .int) rmC n σ [.ref b0, .int x, .int y] (PX G b0 n σ mi Z2 ans)) ∨ (1 ≤ mi ∧ GM l G yX6_cakeAt cX6_cakeAt 6 (some .int) rmS n σ [.ref b0, .int x, .int y] (PX G b0 n σ (mi - 1) Z2 ans))) ∧ (∀ n σ, WM G b0 σ Z → GM l G yX7_cakeAt cX7_cakeAt 3 (some .int) rmM n σ [.ref (b0 + 44), .int x, .int y] (PM G b0 n σ Z2 ans)) := by
  obtain ⟨hA, hHA, hS4, hL50, hX128⟩ := id hZ
  have hN5 := hA.1
  cases hS : isS x (aN (zA Z)) with
  | false =>
    refine ⟨(-1000001), Z, hZ, fun n σ mi hW => Or.inl ?_, fun n σ hM => ?_⟩
    · obtain ⟨ph, tau, fp, fq, fx, rs, fpl, tn, op, dg, ftx, Kn, Kt, Ka, Kb, Kc, Kd, hp4, hE, hD, hBn, hSR, hmi, ⟨kn, kt, ka, kb, kc, kd⟩, hKA, hKT, hHi, hTx⟩ := id hW
      have eN : kN Kn = aN (zA Z) := hKA.1
      refine GM.post (GM.room2 (c_X6_cakeAt_x (K := Kn) (wx_at0 hE rfl) (wx_at hE 7 rfl) ((by omega)) (by rw [eN]; exact hS)) (Nat.le_of_ble_eq_true rfl) (Nat.le_of_ble_eq_true rfl) (Nat.le_of_ble_eq_true rfl) (Nat.le_of_ble_eq_true rfl)) (fun v n' σ' hp => ?_)
      obtain ⟨e1, e2, e3⟩ := hp
      exact px_read hW (by rw [← e1] <;> rfl) e2 e3
    · obtain ⟨xat, xreason, xdone, xkind, xn, xstrength, fs, fwas, fbegun, faside, ftext, fsize, fburnt, fnext, ffar, fthen, fqueue, frankAt, fturnAt, hE, hMR, hMW, hMT⟩ := id hM
      refine GM.post (GM.room2 (GM.heap hE (c_X7_cakeAt_x (ns := aN (zA Z))  (hMR.1) (hS))) (Nat.le_of_ble_eq_true rfl) (Nat.le_of_ble_eq_true rfl) (Nat.le_of_ble_eq_true rfl) (Nat.le_of_ble_eq_true rfl)) (fun v n' σ' hp => ?_)
      obtain ⟨e1, e2, e3⟩ := hp
      exact pm_mk (by rw [← e1] <;> rfl) e2 e3 rfl rfl hMR hMW hMT
  | true =>
    obtain ⟨k, hk, rfl⟩ := isS_of hN5 hS
    have hvk := hA.2.2 k hk
    have hN6 := hvk.1.N
    have hN1 := hvk.1.2.1
    have hsd := hvk.2.2
    cases hy : decide (nI 0 ≤ y ∧ y ≤ nI (aCk (zA Z) k - 1)) with
    | false =>
      refine ⟨(-1000001), Z, hZ, fun n σ mi hW => Or.inl ?_, fun n σ hM => ?_⟩
      · obtain ⟨ph, tau, fp, fq, fx, rs, fpl, tn, op, dg, ftx, Kn, Kt, Ka, Kb, Kc, Kd, hp4, hE, hD, hBn, hSR, hmi, ⟨kn, kt, ka, kb, kc, kd⟩, hKA, hKT, hHi, hTx⟩ := id hW
        have eN : kN Kn = aN (zA Z) := hKA.1
        obtain ⟨sa, la0, hs, hsa⟩ := hKT k hk
        obtain ⟨hso, hBs, la, cfl, sv, f1, f2, f3, f4, f5, hBl, z0, z1, z2, z3, z4, z5, z6, g1, g2, g3, g4, g5⟩ := hD.shp hsa
        refine GM.post (GM.room2 (c_X6_cakeAt_z (k := k) (K := Kn) (wx_at0 hE rfl) (wx_at hE 7 rfl) (wx_at hE 10 rfl) z0 ((by omega)) ((by omega)) (hs) (⟨hN1, hN6⟩) (hy)) (Nat.le_of_ble_eq_true rfl) (Nat.le_of_ble_eq_true rfl) (Nat.le_of_ble_eq_true rfl) (Nat.le_of_ble_eq_true rfl)) (fun v n' σ' hp => ?_)
        obtain ⟨e1, e2, e3⟩ := hp
        exact px_read hW (by rw [← e1] <;> rfl) e2 e3
      · obtain ⟨xat, xreason, xdone, xkind, xn, xstrength, fs, fwas, fbegun, faside, ftext, fsize, fburnt, fnext, ffar, fthen, fqueue, frankAt, fturnAt, hE, hMR, hMW, hMT⟩ := id hM
        refine GM.post (GM.room2 (GM.heap hE (c_X7_cakeAt_z (k := k)  (hMR.1) (hA.1) (hk) ((hMR.2.2.2.2 k hk).1) ((hA.2.2 k hk)) (hy))) (Nat.le_of_ble_eq_true rfl) (Nat.le_of_ble_eq_true rfl) (Nat.le_of_ble_eq_true rfl) (Nat.le_of_ble_eq_true rfl)) (fun v n' σ' hp => ?_)
        obtain ⟨e1, e2, e3⟩ := hp
        exact pm_mk (by rw [← e1] <;> rfl) e2 e3 rfl rfl hMR hMW hMT
    | true =>
      obtain ⟨w, w0, w1, rfl⟩ := in_of (by omega) (by omega) hy
      refine ⟨((nI (sz (aCk (zA Z) k) (aO (zA Z) k) w)) - (nI (10 * (bt (aSd (zA Z) k) w)))), Z, hZ, fun n σ mi hW => Or.inl ?_, fun n σ hM => ?_⟩
      · obtain ⟨ph, tau, fp, fq, fx, rs, fpl, tn, op, dg, ftx, Kn, Kt, Ka, Kb, Kc, Kd, hp4, hE, hD, hBn, hSR, hmi, ⟨kn, kt, ka, kb, kc, kd⟩, hKA, hKT, hHi, hTx⟩ := id hW
        have eN : kN Kn = aN (zA Z) := hKA.1
        obtain ⟨sa, la0, hs, hsa⟩ := hKT k hk
        obtain ⟨hso, hBs, la, cfl, sv, f1, f2, f3, f4, f5, hBl, z0, z1, z2, z3, z4, z5, z6, g1, g2, g3, g4, g5⟩ := hD.shp hsa
        refine GM.post (GM.room2 (c_X6_cakeAt_y (cfl := 0) (k := k) (K := Kn) (q := w) (r := (rk (sid (aKd (zA Z) k)) (aCk (zA Z) k) (aO (zA Z) k) (aSd (zA Z) k))) (wx_at0 hE rfl) (wx_at hE 7 rfl) (wx_at hE 10 rfl) (wx_at hE 11 rfl) (wx_at hE 12 rfl) z0 z1 z2 z3 z4 z5 z6 ((by omega)) ((by omega)) (hs) (hso) (g1) (g2) (g3) (g4) (g5) ((hKA.2.2.2.2 k hk).1) ((rk_at hA hk rfl rfl)) (by omega)) (Nat.le_of_ble_eq_true rfl) (Nat.le_of_ble_eq_true rfl) (Nat.le_of_ble_eq_true rfl) (Nat.le_of_ble_eq_true rfl)) (fun v n' σ' hp => ?_)
        obtain ⟨e1, e2, e3⟩ := hp
        exact px_read hW (by rw [← e1] <;> rw [oR_rk hsd, sR_rk hsd]) e2 e3
      · obtain ⟨xat, xreason, xdone, xkind, xn, xstrength, fs, fwas, fbegun, faside, ftext, fsize, fburnt, fnext, ffar, fthen, fqueue, frankAt, fturnAt, hE, hMR, hMW, hMT⟩ := id hM
        refine GM.post (GM.room2 (GM.heap hE (c_X7_cakeAt_y (k := k) (q := w)  (hMR.1) (hA.1) (hk) ((hMR.2.2.2.2 k hk).1) ((hA.2.2 k hk)) (by omega))) (Nat.le_of_ble_eq_true rfl) (Nat.le_of_ble_eq_true rfl) (Nat.le_of_ble_eq_true rfl) (Nat.le_of_ble_eq_true rfl)) (fun v n' σ' hp => ?_)
        obtain ⟨e1, e2, f2, g2, e3⟩ := hp
        exact pm_mk (by rw [← e1] <;> rfl) e2 e3 rfl rfl hMR hMW hMT

set_option maxRecDepth 100000 in
set_option maxHeartbeats 4000000 in
theorem op_gapsBehind {l : Launch} {G : gG} {b0 : Nat} {Z : ZT} (hZ : ZOK Z) (x y : Int32) : ∃ (ans : Int32) (Z2 : ZT), ZOK Z2 ∧ (∀ n σ mi, WX G b0 n σ Z mi → (GM l G yX6_gapsBehind cX6_gapsBehind 4 (some .int) rmC n σ [.ref b0, .int x, .int y] (PX G b0 n σ mi Z2 ans)) ∨ (1 ≤ mi ∧ GM l G yX6_gapsBehind cX6_gapsBehind 4 (some .int) rmS n σ [.ref b0, .int x, .int y] (PX G b0 n σ (mi - 1) Z2 ans))) ∧ (∀ n σ, WM G b0 σ Z → GM l G yX7_gapsBehind cX7_gapsBehind 3 (some .int) rmM n σ [.ref (b0 + 44), .int x, .int y] (PM G b0 n σ Z2 ans)) := by
  obtain ⟨hA, hHA, hS4, hL50, hX128⟩ := id hZ
  have hN5 := hA.1
  cases hS : isS x (aN (zA Z)) with
  | false =>
    refine ⟨(-1000001), Z, hZ, fun n σ mi hW => Or.inl ?_, fun n σ hM => ?_⟩
    · obtain ⟨ph, tau, fp, fq, fx, rs, fpl, tn, op, dg, ftx, Kn, Kt, Ka, Kb, Kc, Kd, hp4, hE, hD, hBn, hSR, hmi, ⟨kn, kt, ka, kb, kc, kd⟩, hKA, hKT, hHi, hTx⟩ := id hW
      have eN : kN Kn = aN (zA Z) := hKA.1
      refine GM.post (GM.room2 (c_X6_gapsBehind_x (K := Kn) (wx_at0 hE rfl) (wx_at hE 7 rfl) ((by omega)) (by rw [eN]; exact hS)) (Nat.le_of_ble_eq_true rfl) (Nat.le_of_ble_eq_true rfl) (Nat.le_of_ble_eq_true rfl) (Nat.le_of_ble_eq_true rfl)) (fun v n' σ' hp => ?_)
      obtain ⟨e1, e2, e3⟩ := hp
      exact px_read hW (by rw [← e1] <;> rfl) e2 e3
    · obtain ⟨xat, xreason, xdone, xkind, xn, xstrength, fs, fwas, fbegun, faside, ftext, fsize, fburnt, fnext, ffar, fthen, fqueue, frankAt, fturnAt, hE, hMR, hMW, hMT⟩ := id hM
      refine GM.post (GM.room2 (GM.heap hE (c_X7_gapsBehind_x (ns := aN (zA Z))  (hMR.1) (hS))) (Nat.le_of_ble_eq_true rfl) (Nat.le_of_ble_eq_true rfl) (Nat.le_of_ble_eq_true rfl) (Nat.le_of_ble_eq_true rfl)) (fun v n' σ' hp => ?_)
      obtain ⟨e1, e2, e3⟩ := hp
      exact pm_mk (by rw [← e1] <;> rfl) e2 e3 rfl rfl hMR hMW hMT
  | true =>
    obtain ⟨k, hk, rfl⟩ := isS_of hN5 hS
    have hvk := hA.2.2 k hk
    have hN6 := hvk.1.N
    have hN1 := hvk.1.2.1
    have hsd := hvk.2.2
    cases hy : decide (nI 1 ≤ y ∧ y ≤ nI (aCk (zA Z) k)) with
    | false =>
      refine ⟨(-1000001), Z, hZ, fun n σ mi hW => Or.inl ?_, fun n σ hM => ?_⟩
      · obtain ⟨ph, tau, fp, fq, fx, rs, fpl, tn, op, dg, ftx, Kn, Kt, Ka, Kb, Kc, Kd, hp4, hE, hD, hBn, hSR, hmi, ⟨kn, kt, ka, kb, kc, kd⟩, hKA, hKT, hHi, hTx⟩ := id hW
        have eN : kN Kn = aN (zA Z) := hKA.1
        obtain ⟨sa, la0, hs, hsa⟩ := hKT k hk
        obtain ⟨hso, hBs, la, cfl, sv, f1, f2, f3, f4, f5, hBl, z0, z1, z2, z3, z4, z5, z6, g1, g2, g3, g4, g5⟩ := hD.shp hsa
        refine GM.post (GM.room2 (c_X6_gapsBehind_z (k := k) (K := Kn) (wx_at0 hE rfl) (wx_at hE 7 rfl) (wx_at hE 10 rfl) z0 ((by omega)) ((by omega)) (hs) (⟨hN1, hN6⟩) (hy)) (Nat.le_of_ble_eq_true rfl) (Nat.le_of_ble_eq_true rfl) (Nat.le_of_ble_eq_true rfl) (Nat.le_of_ble_eq_true rfl)) (fun v n' σ' hp => ?_)
        obtain ⟨e1, e2, e3⟩ := hp
        exact px_read hW (by rw [← e1] <;> rfl) e2 e3
      · obtain ⟨xat, xreason, xdone, xkind, xn, xstrength, fs, fwas, fbegun, faside, ftext, fsize, fburnt, fnext, ffar, fthen, fqueue, frankAt, fturnAt, hE, hMR, hMW, hMT⟩ := id hM
        refine GM.post (GM.room2 (GM.heap hE (c_X7_gapsBehind_z (k := k)  (hMR.1) (hA.1) (hk) ((hMR.2.2.2.2 k hk).1) ((hA.2.2 k hk)) (hy))) (Nat.le_of_ble_eq_true rfl) (Nat.le_of_ble_eq_true rfl) (Nat.le_of_ble_eq_true rfl) (Nat.le_of_ble_eq_true rfl)) (fun v n' σ' hp => ?_)
        obtain ⟨e1, e2, e3⟩ := hp
        exact pm_mk (by rw [← e1] <;> rfl) e2 e3 rfl rfl hMR hMW hMT
    | true =>
      obtain ⟨w, w0, w1, rfl⟩ := in_of (by omega) (by omega) hy
      refine ⟨(nI (gp (sid (aKd (zA Z) k)) (aCk (zA Z) k) (tnO (aCk (zA Z) k) (aO (zA Z) k) w) (tnS (sid (aKd (zA Z) k)) (aSd (zA Z) k) w))), Z, hZ, fun n σ mi hW => Or.inl ?_, fun n σ hM => ?_⟩
      · obtain ⟨ph, tau, fp, fq, fx, rs, fpl, tn, op, dg, ftx, Kn, Kt, Ka, Kb, Kc, Kd, hp4, hE, hD, hBn, hSR, hmi, ⟨kn, kt, ka, kb, kc, kd⟩, hKA, hKT, hHi, hTx⟩ := id hW
        have eN : kN Kn = aN (zA Z) := hKA.1
        obtain ⟨sa, la0, hs, hsa⟩ := hKT k hk
        obtain ⟨hso, hBs, la, cfl, sv, f1, f2, f3, f4, f5, hBl, z0, z1, z2, z3, z4, z5, z6, g1, g2, g3, g4, g5⟩ := hD.shp hsa
        refine GM.post (GM.room2 (c_X6_gapsBehind_y (cfl := 0) (k := k) (K := Kn) (w := w) (r := (rk (sid (aKd (zA Z) k)) (aCk (zA Z) k) (aO (zA Z) k) (aSd (zA Z) k))) (wx_at0 hE rfl) (wx_at hE 7 rfl) (wx_at hE 10 rfl) (wx_at hE 11 rfl) (wx_at hE 12 rfl) z0 z1 z2 z3 z4 z5 z6 ((by omega)) ((by omega)) (hs) (hso) (g1) (g2) (g3) (g4) (g5) ((hKA.2.2.2.2 k hk).1) ((rk_at hA hk rfl rfl)) (⟨w0, w1⟩)) (Nat.le_of_ble_eq_true rfl) (Nat.le_of_ble_eq_true rfl) (Nat.le_of_ble_eq_true rfl) (Nat.le_of_ble_eq_true rfl)) (fun v n' σ' hp => ?_)
        obtain ⟨e1, e2, e3⟩ := hp
        exact px_read hW (by rw [← e1] <;> rw [oR_rk hsd, sR_rk hsd]) e2 e3
      · obtain ⟨xat, xreason, xdone, xkind, xn, xstrength, fs, fwas, fbegun, faside, ftext, fsize, fburnt, fnext, ffar, fthen, fqueue, frankAt, fturnAt, hE, hMR, hMW, hMT⟩ := id hM
        refine GM.post (GM.room2 (GM.heap hE (c_X7_gapsBehind_y (k := k) (w := w)  (hMR.1) (hA.1) (hk) ((hMR.2.2.2.2 k hk).1) ((hA.2.2 k hk)) (⟨w0, w1⟩))) (Nat.le_of_ble_eq_true rfl) (Nat.le_of_ble_eq_true rfl) (Nat.le_of_ble_eq_true rfl) (Nat.le_of_ble_eq_true rfl)) (fun v n' σ' hp => ?_)
        obtain ⟨e1, e2, f2, g2, e3⟩ := hp
        exact pm_mk (by rw [← e1] <;> rfl) e2 e3 rfl rfl hMR hMW hMT

set_option maxRecDepth 100000 in
set_option maxHeartbeats 4000000 in
theorem op_bestTurn {l : Launch} {G : gG} {b0 : Nat} {Z : ZT} (hZ : ZOK Z) (x : Int32) : ∃ (ans : Int32) (Z2 : ZT), ZOK Z2 ∧ (∀ n σ mi, WX G b0 n σ Z mi → (GM l G yX6_bestTurn cX6_bestTurn 4 (some .int) rmC n σ [.ref b0, .int x] (PX G b0 n σ mi Z2 ans)) ∨ (1 ≤ mi ∧ GM l G yX6_bestTurn cX6_bestTurn 4 (some .int) rmS n σ [.ref b0, .int x] (PX G b0 n σ (mi - 1) Z2 ans))) ∧ (∀ n σ, WM G b0 σ Z → GM l G yX7_bestTurn cX7_bestTurn 7 (some .int) rmM n σ [.ref (b0 + 44), .int x] (PM G b0 n σ Z2 ans)) := by
  obtain ⟨hA, hHA, hS4, hL50, hX128⟩ := id hZ
  have hN5 := hA.1
  cases hS : isS x (aN (zA Z)) with
  | false =>
    refine ⟨(-1000001), Z, hZ, fun n σ mi hW => Or.inl ?_, fun n σ hM => ?_⟩
    · obtain ⟨ph, tau, fp, fq, fx, rs, fpl, tn, op, dg, ftx, Kn, Kt, Ka, Kb, Kc, Kd, hp4, hE, hD, hBn, hSR, hmi, ⟨kn, kt, ka, kb, kc, kd⟩, hKA, hKT, hHi, hTx⟩ := id hW
      have eN : kN Kn = aN (zA Z) := hKA.1
      refine GM.post (GM.room2 (c_X6_bestTurn_x (K := Kn) (wx_at0 hE rfl) (wx_at hE 7 rfl) ((by omega)) (by rw [eN]; exact hS)) (Nat.le_of_ble_eq_true rfl) (Nat.le_of_ble_eq_true rfl) (Nat.le_of_ble_eq_true rfl) (Nat.le_of_ble_eq_true rfl)) (fun v n' σ' hp => ?_)
      obtain ⟨e1, e2, e3⟩ := hp
      exact px_read hW (by rw [← e1] <;> rfl) e2 e3
    · obtain ⟨xat, xreason, xdone, xkind, xn, xstrength, fs, fwas, fbegun, faside, ftext, fsize, fburnt, fnext, ffar, fthen, fqueue, frankAt, fturnAt, hE, hMR, hMW, hMT⟩ := id hM
      refine GM.post (GM.room2 (GM.heap hE (c_X7_bestTurn_x (ns := aN (zA Z))  (hMR.1) (hS))) (Nat.le_of_ble_eq_true rfl) (Nat.le_of_ble_eq_true rfl) (Nat.le_of_ble_eq_true rfl) (Nat.le_of_ble_eq_true rfl)) (fun v n' σ' hp => ?_)
      obtain ⟨e1, e2, e3⟩ := hp
      exact pm_mk (by rw [← e1] <;> rfl) e2 e3 rfl rfl hMR hMW hMT
  | true =>
    obtain ⟨k, hk, rfl⟩ := isS_of hN5 hS
    have hvk := hA.2.2 k hk
    have hN6 := hvk.1.N
    have hN1 := hvk.1.2.1
    have hsd := hvk.2.2
    refine ⟨(fnd (bst (aKd (zA Z) k) (aCk (zA Z) k) (aSr (zA Z) k) (aO (zA Z) k) (aSd (zA Z) k) (aCk (zA Z) k)).1), Z, hZ, fun n σ mi hW => Or.inl ?_, fun n σ hM => ?_⟩
    · obtain ⟨ph, tau, fp, fq, fx, rs, fpl, tn, op, dg, ftx, Kn, Kt, Ka, Kb, Kc, Kd, hp4, hE, hD, hBn, hSR, hmi, ⟨kn, kt, ka, kb, kc, kd⟩, hKA, hKT, hHi, hTx⟩ := id hW
      have eN : kN Kn = aN (zA Z) := hKA.1
      obtain ⟨sa, la0, hs, hsa⟩ := hKT k hk
      obtain ⟨hso, hBs, la, cfl, sv, f1, f2, f3, f4, f5, hBl, z0, z1, z2, z3, z4, z5, z6, g1, g2, g3, g4, g5⟩ := hD.shp hsa
      refine GM.post (GM.room2 (c_X6_bestTurn_y (cfl := 0) (k := k) (K := Kn) (r := (rk (sid (aKd (zA Z) k)) (aCk (zA Z) k) (aO (zA Z) k) (aSd (zA Z) k))) (wx_at0 hE rfl) (wx_at hE 7 rfl) (wx_at hE 10 rfl) (wx_at hE 11 rfl) (wx_at hE 12 rfl) z0 z1 z2 z3 z4 z5 z6 ((by omega)) ((by omega)) (hs) (hso) (g1) (g2) (g3) (g4) (g5) ((hKA.2.2.2.2 k hk).1) ((rk_at hA hk rfl rfl))) (Nat.le_of_ble_eq_true rfl) (Nat.le_of_ble_eq_true rfl) (Nat.le_of_ble_eq_true rfl) (Nat.le_of_ble_eq_true rfl)) (fun v n' σ' hp => ?_)
      obtain ⟨e1, e2, e3⟩ := hp
      exact px_read hW (by rw [← e1] <;> rw [oR_rk hsd, sR_rk hsd]) e2 e3
    · obtain ⟨xat, xreason, xdone, xkind, xn, xstrength, fs, fwas, fbegun, faside, ftext, fsize, fburnt, fnext, ffar, fthen, fqueue, frankAt, fturnAt, hE, hMR, hMW, hMT⟩ := id hM
      refine GM.post (GM.room2 (GM.heap hE (c_X7_bestTurn_y (k := k)  (hMR.1) (hA.1) (hk) ((hMR.2.2.2.2 k hk).1) ((hA.2.2 k hk)))) (Nat.le_of_ble_eq_true rfl) (Nat.le_of_ble_eq_true rfl) (Nat.le_of_ble_eq_true rfl) (Nat.le_of_ble_eq_true rfl)) (fun v n' σ' hp => ?_)
      obtain ⟨e1, e2, f2, g2, e3⟩ := hp
      exact pm_mk (by rw [← e1] <;> rfl) e2 e3 rfl rfl hMR hMW hMT
