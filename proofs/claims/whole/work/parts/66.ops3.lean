theorem lay_z {z : Int32} {b : Nat} (h : decide (nI 0 ≤ z ∧ z ≤ nI b) = false) : z < 0 ∨ nI b < z := by
  rw [decide_eq_false_iff_not] at h
  by_cases g : z < 0
  · exact Or.inl g
  · refine Or.inr (Int32.not_le.mp (fun q => h ⟨Int32.not_lt.mp g, q⟩))
theorem lay_c {N cw : Nat} (h : ¬ ∃ o2, o2 < fac N ∧ nI (cd N o2) = nI cw) : isC N cw = false := by
  rw [Bool.eq_false_iff]
  intro g
  obtain ⟨o, ho, rfl⟩ := isC_iff.mp g
  exact h ⟨o, ho, rfl⟩
theorem KSh_4 {tau : Nat → Option Rl} {Ka Kb Kc Kd : KT} (ha : KSh tau Ka) (hb : KSh tau Kb) (hc : KSh tau Kc) (hd : KSh tau Kd) {ph : Nat} (i : Nat) : KSh tau (hP ph Ka Kb Kc Kd i) := by
  unfold hP hK4
  split
  · exact ha
  · split
    · exact hb
    · split
      · exact hc
      · exact hd
theorem txt_s {f : Nat → Int32} {t : Nat → Nat} {L w : Nat} (h : ∀ j, j < L → f j = nI (t j)) : ∀ j, j < L + 1 → upd f L (nI w) j = nI (if j = L then w else t j) := fun j hj => by
  by_cases e : j = L
  · rw [if_pos e, e, pk_us]
  · rw [if_neg e, pk_un e]
    exact h j (by omega)
set_option maxRecDepth 100000 in
set_option maxHeartbeats 4000000 in
theorem op_turn {l : Launch} {G : gG} {b0 : Nat} {Z : ZT} (hZ : ZOK Z) (x y : Int32) : ∃ (ans : Int32) (Z2 : ZT), ZOK Z2 ∧ (∀ n σ mi, WX G b0 n σ Z mi → (GM l G yX6_turn cX6_turn 4 (some .int) rmC n σ [.ref b0, .int x, .int y] (PX G b0 n σ mi Z2 ans)) ∨ (1 ≤ mi ∧ GM l G yX6_turn cX6_turn 4 (some .int) rmS n σ [.ref b0, .int x, .int y] (PX G b0 n σ (mi - 1) Z2 ans))) ∧ (∀ n σ, WM G b0 σ Z → GM l G yX7_turn cX7_turn 3 (some .int) rmM n σ [.ref (b0 + 44), .int x, .int y] (PM G b0 n σ Z2 ans)) := by
  obtain ⟨hA, hHA, hS4, hL50, hX128⟩ := id hZ
  have hN5 := hA.1
  cases hS : isS x (aN (zA Z)) with
  | false =>
    refine ⟨(-1000001), Z, hZ, fun n σ mi hW => Or.inl ?_, fun n σ hM => ?_⟩
    · obtain ⟨ph, tau, fp, fq, fx, rs, fpl, tn, op, dg, ftx, Kn, Kt, Ka, Kb, Kc, Kd, hp4, hE, hD, hBn, hSR, hmi, ⟨kn, kt, ka, kb, kc, kd⟩, hKA, hKT, hHi, hTx⟩ := id hW
      have eN : kN Kn = aN (zA Z) := hKA.1
      refine GM.post (GM.room2 (c_X6_turn_x (K := Kn) (wx_at0 hE rfl) (wx_at hE 7 rfl) ((by omega)) (by rw [eN]; exact hS)) (Nat.le_of_ble_eq_true rfl) (Nat.le_of_ble_eq_true rfl) (Nat.le_of_ble_eq_true rfl) (Nat.le_of_ble_eq_true rfl)) (fun v n' σ' hp => ?_)
      obtain ⟨e1, e2, e3⟩ := hp
      exact px_read hW (by rw [← e1] <;> rfl) e2 e3
    · obtain ⟨xat, xreason, xdone, xkind, xn, xstrength, fs, fwas, fbegun, faside, ftext, fsize, fburnt, fnext, ffar, fthen, fqueue, frankAt, fturnAt, hE, hMR, hMW, hMT⟩ := id hM
      refine GM.post (GM.room2 (GM.heap hE (c_X7_turn_x (ns := aN (zA Z))  (hMR.1) (hS))) (Nat.le_of_ble_eq_true rfl) (Nat.le_of_ble_eq_true rfl) (Nat.le_of_ble_eq_true rfl) (Nat.le_of_ble_eq_true rfl)) (fun v n' σ' hp => ?_)
      obtain ⟨e1, e2, e3⟩ := hp
      exact pm_mk (by rw [← e1] <;> rfl) e2 e3 rfl rfl hMR hMW hMT
  | true =>
    obtain ⟨k, hk, rfl⟩ := isS_of hN5 hS
    have hvk := hA.2.2 k hk
    have hN6 := hvk.1.N
    have hN1 := hvk.1.2.1
    have hsd := hvk.2.2
    cases hy : decide (nI 1 ≤ y ∧ y ≤ nI (aCk (zA Z) k)) with
    | false =>
      refine ⟨(-1000001), Z, hZ, fun n σ mi hW => Or.inl ?_, fun n σ hM => ?_⟩
      · obtain ⟨ph, tau, fp, fq, fx, rs, fpl, tn, op, dg, ftx, Kn, Kt, Ka, Kb, Kc, Kd, hp4, hE, hD, hBn, hSR, hmi, ⟨kn, kt, ka, kb, kc, kd⟩, hKA, hKT, hHi, hTx⟩ := id hW
        have eN : kN Kn = aN (zA Z) := hKA.1
        obtain ⟨sa, la0, hs, hsa⟩ := hKT k hk
        obtain ⟨hso, hBs, la, cfl, sv, f1, f2, f3, f4, f5, hBl, z0, z1, z2, z3, z4, z5, z6, g1, g2, g3, g4, g5⟩ := hD.shp hsa
        refine GM.post (GM.room2 (c_X6_turn_z (k := k) (K := Kn) (wx_at0 hE rfl) (wx_at hE 7 rfl) (wx_at hE 10 rfl) z0 ((by omega)) ((by omega)) (hs) (⟨hN1, hN6⟩) (hy)) (Nat.le_of_ble_eq_true rfl) (Nat.le_of_ble_eq_true rfl) (Nat.le_of_ble_eq_true rfl) (Nat.le_of_ble_eq_true rfl)) (fun v n' σ' hp => ?_)
        obtain ⟨e1, e2, e3⟩ := hp
        exact px_read hW (by rw [← e1] <;> rfl) e2 e3
      · obtain ⟨xat, xreason, xdone, xkind, xn, xstrength, fs, fwas, fbegun, faside, ftext, fsize, fburnt, fnext, ffar, fthen, fqueue, frankAt, fturnAt, hE, hMR, hMW, hMT⟩ := id hM
        refine GM.post (GM.room2 (GM.heap hE (c_X7_turn_z (k := k)  (hMR.1) (hA.1) (hk) ((hMR.2.2.2.2 k hk).1) ((hA.2.2 k hk)) (hy))) (Nat.le_of_ble_eq_true rfl) (Nat.le_of_ble_eq_true rfl) (Nat.le_of_ble_eq_true rfl) (Nat.le_of_ble_eq_true rfl)) (fun v n' σ' hp => ?_)
        obtain ⟨e1, e2, e3⟩ := hp
        exact pm_mk (by rw [← e1] <;> rfl) e2 e3 rfl rfl hMR hMW hMT
    | true =>
      obtain ⟨w, w0, w1, rfl⟩ := in_of (by omega) (by omega) hy
      cases hok : okA (zA Z) k w with
      | true =>
        refine ⟨(nI (gp (sid (aKd (zA Z) k)) (aCk (zA Z) k) (tnO (aCk (zA Z) k) (aO (zA Z) k) w) (tnS (sid (aKd (zA Z) k)) (aSd (zA Z) k) w))), zP Z (tnA (zA Z) k w), zP_ok hZ (tnA_ok hA hk hok), fun n σ mi hW => Or.inl ?_, fun n σ hM => ?_⟩
        · obtain ⟨ph, tau, fp, fq, fx, rs, fpl, tn, op, dg, ftx, Kn, Kt, Ka, Kb, Kc, Kd, hp4, hE, hD, hBn, hSR, hmi, ⟨kn, kt, ka, kb, kc, kd⟩, hKA, hKT, hHi, hTx⟩ := id hW
          have eN : kN Kn = aN (zA Z) := hKA.1
          obtain ⟨sa, la0, hs, hsa⟩ := hKT k hk
          obtain ⟨hso, hBs, la, cfl, sv, f1, f2, f3, f4, f5, hBl, z0, z1, z2, z3, z4, z5, z6, g1, g2, g3, g4, g5⟩ := hD.shp hsa
          refine GM.post (GM.room2 (GM.heap hE (c_X6_turn_y (cfl := 0) (k := k) (w := w) (r := (rk (sid (aKd (zA Z) k)) (aCk (zA Z) k) (aO (zA Z) k) (aSd (zA Z) k))) z0 z1 z2 z3 z4 z5 z6 (hS4) (by omega) ((kn.qk hD)) ((kt.qk hD)) ((ka.qk hD)) ((kb.qk hD)) ((kc.qk hD)) ((kd.qk hD)) ((by omega)) (hBs) (hBl) ((by omega)) ((by omega)) ((by rw [hKA.2.1]; exact hA.2.1)) (hs) (hso) (g1) (g2) (g3) (g4) (g5) ((hKA.2.2.2.2 k hk).1) ((rk_at hA hk rfl rfl)) (⟨w0, w1⟩) (((okA_R hA hk rfl rfl rfl).symm.trans hok)))) (Nat.le_of_ble_eq_true rfl) (Nat.le_of_ble_eq_true rfl) (Nat.le_of_ble_eq_true rfl) (Nat.le_of_ble_eq_true rfl)) (fun v n' σ' hp => ?_)
          obtain ⟨e1, e2, ph2, s2, Ka2, Kb2, Kc2, Kd2, e3, ha0, ha1, ha2, ha3, ha4⟩ := hp
          exact px_keep (by rw [← e1] <;> rw [oR_rk hsd, sR_rk hsd]) (by omega) e3 (fun _ _ _ => rfl) (hD.fr (by omega) (fun _ _ _ => rfl)) (by omega) hSR hmi ⟨kn, ka, kb, kc, kd⟩ hKA hKT hHi hTx ha2 ha3 ha4 (kn : KSh tau (kTn Kn k (nx (sid (aKd (zA Z) k)) (aCk (zA Z) k) (rk (sid (aKd (zA Z) k)) (aCk (zA Z) k) (aO (zA Z) k) (aSd (zA Z) k)) w) w)) (kn : KSh tau (kTn Kn k (nx (sid (aKd (zA Z) k)) (aCk (zA Z) k) (rk (sid (aKd (zA Z) k)) (aCk (zA Z) k) (aO (zA Z) k) (aSd (zA Z) k)) w) w)) (KA_tn hKA hA hk hok rfl rfl) (hKT.cg rfl rfl rfl)
        · obtain ⟨xat, xreason, xdone, xkind, xn, xstrength, fs, fwas, fbegun, faside, ftext, fsize, fburnt, fnext, ffar, fthen, fqueue, frankAt, fturnAt, hE, hMR, hMW, hMT⟩ := id hM
          refine GM.post (GM.room2 (GM.heap hE (c_X7_turn_y (k := k) (w := w)  (hMR.1) (hA.1) (hk) ((hMR.2.2.2.2 k hk).1) ((hA.2.2 k hk)) (hS4) (hMR.2.1) (hA.2.1) (⟨w0, w1⟩) (hok))) (Nat.le_of_ble_eq_true rfl) (Nat.le_of_ble_eq_true rfl) (Nat.le_of_ble_eq_true rfl) (Nat.le_of_ble_eq_true rfl)) (fun v n' σ' hp => ?_)
          obtain ⟨e1, e2, f2, g2, w2, s2, b2, e3, h1, h2, h3⟩ := hp
          exact pm_keep hZ (by rw [← e1] <;> rfl) e2 e3 hMR hMW hMT (tnM_MR hMR hA hk) h2 h3
      | false =>
        refine ⟨(-1000002), Z, hZ, fun n σ mi hW => Or.inl ?_, fun n σ hM => ?_⟩
        · obtain ⟨ph, tau, fp, fq, fx, rs, fpl, tn, op, dg, ftx, Kn, Kt, Ka, Kb, Kc, Kd, hp4, hE, hD, hBn, hSR, hmi, ⟨kn, kt, ka, kb, kc, kd⟩, hKA, hKT, hHi, hTx⟩ := id hW
          have eN : kN Kn = aN (zA Z) := hKA.1
          obtain ⟨sa, la0, hs, hsa⟩ := hKT k hk
          obtain ⟨hso, hBs, la, cfl, sv, f1, f2, f3, f4, f5, hBl, z0, z1, z2, z3, z4, z5, z6, g1, g2, g3, g4, g5⟩ := hD.shp hsa
          refine GM.post (GM.room2 (GM.heap hE (c_X6_turn_n (cfl := 0) (k := k) (w := w) (r := (rk (sid (aKd (zA Z) k)) (aCk (zA Z) k) (aO (zA Z) k) (aSd (zA Z) k))) z0 z1 z2 z3 z4 z5 z6 (hS4) (by omega) ((kn.qk hD)) ((kt.qk hD)) ((ka.qk hD)) ((kb.qk hD)) ((kc.qk hD)) ((kd.qk hD)) ((by omega)) (hBs) (hBl) ((by omega)) ((by omega)) ((by rw [hKA.2.1]; exact hA.2.1)) (hs) (hso) (g1) (g2) (g3) (g4) (g5) ((hKA.2.2.2.2 k hk).1) ((rk_at hA hk rfl rfl)) (⟨w0, w1⟩) (((okA_R hA hk rfl rfl rfl).symm.trans hok)))) (Nat.le_of_ble_eq_true rfl) (Nat.le_of_ble_eq_true rfl) (Nat.le_of_ble_eq_true rfl) (Nat.le_of_ble_eq_true rfl)) (fun v n' σ' hp => ?_)
          obtain ⟨e1, e2, e3⟩ := hp
          exact px_mk (by rw [← e1] <;> rfl) (by omega) e3 rfl rfl (fun _ _ _ => rfl) (hD.fr (by omega) (fun _ _ _ => rfl)) (by omega) hSR hmi ⟨kn, kn, ka, kb, kc, kd⟩ hKA hKT hHi hTx
        · obtain ⟨xat, xreason, xdone, xkind, xn, xstrength, fs, fwas, fbegun, faside, ftext, fsize, fburnt, fnext, ffar, fthen, fqueue, frankAt, fturnAt, hE, hMR, hMW, hMT⟩ := id hM
          refine GM.post (GM.room2 (GM.heap hE (c_X7_turn_n (k := k) (w := w)  (hMR.1) (hA.1) (hk) ((hMR.2.2.2.2 k hk).1) ((hA.2.2 k hk)) (hMR.2.1) (hA.2.1) (⟨w0, w1⟩) (hok))) (Nat.le_of_ble_eq_true rfl) (Nat.le_of_ble_eq_true rfl) (Nat.le_of_ble_eq_true rfl) (Nat.le_of_ble_eq_true rfl)) (fun v n' σ' hp => ?_)
          obtain ⟨e1, e2, f2, g2, b2, e3⟩ := hp
          exact pm_mk (by rw [← e1] <;> rfl) e2 e3 rfl rfl hMR hMW hMT

set_option maxRecDepth 100000 in
set_option maxHeartbeats 4000000 in
theorem op_doRow {l : Launch} {G : gG} {b0 : Nat} {Z : ZT} (hZ : ZOK Z) (x y : Int32) : ∃ (ans : Int32) (Z2 : ZT), ZOK Z2 ∧ (∀ n σ mi, WX G b0 n σ Z mi → (GM l G yX6_doRow cX6_doRow 4 (some .int) rmC n σ [.ref b0, .int x, .int y] (PX G b0 n σ mi Z2 ans)) ∨ (1 ≤ mi ∧ GM l G yX6_doRow cX6_doRow 4 (some .int) rmS n σ [.ref b0, .int x, .int y] (PX G b0 n σ (mi - 1) Z2 ans))) ∧ (∀ n σ, WM G b0 σ Z → GM l G yX7_doRow cX7_doRow 6 (some .int) rmM n σ [.ref (b0 + 44), .int x, .int y] (PM G b0 n σ Z2 ans)) := by
  obtain ⟨hA, hHA, hS4, hL50, hX128⟩ := id hZ
  have hN5 := hA.1
  cases hS : isS x (aN (zA Z)) with
  | false =>
    refine ⟨(-1000001), Z, hZ, fun n σ mi hW => Or.inl ?_, fun n σ hM => ?_⟩
    · obtain ⟨ph, tau, fp, fq, fx, rs, fpl, tn, op, dg, ftx, Kn, Kt, Ka, Kb, Kc, Kd, hp4, hE, hD, hBn, hSR, hmi, ⟨kn, kt, ka, kb, kc, kd⟩, hKA, hKT, hHi, hTx⟩ := id hW
      have eN : kN Kn = aN (zA Z) := hKA.1
      refine GM.post (GM.room2 (c_X6_doRow_x (K := Kn) (wx_at0 hE rfl) (wx_at hE 7 rfl) ((by omega)) (by rw [eN]; exact hS)) (Nat.le_of_ble_eq_true rfl) (Nat.le_of_ble_eq_true rfl) (Nat.le_of_ble_eq_true rfl) (Nat.le_of_ble_eq_true rfl)) (fun v n' σ' hp => ?_)
      obtain ⟨e1, e2, e3⟩ := hp
      exact px_read hW (by rw [← e1] <;> rfl) e2 e3
    · obtain ⟨xat, xreason, xdone, xkind, xn, xstrength, fs, fwas, fbegun, faside, ftext, fsize, fburnt, fnext, ffar, fthen, fqueue, frankAt, fturnAt, hE, hMR, hMW, hMT⟩ := id hM
      refine GM.post (GM.room2 (GM.heap hE (c_X7_doRow_x (ns := aN (zA Z))  (hMR.1) (hS))) (Nat.le_of_ble_eq_true rfl) (Nat.le_of_ble_eq_true rfl) (Nat.le_of_ble_eq_true rfl) (Nat.le_of_ble_eq_true rfl)) (fun v n' σ' hp => ?_)
      obtain ⟨e1, e2, e3⟩ := hp
      exact pm_mk (by rw [← e1] <;> rfl) e2 e3 rfl rfl hMR hMW hMT
  | true =>
    obtain ⟨k, hk, rfl⟩ := isS_of hN5 hS
    have hvk := hA.2.2 k hk
    have hN6 := hvk.1.N
    have hN1 := hvk.1.2.1
    have hsd := hvk.2.2
    cases hy : decide (nI 1 ≤ y ∧ y ≤ nI 99999999) with
    | false =>
      refine ⟨(-1000001), Z, hZ, fun n σ mi hW => Or.inl ?_, fun n σ hM => ?_⟩
      · obtain ⟨ph, tau, fp, fq, fx, rs, fpl, tn, op, dg, ftx, Kn, Kt, Ka, Kb, Kc, Kd, hp4, hE, hD, hBn, hSR, hmi, ⟨kn, kt, ka, kb, kc, kd⟩, hKA, hKT, hHi, hTx⟩ := id hW
        have eN : kN Kn = aN (zA Z) := hKA.1
        obtain ⟨sa, la0, hs, hsa⟩ := hKT k hk
        obtain ⟨hso, hBs, la, cfl, sv, f1, f2, f3, f4, f5, hBl, z0, z1, z2, z3, z4, z5, z6, g1, g2, g3, g4, g5⟩ := hD.shp hsa
        refine GM.post (GM.room2 (c_X6_doRow_z (k := k) (K := Kn) (wx_at0 hE rfl) (wx_at hE 7 rfl) (wx_at hE 10 rfl) ((by omega)) ((by omega)) (hs) (hy)) (Nat.le_of_ble_eq_true rfl) (Nat.le_of_ble_eq_true rfl) (Nat.le_of_ble_eq_true rfl) (Nat.le_of_ble_eq_true rfl)) (fun v n' σ' hp => ?_)
        obtain ⟨e1, e2, e3⟩ := hp
        exact px_read hW (by rw [← e1] <;> rfl) e2 e3
      · obtain ⟨xat, xreason, xdone, xkind, xn, xstrength, fs, fwas, fbegun, faside, ftext, fsize, fburnt, fnext, ffar, fthen, fqueue, frankAt, fturnAt, hE, hMR, hMW, hMT⟩ := id hM
        refine GM.post (GM.room2 (GM.heap hE (c_X7_doRow_z (k := k)  (hMR.1) (hA.1) (hk) ((hMR.2.2.2.2 k hk).1) ((hA.2.2 k hk)) (hy))) (Nat.le_of_ble_eq_true rfl) (Nat.le_of_ble_eq_true rfl) (Nat.le_of_ble_eq_true rfl) (Nat.le_of_ble_eq_true rfl)) (fun v n' σ' hp => ?_)
        obtain ⟨e1, e2, e3⟩ := hp
        exact pm_mk (by rw [← e1] <;> rfl) e2 e3 rfl rfl hMR hMW hMT
    | true =>
      obtain ⟨w, w0, w1, rfl⟩ := in_of (by omega) (by omega) hy
      obtain ⟨D, hDD⟩ := dig_ex ⟨w0, w1⟩
      cases htot : rwA k w D (zA Z) with
      | none =>
        refine ⟨(-1000002), Z, hZ, fun n σ mi hW => Or.inl ?_, fun n σ hM => ?_⟩
        · obtain ⟨ph, tau, fp, fq, fx, rs, fpl, tn, op, dg, ftx, Kn, Kt, Ka, Kb, Kc, Kd, hp4, hE, hD, hBn, hSR, hmi, ⟨kn, kt, ka, kb, kc, kd⟩, hKA, hKT, hHi, hTx⟩ := id hW
          have eN : kN Kn = aN (zA Z) := hKA.1
          obtain ⟨sa, la0, hs, hsa⟩ := hKT k hk
          obtain ⟨hso, hBs, la, cfl, sv, f1, f2, f3, f4, f5, hBl, z0, z1, z2, z3, z4, z5, z6, g1, g2, g3, g4, g5⟩ := hD.shp hsa
          refine GM.post (GM.room2 (GM.heap hE (c_X6_doRow_n (cfl := 0) (k := k) (row := w) (D := D) (r := (rk (sid (aKd (zA Z) k)) (aCk (zA Z) k) (aO (zA Z) k) (aSd (zA Z) k))) z0 z1 z2 z3 z4 z5 z6 (hS4) (by omega) ((kn.qk hD)) ((kt.qk hD)) ((ka.qk hD)) ((kb.qk hD)) ((kc.qk hD)) ((kd.qk hD)) ((by omega)) (hBs) (hBl) ((by omega)) ((by omega)) ((by rw [hKA.2.1]; exact hA.2.1)) (hs) (hso) (g1) (g2) (g3) (g4) (g5) ((hKA.2.2.2.2 k hk).1) ((rk_at hA hk rfl rfl)) (hKA) (hA) (hk) (rfl) (rfl) (rfl) (⟨w0, w1⟩) (hDD) (htot))) (Nat.le_of_ble_eq_true rfl) (Nat.le_of_ble_eq_true rfl) (Nat.le_of_ble_eq_true rfl) (Nat.le_of_ble_eq_true rfl)) (fun v n' σ' hp => ?_)
          obtain ⟨e1, e2, Kt2, e3, hS9_⟩ := hp
          exact px_mk (by rw [← e1] <;> rfl) (by omega) e3 rfl rfl (fun _ _ _ => rfl) (hD.fr (by omega) (fun _ _ _ => rfl)) (by omega) hSR hmi ⟨kn, (fun i v hv => kn i v (by rw [← hS9_]; exact hv)), ka, kb, kc, kd⟩ hKA hKT hHi hTx
        · obtain ⟨xat, xreason, xdone, xkind, xn, xstrength, fs, fwas, fbegun, faside, ftext, fsize, fburnt, fnext, ffar, fthen, fqueue, frankAt, fturnAt, hE, hMR, hMW, hMT⟩ := id hM
          refine GM.post (GM.room2 (GM.heap hE (c_X7_doRow_n (k := k) (row := w) (D := D)  (hMR) (hA) (hk) (⟨w0, w1⟩) (hDD) (htot))) (Nat.le_of_ble_eq_true rfl) (Nat.le_of_ble_eq_true rfl) (Nat.le_of_ble_eq_true rfl) (Nat.le_of_ble_eq_true rfl)) (fun v n' σ' hp => ?_)
          obtain ⟨e1, e2, k2, n3, r2, f2, g2, f3, b2, e3, hf3⟩ := hp
          exact pm_mk (by rw [← e1] <;> rfl) e2 e3 rfl rfl (hMR.congr hA.1 hf3) hMW hMT
      | some a2 =>
        have hA2 := rwA_ok hA hk htot
        refine ⟨(nI (gpA a2 k)), zP Z a2, zP_ok hZ hA2, fun n σ mi hW => Or.inl ?_, fun n σ hM => ?_⟩
        · obtain ⟨ph, tau, fp, fq, fx, rs, fpl, tn, op, dg, ftx, Kn, Kt, Ka, Kb, Kc, Kd, hp4, hE, hD, hBn, hSR, hmi, ⟨kn, kt, ka, kb, kc, kd⟩, hKA, hKT, hHi, hTx⟩ := id hW
          have eN : kN Kn = aN (zA Z) := hKA.1
          obtain ⟨sa, la0, hs, hsa⟩ := hKT k hk
          obtain ⟨hso, hBs, la, cfl, sv, f1, f2, f3, f4, f5, hBl, z0, z1, z2, z3, z4, z5, z6, g1, g2, g3, g4, g5⟩ := hD.shp hsa
          refine GM.post (GM.room2 (GM.heap hE (c_X6_doRow_y (cfl := 0) (k := k) (row := w) (D := D) (r := (rk (sid (aKd (zA Z) k)) (aCk (zA Z) k) (aO (zA Z) k) (aSd (zA Z) k))) (a2 := a2) z0 z1 z2 z3 z4 z5 z6 (hS4) (by omega) ((kn.qk hD)) ((kt.qk hD)) ((ka.qk hD)) ((kb.qk hD)) ((kc.qk hD)) ((kd.qk hD)) ((by omega)) (hBs) (hBl) ((by omega)) ((by omega)) ((by rw [hKA.2.1]; exact hA.2.1)) (hs) (hso) (g1) (g2) (g3) (g4) (g5) ((hKA.2.2.2.2 k hk).1) ((rk_at hA hk rfl rfl)) (hKA) (hA) (hk) (rfl) (rfl) (rfl) (⟨w0, w1⟩) (hDD) (htot))) (Nat.le_of_ble_eq_true rfl) (Nat.le_of_ble_eq_true rfl) (Nat.le_of_ble_eq_true rfl) (Nat.le_of_ble_eq_true rfl)) (fun v n' σ' hp => ?_)
          obtain ⟨e1, e2, ph2, s2, Ka2, Kb2, Kc2, Kd2, Kn2, e3, ha0, ha1, ha2, ha3, ha4, hS9_, hKA9_⟩ := hp
          have hsm := rwA_sh htot
          exact px_keep (by rw [← e1] <;> rfl) (by omega) e3 (fun _ _ _ => rfl) (hD.fr (by omega) (fun _ _ _ => rfl)) (by omega) hSR hmi ⟨kn, ka, kb, kc, kd⟩ hKA hKT hHi hTx ha2 ha3 ha4 (fun i v hv => kn i v (by rw [← hS9_]; exact hv)) (fun i v hv => kn i v (by rw [← hS9_]; exact hv)) hKA9_.1 (hKT.cg hS9_ hsm.1 hsm.2)
        · obtain ⟨xat, xreason, xdone, xkind, xn, xstrength, fs, fwas, fbegun, faside, ftext, fsize, fburnt, fnext, ffar, fthen, fqueue, frankAt, fturnAt, hE, hMR, hMW, hMT⟩ := id hM
          refine GM.post (GM.room2 (GM.heap hE (c_X7_doRow_y (k := k) (row := w) (D := D) (a2 := a2)  (hMR) (hA) (hk) (⟨w0, w1⟩) (hDD) (hS4) (htot))) (Nat.le_of_ble_eq_true rfl) (Nat.le_of_ble_eq_true rfl) (Nat.le_of_ble_eq_true rfl) (Nat.le_of_ble_eq_true rfl)) (fun v n' σ' hp => ?_)
          obtain ⟨e1, e2, k2, n3, r2, f2, g2, w2, s2, b2, f3, e3, hM2, h1, h2, h3⟩ := hp
          exact pm_keep hZ (by rw [← e1] <;> rfl) e2 e3 hMR hMW hMT hM2 h2 h3

set_option maxRecDepth 100000 in
set_option maxHeartbeats 4000000 in
theorem op_lay {l : Launch} {G : gG} {b0 : Nat} {Z : ZT} (hZ : ZOK Z) (x y z : Int32) : ∃ (ans : Int32) (Z2 : ZT), ZOK Z2 ∧ (∀ n σ mi, WX G b0 n σ Z mi → (GM l G yX6_lay cX6_lay 6 (some .int) rmC n σ [.ref b0, .int x, .int y, .int z] (PX G b0 n σ mi Z2 ans)) ∨ (1 ≤ mi ∧ GM l G yX6_lay cX6_lay 6 (some .int) rmS n σ [.ref b0, .int x, .int y, .int z] (PX G b0 n σ (mi - 1) Z2 ans))) ∧ (∀ n σ, WM G b0 σ Z → GM l G yX7_lay cX7_lay 4 (some .int) rmM n σ [.ref (b0 + 44), .int x, .int y, .int z] (PM G b0 n σ Z2 ans)) := by
  obtain ⟨hA, hHA, hS4, hL50, hX128⟩ := id hZ
  have hN5 := hA.1
  cases hS : isS x (aN (zA Z)) with
  | false =>
    refine ⟨(-1000001), Z, hZ, fun n σ mi hW => Or.inl ?_, fun n σ hM => ?_⟩
    · obtain ⟨ph, tau, fp, fq, fx, rs, fpl, tn, op, dg, ftx, Kn, Kt, Ka, Kb, Kc, Kd, hp4, hE, hD, hBn, hSR, hmi, ⟨kn, kt, ka, kb, kc, kd⟩, hKA, hKT, hHi, hTx⟩ := id hW
      have eN : kN Kn = aN (zA Z) := hKA.1
      refine GM.post (GM.room2 (c_X6_lay_x (K := Kn) (wx_at0 hE rfl) (wx_at hE 7 rfl) ((by omega)) (by rw [eN]; exact hS)) (Nat.le_of_ble_eq_true rfl) (Nat.le_of_ble_eq_true rfl) (Nat.le_of_ble_eq_true rfl) (Nat.le_of_ble_eq_true rfl)) (fun v n' σ' hp => ?_)
      obtain ⟨e1, e2, e3⟩ := hp
      exact px_read hW (by rw [← e1] <;> rfl) e2 e3
    · obtain ⟨xat, xreason, xdone, xkind, xn, xstrength, fs, fwas, fbegun, faside, ftext, fsize, fburnt, fnext, ffar, fthen, fqueue, frankAt, fturnAt, hE, hMR, hMW, hMT⟩ := id hM
      refine GM.post (GM.room2 (GM.heap hE (c_X7_lay_x (ns := aN (zA Z))  (hMR.1) (hS))) (Nat.le_of_ble_eq_true rfl) (Nat.le_of_ble_eq_true rfl) (Nat.le_of_ble_eq_true rfl) (Nat.le_of_ble_eq_true rfl)) (fun v n' σ' hp => ?_)
      obtain ⟨e1, e2, e3⟩ := hp
      exact pm_mk (by rw [← e1] <;> rfl) e2 e3 rfl rfl hMR hMW hMT
  | true =>
    obtain ⟨k, hk, rfl⟩ := isS_of hN5 hS
    have hvk := hA.2.2 k hk
    have hN6 := hvk.1.N
    have hN1 := hvk.1.2.1
    have hsd := hvk.2.2
    by_cases hy : ∃ o2, o2 < fac (aCk (zA Z) k) ∧ nI (cd (aCk (zA Z) k) o2) = y
    · obtain ⟨o2, ho2, rfl⟩ := hy
      have hsm := sm_le (sb := (sid (aKd (zA Z) k))) hN6
      have hsp : 0 < sm (sid (aKd (zA Z) k)) (aCk (zA Z) k) := Nat.lt_of_le_of_lt (Nat.zero_le _) hsd
      cases hz : decide (nI 0 ≤ z ∧ z ≤ nI (sm (sid (aKd (zA Z) k)) (aCk (zA Z) k) - 1)) with
      | false =>
        refine ⟨(-1000001), Z, hZ, fun n σ mi hW => Or.inl ?_, fun n σ hM => ?_⟩
        · obtain ⟨ph, tau, fp, fq, fx, rs, fpl, tn, op, dg, ftx, Kn, Kt, Ka, Kb, Kc, Kd, hp4, hE, hD, hBn, hSR, hmi, ⟨kn, kt, ka, kb, kc, kd⟩, hKA, hKT, hHi, hTx⟩ := id hW
          have eN : kN Kn = aN (zA Z) := hKA.1
          obtain ⟨sa, la0, hs, hsa⟩ := hKT k hk
          obtain ⟨hso, hBs, la, cfl, sv, f1, f2, f3, f4, f5, hBl, z0, z1, z2, z3, z4, z5, z6, g1, g2, g3, g4, g5⟩ := hD.shp hsa
          refine GM.post (GM.room2 (c_X6_lay_s (cfl := 0) (k := k) (K := Kn) (o2 := o2) (wx_at0 hE rfl) (wx_at hE 7 rfl) (wx_at hE 10 rfl) z0 z2 z3 ((by omega)) ((by omega)) (hs) (hso.L) (g1) (ho2) (rfl) ((lay_z hz))) (Nat.le_of_ble_eq_true rfl) (Nat.le_of_ble_eq_true rfl) (Nat.le_of_ble_eq_true rfl) (Nat.le_of_ble_eq_true rfl)) (fun v n' σ' hp => ?_)
          obtain ⟨e1, e2, e3⟩ := hp
          exact px_read hW (by rw [← e1] <;> rfl) e2 e3
        · obtain ⟨xat, xreason, xdone, xkind, xn, xstrength, fs, fwas, fbegun, faside, ftext, fsize, fburnt, fnext, ffar, fthen, fqueue, frankAt, fturnAt, hE, hMR, hMW, hMT⟩ := id hM
          refine GM.post (GM.room2 (GM.heap hE (c_X7_lay_s (k := k) (o2 := o2)  (hMR.1) (hA.1) (hk) ((hMR.2.2.2.2 k hk).1) ((hA.2.2 k hk)) (ho2) (hz))) (Nat.le_of_ble_eq_true rfl) (Nat.le_of_ble_eq_true rfl) (Nat.le_of_ble_eq_true rfl) (Nat.le_of_ble_eq_true rfl)) (fun v n' σ' hp => ?_)
          obtain ⟨e1, e2, e3⟩ := hp
          exact pm_mk (by rw [← e1] <;> rfl) e2 e3 rfl rfl hMR hMW hMT
      | true =>
        obtain ⟨sd2, sd20, sd21, rfl⟩ := in_of (by omega) (by omega) hz
        have hs2 : sd2 < sm (sid (aKd (zA Z) k)) (aCk (zA Z) k) := by omega
        refine ⟨(nI (gp (sid (aKd (zA Z) k)) (aCk (zA Z) k) o2 sd2)), zP Z (layA (zA Z) k o2 sd2), zP_ok hZ (layA_ok hA ho2 hs2), fun n σ mi hW => Or.inl ?_, fun n σ hM => ?_⟩
        · obtain ⟨ph, tau, fp, fq, fx, rs, fpl, tn, op, dg, ftx, Kn, Kt, Ka, Kb, Kc, Kd, hp4, hE, hD, hBn, hSR, hmi, ⟨kn, kt, ka, kb, kc, kd⟩, hKA, hKT, hHi, hTx⟩ := id hW
          have eN : kN Kn = aN (zA Z) := hKA.1
          obtain ⟨sa, la0, hs, hsa⟩ := hKT k hk
          obtain ⟨hso, hBs, la, cfl, sv, f1, f2, f3, f4, f5, hBl, z0, z1, z2, z3, z4, z5, z6, g1, g2, g3, g4, g5⟩ := hD.shp hsa
          refine GM.post (GM.room2 (GM.heap hE (c_X6_lay_y (cfl := 0) (k := k) (o2 := o2) (sd2 := sd2) (r := (rk (sid (aKd (zA Z) k)) (aCk (zA Z) k) (aO (zA Z) k) (aSd (zA Z) k))) z0 z1 z2 z3 z4 z5 z6 (hS4) (by omega) ((kn.qk hD)) ((kt.qk hD)) ((ka.qk hD)) ((kb.qk hD)) ((kc.qk hD)) ((kd.qk hD)) ((by omega)) (hBs) (hBl) ((by omega)) ((by omega)) ((by rw [hKA.2.1]; exact hA.2.1)) (hs) (hso) (g1) (g2) (g3) (g4) (g5) ((hKA.2.2.2.2 k hk).1) ((rk_at hA hk rfl rfl)) (ho2) (hs2))) (Nat.le_of_ble_eq_true rfl) (Nat.le_of_ble_eq_true rfl) (Nat.le_of_ble_eq_true rfl) (Nat.le_of_ble_eq_true rfl)) (fun v n' σ' hp => ?_)
          obtain ⟨e1, e2, ph2, s2, Ka2, Kb2, Kc2, Kd2, e3, ha0, ha1, ha2, ha3, ha4⟩ := hp
          exact px_keep (by rw [← e1] <;> rfl) (by omega) e3 (fun _ _ _ => rfl) (hD.fr (by omega) (fun _ _ _ => rfl)) (by omega) hSR hmi ⟨kn, ka, kb, kc, kd⟩ hKA hKT hHi hTx ha2 ha3 ha4 (kn : KSh tau (kLay Kn k (rk (sid (aKd (zA Z) k)) (aCk (zA Z) k) o2 sd2))) (kn : KSh tau (kLay Kn k (rk (sid (aKd (zA Z) k)) (aCk (zA Z) k) o2 sd2))) (layA_K hKA) (hKT.cg rfl rfl rfl)
        · obtain ⟨xat, xreason, xdone, xkind, xn, xstrength, fs, fwas, fbegun, faside, ftext, fsize, fburnt, fnext, ffar, fthen, fqueue, frankAt, fturnAt, hE, hMR, hMW, hMT⟩ := id hM
          refine GM.post (GM.room2 (GM.heap hE (c_X7_lay_y (k := k) (o2 := o2) (sd2 := sd2)  (hMR.1) (hA.1) (hk) ((hMR.2.2.2.2 k hk).1) ((hA.2.2 k hk)) (hS4) (ho2) (hs2))) (Nat.le_of_ble_eq_true rfl) (Nat.le_of_ble_eq_true rfl) (Nat.le_of_ble_eq_true rfl) (Nat.le_of_ble_eq_true rfl)) (fun v n' σ' hp => ?_)
          obtain ⟨e1, e2, f2, g2, w2, s2, b2, e3, h1, h2, h3⟩ := hp
          exact pm_keep hZ (by rw [← e1] <;> rfl) e2 e3 hMR hMW hMT (layA_M hMR hk) h2 h3
    · by_cases hn : y < 0
      · refine ⟨(-1000001), Z, hZ, fun n σ mi hW => Or.inl ?_, fun n σ hM => ?_⟩
        · obtain ⟨ph, tau, fp, fq, fx, rs, fpl, tn, op, dg, ftx, Kn, Kt, Ka, Kb, Kc, Kd, hp4, hE, hD, hBn, hSR, hmi, ⟨kn, kt, ka, kb, kc, kd⟩, hKA, hKT, hHi, hTx⟩ := id hW
          have eN : kN Kn = aN (zA Z) := hKA.1
          obtain ⟨sa, la0, hs, hsa⟩ := hKT k hk
          obtain ⟨hso, hBs, la, cfl, sv, f1, f2, f3, f4, f5, hBl, z0, z1, z2, z3, z4, z5, z6, g1, g2, g3, g4, g5⟩ := hD.shp hsa
          refine GM.post (GM.room2 (c_X6_lay_n (cfl := 0) (k := k) (K := Kn) (wx_at0 hE rfl) (wx_at hE 7 rfl) (wx_at hE 10 rfl) z0 z2 z3 ((by omega)) ((by omega)) (hs) (hso.L) (g1) ((fun o2 h1 h2 => hy ⟨o2, h1, h2⟩))) (Nat.le_of_ble_eq_true rfl) (Nat.le_of_ble_eq_true rfl) (Nat.le_of_ble_eq_true rfl) (Nat.le_of_ble_eq_true rfl)) (fun v n' σ' hp => ?_)
          obtain ⟨e1, e2, e3⟩ := hp
          exact px_read hW (by rw [← e1] <;> rfl) e2 e3
        · obtain ⟨xat, xreason, xdone, xkind, xn, xstrength, fs, fwas, fbegun, faside, ftext, fsize, fburnt, fnext, ffar, fthen, fqueue, frankAt, fturnAt, hE, hMR, hMW, hMT⟩ := id hM
          refine GM.post (GM.room2 (GM.heap hE (c_X7_lay_n (k := k)  (hMR.1) (hA.1) (hk) ((hMR.2.2.2.2 k hk).1) ((hA.2.2 k hk)) (hn))) (Nat.le_of_ble_eq_true rfl) (Nat.le_of_ble_eq_true rfl) (Nat.le_of_ble_eq_true rfl) (Nat.le_of_ble_eq_true rfl)) (fun v n' σ' hp => ?_)
          obtain ⟨e1, e2, e3⟩ := hp
          exact pm_mk (by rw [← e1] <;> rfl) e2 e3 rfl rfl hMR hMW hMT
      · obtain ⟨cw, hcw, rfl⟩ := nn_of hn
        refine ⟨(-1000001), Z, hZ, fun n σ mi hW => Or.inl ?_, fun n σ hM => ?_⟩
        · obtain ⟨ph, tau, fp, fq, fx, rs, fpl, tn, op, dg, ftx, Kn, Kt, Ka, Kb, Kc, Kd, hp4, hE, hD, hBn, hSR, hmi, ⟨kn, kt, ka, kb, kc, kd⟩, hKA, hKT, hHi, hTx⟩ := id hW
          have eN : kN Kn = aN (zA Z) := hKA.1
          obtain ⟨sa, la0, hs, hsa⟩ := hKT k hk
          obtain ⟨hso, hBs, la, cfl, sv, f1, f2, f3, f4, f5, hBl, z0, z1, z2, z3, z4, z5, z6, g1, g2, g3, g4, g5⟩ := hD.shp hsa
          refine GM.post (GM.room2 (c_X6_lay_n (cfl := 0) (k := k) (K := Kn) (wx_at0 hE rfl) (wx_at hE 7 rfl) (wx_at hE 10 rfl) z0 z2 z3 ((by omega)) ((by omega)) (hs) (hso.L) (g1) ((fun o2 h1 h2 => hy ⟨o2, h1, h2⟩))) (Nat.le_of_ble_eq_true rfl) (Nat.le_of_ble_eq_true rfl) (Nat.le_of_ble_eq_true rfl) (Nat.le_of_ble_eq_true rfl)) (fun v n' σ' hp => ?_)
          obtain ⟨e1, e2, e3⟩ := hp
          exact px_read hW (by rw [← e1] <;> rfl) e2 e3
        · obtain ⟨xat, xreason, xdone, xkind, xn, xstrength, fs, fwas, fbegun, faside, ftext, fsize, fburnt, fnext, ffar, fthen, fqueue, frankAt, fturnAt, hE, hMR, hMW, hMT⟩ := id hM
          refine GM.post (GM.room2 (GM.heap hE (c_X7_lay_c (k := k) (cw := cw)  (hMR.1) (hA.1) (hk) ((hMR.2.2.2.2 k hk).1) ((hA.2.2 k hk)) (hcw) ((lay_c hy)))) (Nat.le_of_ble_eq_true rfl) (Nat.le_of_ble_eq_true rfl) (Nat.le_of_ble_eq_true rfl) (Nat.le_of_ble_eq_true rfl)) (fun v n' σ' hp => ?_)
          obtain ⟨e1, e2, e3⟩ := hp
          exact pm_mk (by rw [← e1] <;> rfl) e2 e3 rfl rfl hMR hMW hMT

set_option maxRecDepth 100000 in
set_option maxHeartbeats 4000000 in
theorem op_undo {l : Launch} {G : gG} {b0 : Nat} {Z : ZT} (hZ : ZOK Z)  : ∃ (ans : Int32) (Z2 : ZT), ZOK Z2 ∧ (∀ n σ mi, WX G b0 n σ Z mi → (GM l G yX6_undo cX6_undo 2 (some .int) rmC n σ [.ref b0] (PX G b0 n σ mi Z2 ans)) ∨ (1 ≤ mi ∧ GM l G yX6_undo cX6_undo 2 (some .int) rmS n σ [.ref b0] (PX G b0 n σ (mi - 1) Z2 ans))) ∧ (∀ n σ, WM G b0 σ Z → GM l G yX7_undo cX7_undo 2 (some .int) rmM n σ [.ref (b0 + 44)] (PM G b0 n σ Z2 ans)) := by
  obtain ⟨hA, hHA, hS4, hL50, hX128⟩ := id hZ
  have hN5 := hA.1
  by_cases h0 : zS Z = 0
  · refine ⟨(-1000002), Z, hZ, fun n σ mi hW => Or.inl ?_, fun n σ hM => ?_⟩
    · obtain ⟨ph, tau, fp, fq, fx, rs, fpl, tn, op, dg, ftx, Kn, Kt, Ka, Kb, Kc, Kd, hp4, hE, hD, hBn, hSR, hmi, ⟨kn, kt, ka, kb, kc, kd⟩, hKA, hKT, hHi, hTx⟩ := id hW
      have eN : kN Kn = aN (zA Z) := hKA.1
      rw [h0] at hE
      refine GM.post (GM.room2 (c_X6_undo_0  (wx_at0 hE rfl) ) (Nat.le_of_ble_eq_true rfl) (Nat.le_of_ble_eq_true rfl) (Nat.le_of_ble_eq_true rfl) (Nat.le_of_ble_eq_true rfl)) (fun v n' σ' hp => ?_)
      obtain ⟨e1, e2, e3⟩ := hp
      exact px_read hW (by rw [← e1] <;> rfl) e2 e3
    · obtain ⟨xat, xreason, xdone, xkind, xn, xstrength, fs, fwas, fbegun, faside, ftext, fsize, fburnt, fnext, ffar, fthen, fqueue, frankAt, fturnAt, hE, hMR, hMW, hMT⟩ := id hM
      rw [h0] at hE
      refine GM.post (GM.room2 (GM.heap hE (c_X7_undo_n   )) (Nat.le_of_ble_eq_true rfl) (Nat.le_of_ble_eq_true rfl) (Nat.le_of_ble_eq_true rfl) (Nat.le_of_ble_eq_true rfl)) (fun v n' σ' hp => ?_)
      obtain ⟨e1, e2, e3⟩ := hp
      exact pm_mk (by rw [← e1] <;> rfl) e2 e3 h0 rfl hMR (fun i hi => absurd hi (Nat.not_lt_zero i)) hMT
  · refine ⟨(nI (zS Z - 1)), (zH Z (zS Z - 1), zH Z, zS Z - 1, zX Z, zL Z), ⟨hHA _ (by omega), fun i hi => hHA i (by have hi : i < zS Z - 1 := hi; omega), by show zS Z - 1 ≤ 4; omega, hL50, hX128⟩, fun n σ mi hW => Or.inl ?_, fun n σ hM => ?_⟩
    · obtain ⟨ph, tau, fp, fq, fx, rs, fpl, tn, op, dg, ftx, Kn, Kt, Ka, Kb, Kc, Kd, hp4, hE, hD, hBn, hSR, hmi, ⟨kn, kt, ka, kb, kc, kd⟩, hKA, hKT, hHi, hTx⟩ := id hW
      have eN : kN Kn = aN (zA Z) := hKA.1
      refine GM.post (GM.room2 (GM.heap hE (c_X6_undo_u   ((by omega)) (by omega) ((kn.qk hD)) ((kt.qk hD)) ((ka.qk hD)) ((kb.qk hD)) ((kc.qk hD)) ((kd.qk hD)) ((by omega)))) (Nat.le_of_ble_eq_true rfl) (Nat.le_of_ble_eq_true rfl) (Nat.le_of_ble_eq_true rfl) (Nat.le_of_ble_eq_true rfl)) (fun v n' σ' hp => ?_)
      obtain ⟨e1, e2, e3⟩ := hp
      exact px_mk (by rw [← e1] <;> rfl) (by omega) e3 rfl rfl (fun _ _ _ => rfl) (hD.fr (by omega) (fun _ _ _ => rfl)) (by omega) hSR hmi ⟨KSh_4 ka kb kc kd _, kt, ka, kb, kc, kd⟩ (hHi _ (by omega)).1 (hHi _ (by omega)).2 (fun i hi => hHi i (by omega)) hTx
    · obtain ⟨xat, xreason, xdone, xkind, xn, xstrength, fs, fwas, fbegun, faside, ftext, fsize, fburnt, fnext, ffar, fthen, fqueue, frankAt, fturnAt, hE, hMR, hMW, hMT⟩ := id hM
      refine GM.post (GM.room2 (GM.heap hE (c_X7_undo_y   (hS4) ((by omega)))) (Nat.le_of_ble_eq_true rfl) (Nat.le_of_ble_eq_true rfl) (Nat.le_of_ble_eq_true rfl) (Nat.le_of_ble_eq_true rfl)) (fun v n' σ' hp => ?_)
      obtain ⟨e1, e2, f2, e3, hf2⟩ := hp
      exact pm_mk (by rw [← e1] <;> rfl) e2 e3 rfl rfl ((hMW _ (by omega)).congr (hHA _ (by omega)).1 (fun j hj => hf2 j hj)) (fun i hi => hMW i (by omega)) hMT

set_option maxRecDepth 100000 in
set_option maxHeartbeats 4000000 in
theorem op_type {l : Launch} {G : gG} {b0 : Nat} {Z : ZT} (hZ : ZOK Z) (x : Int32) : ∃ (ans : Int32) (Z2 : ZT), ZOK Z2 ∧ (∀ n σ mi, WX G b0 n σ Z mi → (GM l G yX6_type cX6_type 2 (some .int) rmC n σ [.ref b0, .int x] (PX G b0 n σ mi Z2 ans)) ∨ (1 ≤ mi ∧ GM l G yX6_type cX6_type 2 (some .int) rmS n σ [.ref b0, .int x] (PX G b0 n σ (mi - 1) Z2 ans))) ∧ (∀ n σ, WM G b0 σ Z → GM l G yX7_type cX7_type 2 (some .int) rmM n σ [.ref (b0 + 44), .int x] (PM G b0 n σ Z2 ans)) := by
  obtain ⟨hA, hHA, hS4, hL50, hX128⟩ := id hZ
  have hN5 := hA.1
  cases hx : decide (nI 32 ≤ x ∧ x ≤ nI 126) with
  | false =>
    refine ⟨(-1000001), Z, hZ, fun n σ mi hW => Or.inl ?_, fun n σ hM => ?_⟩
    · obtain ⟨ph, tau, fp, fq, fx, rs, fpl, tn, op, dg, ftx, Kn, Kt, Ka, Kb, Kc, Kd, hp4, hE, hD, hBn, hSR, hmi, ⟨kn, kt, ka, kb, kc, kd⟩, hKA, hKT, hHi, hTx⟩ := id hW
      have eN : kN Kn = aN (zA Z) := hKA.1
      refine GM.post (GM.room2 (c_X6_type_x   (hx)) (Nat.le_of_ble_eq_true rfl) (Nat.le_of_ble_eq_true rfl) (Nat.le_of_ble_eq_true rfl) (Nat.le_of_ble_eq_true rfl)) (fun v n' σ' hp => ?_)
      obtain ⟨e1, e2, e3⟩ := hp
      exact px_read hW (by rw [← e1] <;> rfl) e2 e3
    · obtain ⟨xat, xreason, xdone, xkind, xn, xstrength, fs, fwas, fbegun, faside, ftext, fsize, fburnt, fnext, ffar, fthen, fqueue, frankAt, fturnAt, hE, hMR, hMW, hMT⟩ := id hM
      refine GM.post (GM.room2 (GM.heap hE (c_X7_type_x   (hx))) (Nat.le_of_ble_eq_true rfl) (Nat.le_of_ble_eq_true rfl) (Nat.le_of_ble_eq_true rfl) (Nat.le_of_ble_eq_true rfl)) (fun v n' σ' hp => ?_)
      obtain ⟨e1, e2, e3⟩ := hp
      exact pm_mk (by rw [← e1] <;> rfl) e2 e3 rfl rfl hMR hMW hMT
  | true =>
    obtain ⟨w, w0, w1, rfl⟩ := in_of (by omega) (by omega) hx
    by_cases h50 : zL Z = 50
    · refine ⟨(-1000003), Z, hZ, fun n σ mi hW => Or.inl ?_, fun n σ hM => ?_⟩
      · obtain ⟨ph, tau, fp, fq, fx, rs, fpl, tn, op, dg, ftx, Kn, Kt, Ka, Kb, Kc, Kd, hp4, hE, hD, hBn, hSR, hmi, ⟨kn, kt, ka, kb, kc, kd⟩, hKA, hKT, hHi, hTx⟩ := id hW
        have eN : kN Kn = aN (zA Z) := hKA.1
        refine GM.post (GM.room2 (GM.heap hE (c_X6_type_f (w := w) (B := b0 + 58)  (⟨w0, w1⟩) (h50))) (Nat.le_of_ble_eq_true rfl) (Nat.le_of_ble_eq_true rfl) (Nat.le_of_ble_eq_true rfl) (Nat.le_of_ble_eq_true rfl)) (fun v n' σ' hp => ?_)
        obtain ⟨e1, e2, e3⟩ := hp
        exact px_mk (by rw [← e1] <;> rfl) (by omega) e3 rfl rfl (fun _ _ _ => rfl) (hD.fr (by omega) (fun _ _ _ => rfl)) (by omega) hSR hmi ⟨kn, kt, ka, kb, kc, kd⟩ hKA hKT hHi hTx
      · obtain ⟨xat, xreason, xdone, xkind, xn, xstrength, fs, fwas, fbegun, faside, ftext, fsize, fburnt, fnext, ffar, fthen, fqueue, frankAt, fturnAt, hE, hMR, hMW, hMT⟩ := id hM
        rw [h50] at hE
        refine GM.post (GM.room2 (GM.heap hE (c_X7_type_f (w := w)  (⟨w0, w1⟩))) (Nat.le_of_ble_eq_true rfl) (Nat.le_of_ble_eq_true rfl) (Nat.le_of_ble_eq_true rfl) (Nat.le_of_ble_eq_true rfl)) (fun v n' σ' hp => ?_)
        obtain ⟨e1, e2, e3⟩ := hp
        exact pm_mk (by rw [← e1] <;> rfl) e2 e3 rfl h50 hMR hMW (by rw [← h50]; exact hMT)
    · refine ⟨(nI (zL Z + 1)), (zA Z, zH Z, zS Z, (fun j => if j = zL Z then w else zX Z j), zL Z + 1), ⟨hA, hHA, hS4, by show zL Z + 1 ≤ 50; omega, fun j => by show (if j = zL Z then w else zX Z j) < 128; split; omega; exact hX128 j⟩, fun n σ mi hW => Or.inl ?_, fun n σ hM => ?_⟩
      · obtain ⟨ph, tau, fp, fq, fx, rs, fpl, tn, op, dg, ftx, Kn, Kt, Ka, Kb, Kc, Kd, hp4, hE, hD, hBn, hSR, hmi, ⟨kn, kt, ka, kb, kc, kd⟩, hKA, hKT, hHi, hTx⟩ := id hW
        have eN : kN Kn = aN (zA Z) := hKA.1
        refine GM.post (GM.room2 (GM.heap hE (c_X6_type_y (w := w) (B := b0 + 58)  (⟨w0, w1⟩) ((by omega)))) (Nat.le_of_ble_eq_true rfl) (Nat.le_of_ble_eq_true rfl) (Nat.le_of_ble_eq_true rfl) (Nat.le_of_ble_eq_true rfl)) (fun v n' σ' hp => ?_)
        obtain ⟨e1, e2, e3⟩ := hp
        exact px_mk (by rw [← e1] <;> rfl) (by omega) e3 rfl rfl (fun _ _ _ => rfl) (hD.fr (by omega) (fun _ _ _ => rfl)) (by omega) hSR hmi ⟨kn, kt, ka, kb, kc, kd⟩ hKA hKT hHi (txt_s hTx)
      · obtain ⟨xat, xreason, xdone, xkind, xn, xstrength, fs, fwas, fbegun, faside, ftext, fsize, fburnt, fnext, ffar, fthen, fqueue, frankAt, fturnAt, hE, hMR, hMW, hMT⟩ := id hM
        refine GM.post (GM.room2 (GM.heap hE (c_X7_type_y (w := w) (tn := zL Z)  (⟨w0, w1⟩) ((by omega)))) (Nat.le_of_ble_eq_true rfl) (Nat.le_of_ble_eq_true rfl) (Nat.le_of_ble_eq_true rfl) (Nat.le_of_ble_eq_true rfl)) (fun v n' σ' hp => ?_)
        obtain ⟨e1, e2, e3⟩ := hp
        exact pm_mk (by rw [← e1] <;> rfl) e2 e3 rfl rfl hMR hMW (txt_s hMT)

set_option maxRecDepth 100000 in
set_option maxHeartbeats 4000000 in
theorem op_clearText {l : Launch} {G : gG} {b0 : Nat} {Z : ZT} (hZ : ZOK Z)  : ∃ (ans : Int32) (Z2 : ZT), ZOK Z2 ∧ (∀ n σ mi, WX G b0 n σ Z mi → (GM l G yX6_clearText cX6_clearText 1 (some .int) rmC n σ [.ref b0] (PX G b0 n σ mi Z2 ans)) ∨ (1 ≤ mi ∧ GM l G yX6_clearText cX6_clearText 1 (some .int) rmS n σ [.ref b0] (PX G b0 n σ (mi - 1) Z2 ans))) ∧ (∀ n σ, WM G b0 σ Z → GM l G yX7_clearText cX7_clearText 2 (some .int) rmM n σ [.ref (b0 + 44)] (PM G b0 n σ Z2 ans)) := by
  obtain ⟨hA, hHA, hS4, hL50, hX128⟩ := id hZ
  have hN5 := hA.1
  refine ⟨(nI (zL Z)), (zA Z, zH Z, zS Z, zX Z, 0), ⟨hA, hHA, hS4, Nat.zero_le _, hX128⟩, fun n σ mi hW => Or.inl ?_, fun n σ hM => ?_⟩
  · obtain ⟨ph, tau, fp, fq, fx, rs, fpl, tn, op, dg, ftx, Kn, Kt, Ka, Kb, Kc, Kd, hp4, hE, hD, hBn, hSR, hmi, ⟨kn, kt, ka, kb, kc, kd⟩, hKA, hKT, hHi, hTx⟩ := id hW
    have eN : kN Kn = aN (zA Z) := hKA.1
    refine GM.post (GM.room2 (GM.heap hE (c_X6_clearText (B := b0 + 58)  )) (Nat.le_of_ble_eq_true rfl) (Nat.le_of_ble_eq_true rfl) (Nat.le_of_ble_eq_true rfl) (Nat.le_of_ble_eq_true rfl)) (fun v n' σ' hp => ?_)
    obtain ⟨e1, e2, e3⟩ := hp
    exact px_mk (by rw [← e1] <;> rfl) (by omega) e3 rfl rfl (fun _ _ _ => rfl) (hD.fr (by omega) (fun _ _ _ => rfl)) (by omega) hSR hmi ⟨kn, kt, ka, kb, kc, kd⟩ hKA hKT hHi (fun j hj => absurd hj (Nat.not_lt_zero j))
  · obtain ⟨xat, xreason, xdone, xkind, xn, xstrength, fs, fwas, fbegun, faside, ftext, fsize, fburnt, fnext, ffar, fthen, fqueue, frankAt, fturnAt, hE, hMR, hMW, hMT⟩ := id hM
    refine GM.post (GM.room2 (GM.heap hE (c_X7_clearText   )) (Nat.le_of_ble_eq_true rfl) (Nat.le_of_ble_eq_true rfl) (Nat.le_of_ble_eq_true rfl) (Nat.le_of_ble_eq_true rfl)) (fun v n' σ' hp => ?_)
    obtain ⟨e1, e2, e3⟩ := hp
    exact pm_mk (by rw [← e1] <;> rfl) e2 e3 rfl rfl hMR hMW (fun j hj => absurd hj (Nat.not_lt_zero j))

set_option maxRecDepth 100000 in
set_option maxHeartbeats 4000000 in
theorem op_fault {l : Launch} {G : gG} {b0 : Nat} {Z : ZT} (hZ : ZOK Z) (x : Int32) : ∃ (ans : Int32) (Z2 : ZT), ZOK Z2 ∧ (∀ n σ mi, WX G b0 n σ Z mi → (GM l G yX6_fault cX6_fault 2 (some .int) rmC n σ [.ref b0, .int x] (PX G b0 n σ mi Z2 ans)) ∨ (1 ≤ mi ∧ GM l G yX6_fault cX6_fault 2 (some .int) rmS n σ [.ref b0, .int x] (PX G b0 n σ (mi - 1) Z2 ans))) ∧ (∀ n σ, WM G b0 σ Z → GM l G yX7_fault cX7_fault 3 (some .int) rmM n σ [.ref (b0 + 44), .int x] (PM G b0 n σ Z2 ans)) := by
  obtain ⟨hA, hHA, hS4, hL50, hX128⟩ := id hZ
  have hN5 := hA.1
  cases hx : decide (nI 0 ≤ x ∧ x ≤ nI 1) with
  | false =>
    refine ⟨(-1000001), Z, hZ, fun n σ mi hW => Or.inl ?_, fun n σ hM => ?_⟩
    · obtain ⟨ph, tau, fp, fq, fx, rs, fpl, tn, op, dg, ftx, Kn, Kt, Ka, Kb, Kc, Kd, hp4, hE, hD, hBn, hSR, hmi, ⟨kn, kt, ka, kb, kc, kd⟩, hKA, hKT, hHi, hTx⟩ := id hW
      have eN : kN Kn = aN (zA Z) := hKA.1
      refine GM.post (GM.room2 (c_X6_fault_x   (hx)) (Nat.le_of_ble_eq_true rfl) (Nat.le_of_ble_eq_true rfl) (Nat.le_of_ble_eq_true rfl) (Nat.le_of_ble_eq_true rfl)) (fun v n' σ' hp => ?_)
      obtain ⟨e1, e2, e3⟩ := hp
      exact px_read hW (by rw [← e1] <;> rfl) e2 e3
    · obtain ⟨xat, xreason, xdone, xkind, xn, xstrength, fs, fwas, fbegun, faside, ftext, fsize, fburnt, fnext, ffar, fthen, fqueue, frankAt, fturnAt, hE, hMR, hMW, hMT⟩ := id hM
      refine GM.post (GM.room2 (GM.heap hE (c_X7_fault_x   (hx))) (Nat.le_of_ble_eq_true rfl) (Nat.le_of_ble_eq_true rfl) (Nat.le_of_ble_eq_true rfl) (Nat.le_of_ble_eq_true rfl)) (fun v n' σ' hp => ?_)
      obtain ⟨e1, e2, e3⟩ := hp
      exact pm_mk (by rw [← e1] <;> rfl) e2 e3 rfl rfl hMR hMW hMT
  | true =>
    obtain ⟨w, w0, w1, rfl⟩ := in_of (by omega) (by omega) hx
    refine ⟨(ftA (prs (zX Z) (zL Z) (zL Z + 1) 0 none 0 (zA Z) 0) w), Z, hZ, fun n σ mi hW => Or.inl ?_, fun n σ hM => ?_⟩
    · obtain ⟨ph, tau, fp, fq, fx, rs, fpl, tn, op, dg, ftx, Kn, Kt, Ka, Kb, Kc, Kd, hp4, hE, hD, hBn, hSR, hmi, ⟨kn, kt, ka, kb, kc, kd⟩, hKA, hKT, hHi, hTx⟩ := id hW
      have eN : kN Kn = aN (zA Z) := hKA.1
      refine GM.post (GM.room2 (GM.heap hE (c_X6_fault_y (a := zA Z) (t := zX Z) (w := w) (B := b0 + 58)  (hS4) (by omega) ((kn.qk hD)) ((kt.qk hD)) ((ka.qk hD)) ((kb.qk hD)) ((kc.qk hD)) ((kd.qk hD)) ((by omega)) (hKA) (hA) ((hKT.sh hD)) (hTx) (hX128) (hL50) (w1))) (Nat.le_of_ble_eq_true rfl) (Nat.le_of_ble_eq_true rfl) (Nat.le_of_ble_eq_true rfl) (Nat.le_of_ble_eq_true rfl)) (fun v n' σ' hp => ?_)
      obtain ⟨e1, e2, Kt2, rs2, fp2, tn2, op2, dg2, e3, hS9_⟩ := hp
      exact px_mk (by rw [← e1] <;> rfl) (by omega) e3 rfl rfl (fun _ _ _ => rfl) (hD.fr (by omega) (fun _ _ _ => rfl)) (by omega) hSR hmi ⟨kn, (fun i v hv => kn i v (by rw [← hS9_]; exact hv)), ka, kb, kc, kd⟩ hKA hKT hHi hTx
    · obtain ⟨xat, xreason, xdone, xkind, xn, xstrength, fs, fwas, fbegun, faside, ftext, fsize, fburnt, fnext, ffar, fthen, fqueue, frankAt, fturnAt, hE, hMR, hMW, hMT⟩ := id hM
      refine GM.post (GM.room2 (GM.heap hE (c_X7_fault_y (a := zA Z) (t := zX Z) (w := w)  (hMT) (hX128) (hL50) (hMR) (hA) (w1))) (Nat.le_of_ble_eq_true rfl) (Nat.le_of_ble_eq_true rfl) (Nat.le_of_ble_eq_true rfl) (Nat.le_of_ble_eq_true rfl)) (fun v n' σ' hp => ?_)
      obtain ⟨e1, e2, i2, r8, f3, x2, d3, k2, n3, r2, f2, g2, e3, hf3⟩ := hp
      exact pm_mk (by rw [← e1] <;> rfl) e2 e3 rfl rfl (hMR.congr hA.1 hf3) hMW hMT

set_option maxRecDepth 100000 in
set_option maxHeartbeats 4000000 in
theorem op_play {l : Launch} {G : gG} {b0 : Nat} {Z : ZT} (hZ : ZOK Z)  : ∃ (ans : Int32) (Z2 : ZT), ZOK Z2 ∧ (∀ n σ mi, WX G b0 n σ Z mi → (GM l G yX6_play cX6_play 1 (some .int) rmC n σ [.ref b0] (PX G b0 n σ mi Z2 ans)) ∨ (1 ≤ mi ∧ GM l G yX6_play cX6_play 1 (some .int) rmS n σ [.ref b0] (PX G b0 n σ (mi - 1) Z2 ans))) ∧ (∀ n σ, WM G b0 σ Z → GM l G yX7_play cX7_play 1 (some .int) rmM n σ [.ref (b0 + 44)] (PM G b0 n σ Z2 ans)) := by
  obtain ⟨hA, hHA, hS4, hL50, hX128⟩ := id hZ
  have hN5 := hA.1
  have hpo := prs_ok (t := zX Z) (L := zL Z) (zL Z + 1) 0 none 0 (zA Z) 0 hA (fun k hk => by cases hk)
  rcases hp9 : prs (zX Z) (zL Z) (zL Z + 1) 0 none 0 (zA Z) 0 with ⟨eq9, r9, bq, dq⟩
  rw [hp9] at hpo
  by_cases hr : r9 = 0
  · subst hr
    refine ⟨(nI dq), zP Z bq, zP_ok hZ hpo.1, fun n σ mi hW => Or.inl ?_, fun n σ hM => ?_⟩
    · obtain ⟨ph, tau, fp, fq, fx, rs, fpl, tn, op, dg, ftx, Kn, Kt, Ka, Kb, Kc, Kd, hp4, hE, hD, hBn, hSR, hmi, ⟨kn, kt, ka, kb, kc, kd⟩, hKA, hKT, hHi, hTx⟩ := id hW
      have eN : kN Kn = aN (zA Z) := hKA.1
      refine GM.post (GM.room2 (GM.heap hE (c_X6_play_y (a := zA Z) (t := zX Z) (eq := eq9) (dq := dq) (bq := bq) (B := b0 + 58)  (hS4) (by omega) ((kn.qk hD)) ((kt.qk hD)) ((ka.qk hD)) ((kb.qk hD)) ((kc.qk hD)) ((kd.qk hD)) ((by omega)) (hKA) (hA) ((hKT.sh hD)) (hTx) (hX128) (hL50) (hp9))) (Nat.le_of_ble_eq_true rfl) (Nat.le_of_ble_eq_true rfl) (Nat.le_of_ble_eq_true rfl) (Nat.le_of_ble_eq_true rfl)) (fun v n' σ' hp => ?_)
      obtain ⟨e1, e2, ph2, s2, Ka2, Kb2, Kc2, Kd2, Kn2, rs2, fp2, tn2, op2, dg2, e3, ha0, ha1, ha2, ha3, ha4, hS9_, hKA9_⟩ := hp
      exact px_keep (by rw [← e1] <;> rfl) (by omega) e3 (fun _ _ _ => rfl) (hD.fr (by omega) (fun _ _ _ => rfl)) (by omega) hSR hmi ⟨kn, ka, kb, kc, kd⟩ hKA hKT hHi hTx ha2 ha3 ha4 (fun i v hv => kn i v (by rw [← hS9_]; exact hv)) (fun i v hv => kn i v (by rw [← hS9_]; exact hv)) hKA9_.1 (hKT.cg hS9_ hpo.2.1 hpo.2.2)
    · obtain ⟨xat, xreason, xdone, xkind, xn, xstrength, fs, fwas, fbegun, faside, ftext, fsize, fburnt, fnext, ffar, fthen, fqueue, frankAt, fturnAt, hE, hMR, hMW, hMT⟩ := id hM
      refine GM.post (GM.room2 (GM.heap hE (c_X7_play_y (a := zA Z) (t := zX Z) (eq := eq9) (dq := dq) (bq := bq)  (hMT) (hX128) (hL50) (hMR) (hA) (hS4) (hp9))) (Nat.le_of_ble_eq_true rfl) (Nat.le_of_ble_eq_true rfl) (Nat.le_of_ble_eq_true rfl) (Nat.le_of_ble_eq_true rfl)) (fun v n' σ' hp => ?_)
      obtain ⟨e1, e2, i2, r8, f3, x2, d3, k2, n3, r2, f2, g2, w2, s2, b2, e3, hM3, h1, h2, h3⟩ := hp
      exact pm_keep hZ (by rw [← e1] <;> rfl) e2 e3 hMR hMW hMT hM3 h2 h3
  · refine ⟨(-1000002), Z, hZ, fun n σ mi hW => Or.inl ?_, fun n σ hM => ?_⟩
    · obtain ⟨ph, tau, fp, fq, fx, rs, fpl, tn, op, dg, ftx, Kn, Kt, Ka, Kb, Kc, Kd, hp4, hE, hD, hBn, hSR, hmi, ⟨kn, kt, ka, kb, kc, kd⟩, hKA, hKT, hHi, hTx⟩ := id hW
      have eN : kN Kn = aN (zA Z) := hKA.1
      refine GM.post (GM.room2 (GM.heap hE (c_X6_play_n (a := zA Z) (t := zX Z) (B := b0 + 58)  (hS4) (by omega) ((kn.qk hD)) ((kt.qk hD)) ((ka.qk hD)) ((kb.qk hD)) ((kc.qk hD)) ((kd.qk hD)) ((by omega)) (hKA) (hA) ((hKT.sh hD)) (hTx) (hX128) (hL50) ((by rw [hp9]; exact hr)))) (Nat.le_of_ble_eq_true rfl) (Nat.le_of_ble_eq_true rfl) (Nat.le_of_ble_eq_true rfl) (Nat.le_of_ble_eq_true rfl)) (fun v n' σ' hp => ?_)
      obtain ⟨e1, e2, Kt2, rs2, fp2, tn2, op2, dg2, e3, hS9_⟩ := hp
      exact px_mk (by rw [← e1] <;> rfl) (by omega) e3 rfl rfl (fun _ _ _ => rfl) (hD.fr (by omega) (fun _ _ _ => rfl)) (by omega) hSR hmi ⟨kn, (fun i v hv => kn i v (by rw [← hS9_]; exact hv)), ka, kb, kc, kd⟩ hKA hKT hHi hTx
    · obtain ⟨xat, xreason, xdone, xkind, xn, xstrength, fs, fwas, fbegun, faside, ftext, fsize, fburnt, fnext, ffar, fthen, fqueue, frankAt, fturnAt, hE, hMR, hMW, hMT⟩ := id hM
      refine GM.post (GM.room2 (GM.heap hE (c_X7_play_n (a := zA Z) (t := zX Z)  (hMT) (hX128) (hL50) (hMR) (hA) ((by rw [hp9]; exact hr)))) (Nat.le_of_ble_eq_true rfl) (Nat.le_of_ble_eq_true rfl) (Nat.le_of_ble_eq_true rfl) (Nat.le_of_ble_eq_true rfl)) (fun v n' σ' hp => ?_)
      obtain ⟨e1, e2, i2, r8, f3, x2, d3, k2, n3, r2, f2, g2, e3, hf3⟩ := hp
      exact pm_mk (by rw [← e1] <;> rfl) e2 e3 rfl rfl (hMR.congr hA.1 hf3) hMW hMT
