def cdA (a : AK) (k : Nat) : Nat := cd (aCk a k) (aO a k)
def srA (a : AK) (k : Nat) : Bool := srp (aCk a k) (aO a k) (aSd a k) (aCk a k)
def rkA (a : AK) (k : Nat) : Nat := rk (sid (aKd a k)) (aCk a k) (aO a k) (aSd a k)
def psA (a : AK) (k : Nat) : Nat := psp (aKd a k) (aSr a k) (aCk a k) (aO a k) (aSd a k) (aCk a k)
def gbA (a : AK) (k w : Nat) : Nat := gp (sid (aKd a k)) (aCk a k) (tnO (aCk a k) (aO a k) w) (tnS (sid (aKd a k)) (aSd a k) w)
noncomputable def dsA (a : AK) (k : Nat) : Nat := dst false (aKd a k) (aSr a k) (aCk a k) (rkA a k)
noncomputable def dwA (a : AK) (k : Nat) : Nat := dst true (aKd a k) (aSr a k) (aCk a k) (rkA a k)
noncomputable def fwA (a : AK) (k : Nat) : Nat := fwR (aKd a k) (aSr a k) (aCk a k) (dst false (aKd a k) (aSr a k) (aCk a k)) (dsA a k) (rkA a k) 0
theorem KSh_4 {tau : Nat → Option Rl} {Ka Kb Kc Kd : KT} (ha : KSh tau Ka) (hb : KSh tau Kb) (hc : KSh tau Kc) (hd : KSh tau Kd) {ph : Nat} (i : Nat) : KSh tau (hP ph Ka Kb Kc Kd i) := by
  unfold hP hK4
  split
  · exact ha
  · split
    · exact hb
    · split
      · exact hc
      · exact hd
abbrev rm_X6_stackOf_p0 : Room := { frames := 40, cells := 0, slots := 0, locals := 4000 }
set_option maxRecDepth 100000 in
set_option maxHeartbeats 4000000 in
theorem c_X6_stackOf_p0 {l : Launch} {G : gG} {n : Nat} {σ : gS} {b0 : Nat} {Z : ZT} {k : Nat}  (hZ : ZOK Z) (hk : k < aN (zA Z)) (hW : WX G b0 n σ Z 13) : GM l G yX6_stackOf cX6_stackOf 5 (some .int) rm_X6_stackOf_p0 n σ [.ref b0, .int (nI k), .int (nI 0)] (fun rv n2 σ2 => some (.int (nI (aKd (zA Z) k))) = rv ∧ n = n2 ∧ σ = σ2) := by
  obtain ⟨hA, hHA, hS4, hL50, hX128⟩ := id hZ
  have hN5 := hA.1
  have hvk := hA.2.2 k hk
  have hN6 := hvk.1.N
  have hN1 := hvk.1.2.1
  have hsd := hvk.2.2
  obtain ⟨ph, tau, fp, fq, fx, rs, fpl, tn, op, dg, ftx, Kn, Kt, Ka, Kb, Kc, Kd, hp4, hE, hD, hBn, hSR, hmi, ⟨kn, kt, ka, kb, kc, kd⟩, hKA, hKT, hHi, hTx⟩ := id hW
  have eN : kN Kn = aN (zA Z) := hKA.1
  obtain ⟨sa, la0, hs, hsa⟩ := hKT k hk
  obtain ⟨hso, hBs, la, cfl, sv, f1, f2, f3, f4, f5, hBl, z0, z1, z2, z3, z4, z5, z6, g1, g2, g3, g4, g5⟩ := hD.shp hsa
  refine GM.post (GM.room2 (c_X6_stackOf_y (cfl := 0) (k := k) (K := Kn) (w := 0) (r := (rk (sid (aKd (zA Z) k)) (aCk (zA Z) k) (aO (zA Z) k) (aSd (zA Z) k))) (wx_at0 hE rfl) (wx_at hE 7 rfl) (wx_at hE 10 rfl) (wx_at hE 11 rfl) (wx_at hE 12 rfl) z0 z1 z2 z3 z4 z5 z6 ((by omega)) ((by omega)) (hs) (hso) (g1) (g2) (g3) (g4) (g5) ((hKA.2.2.2.2 k hk).1) ((rk_at hA hk rfl rfl)) (by omega)) (Nat.le_of_ble_eq_true rfl) (Nat.le_of_ble_eq_true rfl) (Nat.le_of_ble_eq_true rfl) (Nat.le_of_ble_eq_true rfl)) (fun v n' σ' hp => ?_)
  obtain ⟨e1, e2, e3⟩ := hp
  exact ⟨(by rw [← e1, oR_rk hsd, sR_rk hsd, (hKA.2.2.2.2 k hk).2] <;> rfl), e2, e3⟩

abbrev rm_X6_stackOf_p1 : Room := { frames := 40, cells := 0, slots := 0, locals := 4000 }
set_option maxRecDepth 100000 in
set_option maxHeartbeats 4000000 in
theorem c_X6_stackOf_p1 {l : Launch} {G : gG} {n : Nat} {σ : gS} {b0 : Nat} {Z : ZT} {k : Nat}  (hZ : ZOK Z) (hk : k < aN (zA Z)) (hW : WX G b0 n σ Z 13) : GM l G yX6_stackOf cX6_stackOf 5 (some .int) rm_X6_stackOf_p1 n σ [.ref b0, .int (nI k), .int (nI 1)] (fun rv n2 σ2 => some (.int (nI (aCk (zA Z) k))) = rv ∧ n = n2 ∧ σ = σ2) := by
  obtain ⟨hA, hHA, hS4, hL50, hX128⟩ := id hZ
  have hN5 := hA.1
  have hvk := hA.2.2 k hk
  have hN6 := hvk.1.N
  have hN1 := hvk.1.2.1
  have hsd := hvk.2.2
  obtain ⟨ph, tau, fp, fq, fx, rs, fpl, tn, op, dg, ftx, Kn, Kt, Ka, Kb, Kc, Kd, hp4, hE, hD, hBn, hSR, hmi, ⟨kn, kt, ka, kb, kc, kd⟩, hKA, hKT, hHi, hTx⟩ := id hW
  have eN : kN Kn = aN (zA Z) := hKA.1
  obtain ⟨sa, la0, hs, hsa⟩ := hKT k hk
  obtain ⟨hso, hBs, la, cfl, sv, f1, f2, f3, f4, f5, hBl, z0, z1, z2, z3, z4, z5, z6, g1, g2, g3, g4, g5⟩ := hD.shp hsa
  refine GM.post (GM.room2 (c_X6_stackOf_y (cfl := 0) (k := k) (K := Kn) (w := 1) (r := (rk (sid (aKd (zA Z) k)) (aCk (zA Z) k) (aO (zA Z) k) (aSd (zA Z) k))) (wx_at0 hE rfl) (wx_at hE 7 rfl) (wx_at hE 10 rfl) (wx_at hE 11 rfl) (wx_at hE 12 rfl) z0 z1 z2 z3 z4 z5 z6 ((by omega)) ((by omega)) (hs) (hso) (g1) (g2) (g3) (g4) (g5) ((hKA.2.2.2.2 k hk).1) ((rk_at hA hk rfl rfl)) (by omega)) (Nat.le_of_ble_eq_true rfl) (Nat.le_of_ble_eq_true rfl) (Nat.le_of_ble_eq_true rfl) (Nat.le_of_ble_eq_true rfl)) (fun v n' σ' hp => ?_)
  obtain ⟨e1, e2, e3⟩ := hp
  exact ⟨(by rw [← e1, oR_rk hsd, sR_rk hsd, (hKA.2.2.2.2 k hk).2] <;> rfl), e2, e3⟩

abbrev rm_X6_stackOf_p3 : Room := { frames := 40, cells := 0, slots := 0, locals := 4000 }
set_option maxRecDepth 100000 in
set_option maxHeartbeats 4000000 in
theorem c_X6_stackOf_p3 {l : Launch} {G : gG} {n : Nat} {σ : gS} {b0 : Nat} {Z : ZT} {k : Nat}  (hZ : ZOK Z) (hk : k < aN (zA Z)) (hW : WX G b0 n σ Z 13) : GM l G yX6_stackOf cX6_stackOf 5 (some .int) rm_X6_stackOf_p3 n σ [.ref b0, .int (nI k), .int (nI 3)] (fun rv n2 σ2 => some (.int (nI (cdA (zA Z) k))) = rv ∧ n = n2 ∧ σ = σ2) := by
  obtain ⟨hA, hHA, hS4, hL50, hX128⟩ := id hZ
  have hN5 := hA.1
  have hvk := hA.2.2 k hk
  have hN6 := hvk.1.N
  have hN1 := hvk.1.2.1
  have hsd := hvk.2.2
  obtain ⟨ph, tau, fp, fq, fx, rs, fpl, tn, op, dg, ftx, Kn, Kt, Ka, Kb, Kc, Kd, hp4, hE, hD, hBn, hSR, hmi, ⟨kn, kt, ka, kb, kc, kd⟩, hKA, hKT, hHi, hTx⟩ := id hW
  have eN : kN Kn = aN (zA Z) := hKA.1
  obtain ⟨sa, la0, hs, hsa⟩ := hKT k hk
  obtain ⟨hso, hBs, la, cfl, sv, f1, f2, f3, f4, f5, hBl, z0, z1, z2, z3, z4, z5, z6, g1, g2, g3, g4, g5⟩ := hD.shp hsa
  refine GM.post (GM.room2 (c_X6_stackOf_y (cfl := 0) (k := k) (K := Kn) (w := 3) (r := (rk (sid (aKd (zA Z) k)) (aCk (zA Z) k) (aO (zA Z) k) (aSd (zA Z) k))) (wx_at0 hE rfl) (wx_at hE 7 rfl) (wx_at hE 10 rfl) (wx_at hE 11 rfl) (wx_at hE 12 rfl) z0 z1 z2 z3 z4 z5 z6 ((by omega)) ((by omega)) (hs) (hso) (g1) (g2) (g3) (g4) (g5) ((hKA.2.2.2.2 k hk).1) ((rk_at hA hk rfl rfl)) (by omega)) (Nat.le_of_ble_eq_true rfl) (Nat.le_of_ble_eq_true rfl) (Nat.le_of_ble_eq_true rfl) (Nat.le_of_ble_eq_true rfl)) (fun v n' σ' hp => ?_)
  obtain ⟨e1, e2, e3⟩ := hp
  exact ⟨(by rw [← e1, oR_rk hsd, sR_rk hsd, (hKA.2.2.2.2 k hk).2] <;> rfl), e2, e3⟩

abbrev rm_X6_stackOf_p4 : Room := { frames := 40, cells := 0, slots := 0, locals := 4000 }
set_option maxRecDepth 100000 in
set_option maxHeartbeats 4000000 in
theorem c_X6_stackOf_p4 {l : Launch} {G : gG} {n : Nat} {σ : gS} {b0 : Nat} {Z : ZT} {k : Nat}  (hZ : ZOK Z) (hk : k < aN (zA Z)) (hW : WX G b0 n σ Z 13) : GM l G yX6_stackOf cX6_stackOf 5 (some .int) rm_X6_stackOf_p4 n σ [.ref b0, .int (nI k), .int (nI 4)] (fun rv n2 σ2 => some (.int (nI (aSd (zA Z) k))) = rv ∧ n = n2 ∧ σ = σ2) := by
  obtain ⟨hA, hHA, hS4, hL50, hX128⟩ := id hZ
  have hN5 := hA.1
  have hvk := hA.2.2 k hk
  have hN6 := hvk.1.N
  have hN1 := hvk.1.2.1
  have hsd := hvk.2.2
  obtain ⟨ph, tau, fp, fq, fx, rs, fpl, tn, op, dg, ftx, Kn, Kt, Ka, Kb, Kc, Kd, hp4, hE, hD, hBn, hSR, hmi, ⟨kn, kt, ka, kb, kc, kd⟩, hKA, hKT, hHi, hTx⟩ := id hW
  have eN : kN Kn = aN (zA Z) := hKA.1
  obtain ⟨sa, la0, hs, hsa⟩ := hKT k hk
  obtain ⟨hso, hBs, la, cfl, sv, f1, f2, f3, f4, f5, hBl, z0, z1, z2, z3, z4, z5, z6, g1, g2, g3, g4, g5⟩ := hD.shp hsa
  refine GM.post (GM.room2 (c_X6_stackOf_y (cfl := 0) (k := k) (K := Kn) (w := 4) (r := (rk (sid (aKd (zA Z) k)) (aCk (zA Z) k) (aO (zA Z) k) (aSd (zA Z) k))) (wx_at0 hE rfl) (wx_at hE 7 rfl) (wx_at hE 10 rfl) (wx_at hE 11 rfl) (wx_at hE 12 rfl) z0 z1 z2 z3 z4 z5 z6 ((by omega)) ((by omega)) (hs) (hso) (g1) (g2) (g3) (g4) (g5) ((hKA.2.2.2.2 k hk).1) ((rk_at hA hk rfl rfl)) (by omega)) (Nat.le_of_ble_eq_true rfl) (Nat.le_of_ble_eq_true rfl) (Nat.le_of_ble_eq_true rfl) (Nat.le_of_ble_eq_true rfl)) (fun v n' σ' hp => ?_)
  obtain ⟨e1, e2, e3⟩ := hp
  exact ⟨(by rw [← e1, oR_rk hsd, sR_rk hsd, (hKA.2.2.2.2 k hk).2] <;> rfl), e2, e3⟩

abbrev rm_X6_stackOf_p5 : Room := { frames := 40, cells := 0, slots := 0, locals := 4000 }
set_option maxRecDepth 100000 in
set_option maxHeartbeats 4000000 in
theorem c_X6_stackOf_p5 {l : Launch} {G : gG} {n : Nat} {σ : gS} {b0 : Nat} {Z : ZT} {k : Nat}  (hZ : ZOK Z) (hk : k < aN (zA Z)) (hW : WX G b0 n σ Z 13) : GM l G yX6_stackOf cX6_stackOf 5 (some .int) rm_X6_stackOf_p5 n σ [.ref b0, .int (nI k), .int (nI 5)] (fun rv n2 σ2 => some (.int (nI (gpA (zA Z) k))) = rv ∧ n = n2 ∧ σ = σ2) := by
  obtain ⟨hA, hHA, hS4, hL50, hX128⟩ := id hZ
  have hN5 := hA.1
  have hvk := hA.2.2 k hk
  have hN6 := hvk.1.N
  have hN1 := hvk.1.2.1
  have hsd := hvk.2.2
  obtain ⟨ph, tau, fp, fq, fx, rs, fpl, tn, op, dg, ftx, Kn, Kt, Ka, Kb, Kc, Kd, hp4, hE, hD, hBn, hSR, hmi, ⟨kn, kt, ka, kb, kc, kd⟩, hKA, hKT, hHi, hTx⟩ := id hW
  have eN : kN Kn = aN (zA Z) := hKA.1
  obtain ⟨sa, la0, hs, hsa⟩ := hKT k hk
  obtain ⟨hso, hBs, la, cfl, sv, f1, f2, f3, f4, f5, hBl, z0, z1, z2, z3, z4, z5, z6, g1, g2, g3, g4, g5⟩ := hD.shp hsa
  refine GM.post (GM.room2 (c_X6_stackOf_y (cfl := 0) (k := k) (K := Kn) (w := 5) (r := (rk (sid (aKd (zA Z) k)) (aCk (zA Z) k) (aO (zA Z) k) (aSd (zA Z) k))) (wx_at0 hE rfl) (wx_at hE 7 rfl) (wx_at hE 10 rfl) (wx_at hE 11 rfl) (wx_at hE 12 rfl) z0 z1 z2 z3 z4 z5 z6 ((by omega)) ((by omega)) (hs) (hso) (g1) (g2) (g3) (g4) (g5) ((hKA.2.2.2.2 k hk).1) ((rk_at hA hk rfl rfl)) (by omega)) (Nat.le_of_ble_eq_true rfl) (Nat.le_of_ble_eq_true rfl) (Nat.le_of_ble_eq_true rfl) (Nat.le_of_ble_eq_true rfl)) (fun v n' σ' hp => ?_)
  obtain ⟨e1, e2, e3⟩ := hp
  exact ⟨(by rw [← e1, oR_rk hsd, sR_rk hsd, (hKA.2.2.2.2 k hk).2] <;> rfl), e2, e3⟩

abbrev rm_X6_stackOf_p6 : Room := { frames := 40, cells := 0, slots := 0, locals := 4000 }
set_option maxRecDepth 100000 in
set_option maxHeartbeats 4000000 in
theorem c_X6_stackOf_p6 {l : Launch} {G : gG} {n : Nat} {σ : gS} {b0 : Nat} {Z : ZT} {k : Nat}  (hZ : ZOK Z) (hk : k < aN (zA Z)) (hW : WX G b0 n σ Z 13) : GM l G yX6_stackOf cX6_stackOf 5 (some .int) rm_X6_stackOf_p6 n σ [.ref b0, .int (nI k), .int (nI 6)] (fun rv n2 σ2 => some (.int (bI (srA (zA Z) k))) = rv ∧ n = n2 ∧ σ = σ2) := by
  obtain ⟨hA, hHA, hS4, hL50, hX128⟩ := id hZ
  have hN5 := hA.1
  have hvk := hA.2.2 k hk
  have hN6 := hvk.1.N
  have hN1 := hvk.1.2.1
  have hsd := hvk.2.2
  obtain ⟨ph, tau, fp, fq, fx, rs, fpl, tn, op, dg, ftx, Kn, Kt, Ka, Kb, Kc, Kd, hp4, hE, hD, hBn, hSR, hmi, ⟨kn, kt, ka, kb, kc, kd⟩, hKA, hKT, hHi, hTx⟩ := id hW
  have eN : kN Kn = aN (zA Z) := hKA.1
  obtain ⟨sa, la0, hs, hsa⟩ := hKT k hk
  obtain ⟨hso, hBs, la, cfl, sv, f1, f2, f3, f4, f5, hBl, z0, z1, z2, z3, z4, z5, z6, g1, g2, g3, g4, g5⟩ := hD.shp hsa
  refine GM.post (GM.room2 (c_X6_stackOf_y (cfl := 0) (k := k) (K := Kn) (w := 6) (r := (rk (sid (aKd (zA Z) k)) (aCk (zA Z) k) (aO (zA Z) k) (aSd (zA Z) k))) (wx_at0 hE rfl) (wx_at hE 7 rfl) (wx_at hE 10 rfl) (wx_at hE 11 rfl) (wx_at hE 12 rfl) z0 z1 z2 z3 z4 z5 z6 ((by omega)) ((by omega)) (hs) (hso) (g1) (g2) (g3) (g4) (g5) ((hKA.2.2.2.2 k hk).1) ((rk_at hA hk rfl rfl)) (by omega)) (Nat.le_of_ble_eq_true rfl) (Nat.le_of_ble_eq_true rfl) (Nat.le_of_ble_eq_true rfl) (Nat.le_of_ble_eq_true rfl)) (fun v n' σ' hp => ?_)
  obtain ⟨e1, e2, e3⟩ := hp
  exact ⟨(by rw [← e1, oR_rk hsd, sR_rk hsd, (hKA.2.2.2.2 k hk).2] <;> rfl), e2, e3⟩

abbrev rm_X6_stackOf_p7 : Room := { frames := 40, cells := 0, slots := 0, locals := 4000 }
set_option maxRecDepth 100000 in
set_option maxHeartbeats 4000000 in
theorem c_X6_stackOf_p7 {l : Launch} {G : gG} {n : Nat} {σ : gS} {b0 : Nat} {Z : ZT} {k : Nat}  (hZ : ZOK Z) (hk : k < aN (zA Z)) (hW : WX G b0 n σ Z 13) : GM l G yX6_stackOf cX6_stackOf 5 (some .int) rm_X6_stackOf_p7 n σ [.ref b0, .int (nI k), .int (nI 7)] (fun rv n2 σ2 => some (.int (nI (rkA (zA Z) k))) = rv ∧ n = n2 ∧ σ = σ2) := by
  obtain ⟨hA, hHA, hS4, hL50, hX128⟩ := id hZ
  have hN5 := hA.1
  have hvk := hA.2.2 k hk
  have hN6 := hvk.1.N
  have hN1 := hvk.1.2.1
  have hsd := hvk.2.2
  obtain ⟨ph, tau, fp, fq, fx, rs, fpl, tn, op, dg, ftx, Kn, Kt, Ka, Kb, Kc, Kd, hp4, hE, hD, hBn, hSR, hmi, ⟨kn, kt, ka, kb, kc, kd⟩, hKA, hKT, hHi, hTx⟩ := id hW
  have eN : kN Kn = aN (zA Z) := hKA.1
  obtain ⟨sa, la0, hs, hsa⟩ := hKT k hk
  obtain ⟨hso, hBs, la, cfl, sv, f1, f2, f3, f4, f5, hBl, z0, z1, z2, z3, z4, z5, z6, g1, g2, g3, g4, g5⟩ := hD.shp hsa
  refine GM.post (GM.room2 (c_X6_stackOf_y (cfl := 0) (k := k) (K := Kn) (w := 7) (r := (rk (sid (aKd (zA Z) k)) (aCk (zA Z) k) (aO (zA Z) k) (aSd (zA Z) k))) (wx_at0 hE rfl) (wx_at hE 7 rfl) (wx_at hE 10 rfl) (wx_at hE 11 rfl) (wx_at hE 12 rfl) z0 z1 z2 z3 z4 z5 z6 ((by omega)) ((by omega)) (hs) (hso) (g1) (g2) (g3) (g4) (g5) ((hKA.2.2.2.2 k hk).1) ((rk_at hA hk rfl rfl)) (by omega)) (Nat.le_of_ble_eq_true rfl) (Nat.le_of_ble_eq_true rfl) (Nat.le_of_ble_eq_true rfl) (Nat.le_of_ble_eq_true rfl)) (fun v n' σ' hp => ?_)
  obtain ⟨e1, e2, e3⟩ := hp
  exact ⟨(by rw [← e1, oR_rk hsd, sR_rk hsd, (hKA.2.2.2.2 k hk).2] <;> rfl), e2, e3⟩

abbrev rm_X6_stackOf_p8 : Room := { frames := 40, cells := 0, slots := 0, locals := 4000 }
set_option maxRecDepth 100000 in
set_option maxHeartbeats 4000000 in
theorem c_X6_stackOf_p8 {l : Launch} {G : gG} {n : Nat} {σ : gS} {b0 : Nat} {Z : ZT} {k : Nat}  (hZ : ZOK Z) (hk : k < aN (zA Z)) (hW : WX G b0 n σ Z 13) : GM l G yX6_stackOf cX6_stackOf 5 (some .int) rm_X6_stackOf_p8 n σ [.ref b0, .int (nI k), .int (nI 8)] (fun rv n2 σ2 => some (.int (nI (psA (zA Z) k))) = rv ∧ n = n2 ∧ σ = σ2) := by
  obtain ⟨hA, hHA, hS4, hL50, hX128⟩ := id hZ
  have hN5 := hA.1
  have hvk := hA.2.2 k hk
  have hN6 := hvk.1.N
  have hN1 := hvk.1.2.1
  have hsd := hvk.2.2
  obtain ⟨ph, tau, fp, fq, fx, rs, fpl, tn, op, dg, ftx, Kn, Kt, Ka, Kb, Kc, Kd, hp4, hE, hD, hBn, hSR, hmi, ⟨kn, kt, ka, kb, kc, kd⟩, hKA, hKT, hHi, hTx⟩ := id hW
  have eN : kN Kn = aN (zA Z) := hKA.1
  obtain ⟨sa, la0, hs, hsa⟩ := hKT k hk
  obtain ⟨hso, hBs, la, cfl, sv, f1, f2, f3, f4, f5, hBl, z0, z1, z2, z3, z4, z5, z6, g1, g2, g3, g4, g5⟩ := hD.shp hsa
  refine GM.post (GM.room2 (c_X6_stackOf_y (cfl := 0) (k := k) (K := Kn) (w := 8) (r := (rk (sid (aKd (zA Z) k)) (aCk (zA Z) k) (aO (zA Z) k) (aSd (zA Z) k))) (wx_at0 hE rfl) (wx_at hE 7 rfl) (wx_at hE 10 rfl) (wx_at hE 11 rfl) (wx_at hE 12 rfl) z0 z1 z2 z3 z4 z5 z6 ((by omega)) ((by omega)) (hs) (hso) (g1) (g2) (g3) (g4) (g5) ((hKA.2.2.2.2 k hk).1) ((rk_at hA hk rfl rfl)) (by omega)) (Nat.le_of_ble_eq_true rfl) (Nat.le_of_ble_eq_true rfl) (Nat.le_of_ble_eq_true rfl) (Nat.le_of_ble_eq_true rfl)) (fun v n' σ' hp => ?_)
  obtain ⟨e1, e2, e3⟩ := hp
  exact ⟨(by rw [← e1, oR_rk hsd, sR_rk hsd, (hKA.2.2.2.2 k hk).2] <;> rfl), e2, e3⟩

abbrev rm_X6_stackOf_p9 : Room := { frames := 40, cells := 0, slots := 0, locals := 4000 }
set_option maxRecDepth 100000 in
set_option maxHeartbeats 4000000 in
theorem c_X6_stackOf_p9 {l : Launch} {G : gG} {n : Nat} {σ : gS} {b0 : Nat} {Z : ZT} {k : Nat}  (hZ : ZOK Z) (hk : k < aN (zA Z)) (hW : WX G b0 n σ Z 13) : GM l G yX6_stackOf cX6_stackOf 5 (some .int) rm_X6_stackOf_p9 n σ [.ref b0, .int (nI k), .int (nI 9)] (fun rv n2 σ2 => some (.int (aMd (zA Z) k)) = rv ∧ n = n2 ∧ σ = σ2) := by
  obtain ⟨hA, hHA, hS4, hL50, hX128⟩ := id hZ
  have hN5 := hA.1
  have hvk := hA.2.2 k hk
  have hN6 := hvk.1.N
  have hN1 := hvk.1.2.1
  have hsd := hvk.2.2
  obtain ⟨ph, tau, fp, fq, fx, rs, fpl, tn, op, dg, ftx, Kn, Kt, Ka, Kb, Kc, Kd, hp4, hE, hD, hBn, hSR, hmi, ⟨kn, kt, ka, kb, kc, kd⟩, hKA, hKT, hHi, hTx⟩ := id hW
  have eN : kN Kn = aN (zA Z) := hKA.1
  obtain ⟨sa, la0, hs, hsa⟩ := hKT k hk
  obtain ⟨hso, hBs, la, cfl, sv, f1, f2, f3, f4, f5, hBl, z0, z1, z2, z3, z4, z5, z6, g1, g2, g3, g4, g5⟩ := hD.shp hsa
  refine GM.post (GM.room2 (c_X6_stackOf_y (cfl := 0) (k := k) (K := Kn) (w := 9) (r := (rk (sid (aKd (zA Z) k)) (aCk (zA Z) k) (aO (zA Z) k) (aSd (zA Z) k))) (wx_at0 hE rfl) (wx_at hE 7 rfl) (wx_at hE 10 rfl) (wx_at hE 11 rfl) (wx_at hE 12 rfl) z0 z1 z2 z3 z4 z5 z6 ((by omega)) ((by omega)) (hs) (hso) (g1) (g2) (g3) (g4) (g5) ((hKA.2.2.2.2 k hk).1) ((rk_at hA hk rfl rfl)) (by omega)) (Nat.le_of_ble_eq_true rfl) (Nat.le_of_ble_eq_true rfl) (Nat.le_of_ble_eq_true rfl) (Nat.le_of_ble_eq_true rfl)) (fun v n' σ' hp => ?_)
  obtain ⟨e1, e2, e3⟩ := hp
  exact ⟨(by rw [← e1, oR_rk hsd, sR_rk hsd, (hKA.2.2.2.2 k hk).2] <;> rfl), e2, e3⟩

abbrev rm_X6_count_p0 : Room := { frames := 40, cells := 0, slots := 0, locals := 4000 }
set_option maxRecDepth 100000 in
set_option maxHeartbeats 4000000 in
theorem c_X6_count_p0 {l : Launch} {G : gG} {n : Nat} {σ : gS} {b0 : Nat} {Z : ZT}  (hZ : ZOK Z) (hW : WX G b0 n σ Z 13) : GM l G yX6_count cX6_count 2 (some .int) rm_X6_count_p0 n σ [.ref b0, .int (nI 0)] (fun rv n2 σ2 => some (.int (nI (aN (zA Z)))) = rv ∧ n = n2 ∧ σ = σ2) := by
  obtain ⟨hA, hHA, hS4, hL50, hX128⟩ := id hZ
  have hN5 := hA.1
  obtain ⟨ph, tau, fp, fq, fx, rs, fpl, tn, op, dg, ftx, Kn, Kt, Ka, Kb, Kc, Kd, hp4, hE, hD, hBn, hSR, hmi, ⟨kn, kt, ka, kb, kc, kd⟩, hKA, hKT, hHi, hTx⟩ := id hW
  have eN : kN Kn = aN (zA Z) := hKA.1
  refine GM.post (GM.room2 (c_X6_count_y (K := Kn) (w := 0) (B := b0 + 44) (wx_at0 hE rfl) (wx_at hE 7 rfl) (wx_at hE 8 rfl) (wx_at hE 9 rfl) (wx_at hE 10 rfl) (wx_at hE 11 rfl) (wx_at hE 12 rfl) (wx_at hE 5 rfl) (hKA) (hA) ((hKT.sh hD)) (by omega) (hS4) (hL50)) (Nat.le_of_ble_eq_true rfl) (Nat.le_of_ble_eq_true rfl) (Nat.le_of_ble_eq_true rfl) (Nat.le_of_ble_eq_true rfl)) (fun v n' σ' hp => ?_)
  obtain ⟨e1, e2, e3⟩ := hp
  exact ⟨(by rw [← e1] <;> rfl), e2, e3⟩

abbrev rm_X6_count_p1 : Room := { frames := 40, cells := 0, slots := 0, locals := 4000 }
set_option maxRecDepth 100000 in
set_option maxHeartbeats 4000000 in
theorem c_X6_count_p1 {l : Launch} {G : gG} {n : Nat} {σ : gS} {b0 : Nat} {Z : ZT}  (hZ : ZOK Z) (hW : WX G b0 n σ Z 13) : GM l G yX6_count cX6_count 2 (some .int) rm_X6_count_p1 n σ [.ref b0, .int (nI 1)] (fun rv n2 σ2 => some (.int (nI (ofa (zA Z) 1 (aN (zA Z))))) = rv ∧ n = n2 ∧ σ = σ2) := by
  obtain ⟨hA, hHA, hS4, hL50, hX128⟩ := id hZ
  have hN5 := hA.1
  obtain ⟨ph, tau, fp, fq, fx, rs, fpl, tn, op, dg, ftx, Kn, Kt, Ka, Kb, Kc, Kd, hp4, hE, hD, hBn, hSR, hmi, ⟨kn, kt, ka, kb, kc, kd⟩, hKA, hKT, hHi, hTx⟩ := id hW
  have eN : kN Kn = aN (zA Z) := hKA.1
  refine GM.post (GM.room2 (c_X6_count_y (K := Kn) (w := 1) (B := b0 + 44) (wx_at0 hE rfl) (wx_at hE 7 rfl) (wx_at hE 8 rfl) (wx_at hE 9 rfl) (wx_at hE 10 rfl) (wx_at hE 11 rfl) (wx_at hE 12 rfl) (wx_at hE 5 rfl) (hKA) (hA) ((hKT.sh hD)) (by omega) (hS4) (hL50)) (Nat.le_of_ble_eq_true rfl) (Nat.le_of_ble_eq_true rfl) (Nat.le_of_ble_eq_true rfl) (Nat.le_of_ble_eq_true rfl)) (fun v n' σ' hp => ?_)
  obtain ⟨e1, e2, e3⟩ := hp
  exact ⟨(by rw [← e1] <;> rfl), e2, e3⟩

abbrev rm_X6_count_p2 : Room := { frames := 40, cells := 0, slots := 0, locals := 4000 }
set_option maxRecDepth 100000 in
set_option maxHeartbeats 4000000 in
theorem c_X6_count_p2 {l : Launch} {G : gG} {n : Nat} {σ : gS} {b0 : Nat} {Z : ZT}  (hZ : ZOK Z) (hW : WX G b0 n σ Z 13) : GM l G yX6_count cX6_count 2 (some .int) rm_X6_count_p2 n σ [.ref b0, .int (nI 2)] (fun rv n2 σ2 => some (.int (nI (ofa (zA Z) 2 (aN (zA Z))))) = rv ∧ n = n2 ∧ σ = σ2) := by
  obtain ⟨hA, hHA, hS4, hL50, hX128⟩ := id hZ
  have hN5 := hA.1
  obtain ⟨ph, tau, fp, fq, fx, rs, fpl, tn, op, dg, ftx, Kn, Kt, Ka, Kb, Kc, Kd, hp4, hE, hD, hBn, hSR, hmi, ⟨kn, kt, ka, kb, kc, kd⟩, hKA, hKT, hHi, hTx⟩ := id hW
  have eN : kN Kn = aN (zA Z) := hKA.1
  refine GM.post (GM.room2 (c_X6_count_y (K := Kn) (w := 2) (B := b0 + 44) (wx_at0 hE rfl) (wx_at hE 7 rfl) (wx_at hE 8 rfl) (wx_at hE 9 rfl) (wx_at hE 10 rfl) (wx_at hE 11 rfl) (wx_at hE 12 rfl) (wx_at hE 5 rfl) (hKA) (hA) ((hKT.sh hD)) (by omega) (hS4) (hL50)) (Nat.le_of_ble_eq_true rfl) (Nat.le_of_ble_eq_true rfl) (Nat.le_of_ble_eq_true rfl) (Nat.le_of_ble_eq_true rfl)) (fun v n' σ' hp => ?_)
  obtain ⟨e1, e2, e3⟩ := hp
  exact ⟨(by rw [← e1] <;> rfl), e2, e3⟩

abbrev rm_X6_count_p3 : Room := { frames := 40, cells := 0, slots := 0, locals := 4000 }
set_option maxRecDepth 100000 in
set_option maxHeartbeats 4000000 in
theorem c_X6_count_p3 {l : Launch} {G : gG} {n : Nat} {σ : gS} {b0 : Nat} {Z : ZT}  (hZ : ZOK Z) (hW : WX G b0 n σ Z 13) : GM l G yX6_count cX6_count 2 (some .int) rm_X6_count_p3 n σ [.ref b0, .int (nI 3)] (fun rv n2 σ2 => some (.int (nI (aH (zA Z)))) = rv ∧ n = n2 ∧ σ = σ2) := by
  obtain ⟨hA, hHA, hS4, hL50, hX128⟩ := id hZ
  have hN5 := hA.1
  obtain ⟨ph, tau, fp, fq, fx, rs, fpl, tn, op, dg, ftx, Kn, Kt, Ka, Kb, Kc, Kd, hp4, hE, hD, hBn, hSR, hmi, ⟨kn, kt, ka, kb, kc, kd⟩, hKA, hKT, hHi, hTx⟩ := id hW
  have eN : kN Kn = aN (zA Z) := hKA.1
  refine GM.post (GM.room2 (c_X6_count_y (K := Kn) (w := 3) (B := b0 + 44) (wx_at0 hE rfl) (wx_at hE 7 rfl) (wx_at hE 8 rfl) (wx_at hE 9 rfl) (wx_at hE 10 rfl) (wx_at hE 11 rfl) (wx_at hE 12 rfl) (wx_at hE 5 rfl) (hKA) (hA) ((hKT.sh hD)) (by omega) (hS4) (hL50)) (Nat.le_of_ble_eq_true rfl) (Nat.le_of_ble_eq_true rfl) (Nat.le_of_ble_eq_true rfl) (Nat.le_of_ble_eq_true rfl)) (fun v n' σ' hp => ?_)
  obtain ⟨e1, e2, e3⟩ := hp
  exact ⟨(by rw [← e1] <;> rfl), e2, e3⟩

abbrev rm_X6_count_p4 : Room := { frames := 40, cells := 0, slots := 0, locals := 4000 }
set_option maxRecDepth 100000 in
set_option maxHeartbeats 4000000 in
theorem c_X6_count_p4 {l : Launch} {G : gG} {n : Nat} {σ : gS} {b0 : Nat} {Z : ZT}  (hZ : ZOK Z) (hW : WX G b0 n σ Z 13) : GM l G yX6_count cX6_count 2 (some .int) rm_X6_count_p4 n σ [.ref b0, .int (nI 4)] (fun rv n2 σ2 => some (.int (aTu (zA Z) 0)) = rv ∧ n = n2 ∧ σ = σ2) := by
  obtain ⟨hA, hHA, hS4, hL50, hX128⟩ := id hZ
  have hN5 := hA.1
  obtain ⟨ph, tau, fp, fq, fx, rs, fpl, tn, op, dg, ftx, Kn, Kt, Ka, Kb, Kc, Kd, hp4, hE, hD, hBn, hSR, hmi, ⟨kn, kt, ka, kb, kc, kd⟩, hKA, hKT, hHi, hTx⟩ := id hW
  have eN : kN Kn = aN (zA Z) := hKA.1
  refine GM.post (GM.room2 (c_X6_count_y (K := Kn) (w := 4) (B := b0 + 44) (wx_at0 hE rfl) (wx_at hE 7 rfl) (wx_at hE 8 rfl) (wx_at hE 9 rfl) (wx_at hE 10 rfl) (wx_at hE 11 rfl) (wx_at hE 12 rfl) (wx_at hE 5 rfl) (hKA) (hA) ((hKT.sh hD)) (by omega) (hS4) (hL50)) (Nat.le_of_ble_eq_true rfl) (Nat.le_of_ble_eq_true rfl) (Nat.le_of_ble_eq_true rfl) (Nat.le_of_ble_eq_true rfl)) (fun v n' σ' hp => ?_)
  obtain ⟨e1, e2, e3⟩ := hp
  exact ⟨(by rw [← e1] <;> rfl), e2, e3⟩

abbrev rm_X6_count_p5 : Room := { frames := 40, cells := 0, slots := 0, locals := 4000 }
set_option maxRecDepth 100000 in
set_option maxHeartbeats 4000000 in
theorem c_X6_count_p5 {l : Launch} {G : gG} {n : Nat} {σ : gS} {b0 : Nat} {Z : ZT}  (hZ : ZOK Z) (hW : WX G b0 n σ Z 13) : GM l G yX6_count cX6_count 2 (some .int) rm_X6_count_p5 n σ [.ref b0, .int (nI 5)] (fun rv n2 σ2 => some (.int (aTu (zA Z) 1)) = rv ∧ n = n2 ∧ σ = σ2) := by
  obtain ⟨hA, hHA, hS4, hL50, hX128⟩ := id hZ
  have hN5 := hA.1
  obtain ⟨ph, tau, fp, fq, fx, rs, fpl, tn, op, dg, ftx, Kn, Kt, Ka, Kb, Kc, Kd, hp4, hE, hD, hBn, hSR, hmi, ⟨kn, kt, ka, kb, kc, kd⟩, hKA, hKT, hHi, hTx⟩ := id hW
  have eN : kN Kn = aN (zA Z) := hKA.1
  refine GM.post (GM.room2 (c_X6_count_y (K := Kn) (w := 5) (B := b0 + 44) (wx_at0 hE rfl) (wx_at hE 7 rfl) (wx_at hE 8 rfl) (wx_at hE 9 rfl) (wx_at hE 10 rfl) (wx_at hE 11 rfl) (wx_at hE 12 rfl) (wx_at hE 5 rfl) (hKA) (hA) ((hKT.sh hD)) (by omega) (hS4) (hL50)) (Nat.le_of_ble_eq_true rfl) (Nat.le_of_ble_eq_true rfl) (Nat.le_of_ble_eq_true rfl) (Nat.le_of_ble_eq_true rfl)) (fun v n' σ' hp => ?_)
  obtain ⟨e1, e2, e3⟩ := hp
  exact ⟨(by rw [← e1] <;> rfl), e2, e3⟩

abbrev rm_X6_count_p6 : Room := { frames := 40, cells := 0, slots := 0, locals := 4000 }
set_option maxRecDepth 100000 in
set_option maxHeartbeats 4000000 in
theorem c_X6_count_p6 {l : Launch} {G : gG} {n : Nat} {σ : gS} {b0 : Nat} {Z : ZT}  (hZ : ZOK Z) (hW : WX G b0 n σ Z 13) : GM l G yX6_count cX6_count 2 (some .int) rm_X6_count_p6 n σ [.ref b0, .int (nI 6)] (fun rv n2 σ2 => some (.int (aTu (zA Z) 2)) = rv ∧ n = n2 ∧ σ = σ2) := by
  obtain ⟨hA, hHA, hS4, hL50, hX128⟩ := id hZ
  have hN5 := hA.1
  obtain ⟨ph, tau, fp, fq, fx, rs, fpl, tn, op, dg, ftx, Kn, Kt, Ka, Kb, Kc, Kd, hp4, hE, hD, hBn, hSR, hmi, ⟨kn, kt, ka, kb, kc, kd⟩, hKA, hKT, hHi, hTx⟩ := id hW
  have eN : kN Kn = aN (zA Z) := hKA.1
  refine GM.post (GM.room2 (c_X6_count_y (K := Kn) (w := 6) (B := b0 + 44) (wx_at0 hE rfl) (wx_at hE 7 rfl) (wx_at hE 8 rfl) (wx_at hE 9 rfl) (wx_at hE 10 rfl) (wx_at hE 11 rfl) (wx_at hE 12 rfl) (wx_at hE 5 rfl) (hKA) (hA) ((hKT.sh hD)) (by omega) (hS4) (hL50)) (Nat.le_of_ble_eq_true rfl) (Nat.le_of_ble_eq_true rfl) (Nat.le_of_ble_eq_true rfl) (Nat.le_of_ble_eq_true rfl)) (fun v n' σ' hp => ?_)
  obtain ⟨e1, e2, e3⟩ := hp
  exact ⟨(by rw [← e1] <;> rfl), e2, e3⟩

abbrev rm_X6_count_p10 : Room := { frames := 40, cells := 0, slots := 0, locals := 4000 }
set_option maxRecDepth 100000 in
set_option maxHeartbeats 4000000 in
theorem c_X6_count_p10 {l : Launch} {G : gG} {n : Nat} {σ : gS} {b0 : Nat} {Z : ZT}  (hZ : ZOK Z) (hW : WX G b0 n σ Z 13) : GM l G yX6_count cX6_count 2 (some .int) rm_X6_count_p10 n σ [.ref b0, .int (nI 10)] (fun rv n2 σ2 => some (.int (aTu (zA Z) 0 + aTu (zA Z) 1 + aTu (zA Z) 2)) = rv ∧ n = n2 ∧ σ = σ2) := by
  obtain ⟨hA, hHA, hS4, hL50, hX128⟩ := id hZ
  have hN5 := hA.1
  obtain ⟨ph, tau, fp, fq, fx, rs, fpl, tn, op, dg, ftx, Kn, Kt, Ka, Kb, Kc, Kd, hp4, hE, hD, hBn, hSR, hmi, ⟨kn, kt, ka, kb, kc, kd⟩, hKA, hKT, hHi, hTx⟩ := id hW
  have eN : kN Kn = aN (zA Z) := hKA.1
  refine GM.post (GM.room2 (c_X6_count_y (K := Kn) (w := 10) (B := b0 + 44) (wx_at0 hE rfl) (wx_at hE 7 rfl) (wx_at hE 8 rfl) (wx_at hE 9 rfl) (wx_at hE 10 rfl) (wx_at hE 11 rfl) (wx_at hE 12 rfl) (wx_at hE 5 rfl) (hKA) (hA) ((hKT.sh hD)) (by omega) (hS4) (hL50)) (Nat.le_of_ble_eq_true rfl) (Nat.le_of_ble_eq_true rfl) (Nat.le_of_ble_eq_true rfl) (Nat.le_of_ble_eq_true rfl)) (fun v n' σ' hp => ?_)
  obtain ⟨e1, e2, e3⟩ := hp
  exact ⟨(by rw [← e1] <;> rfl), e2, e3⟩

abbrev rm_X6_count_t : Room := { frames := 40, cells := 0, slots := 0, locals := 4000 }
set_option maxRecDepth 100000 in
set_option maxHeartbeats 4000000 in
theorem c_X6_count_t {l : Launch} {G : gG} {n : Nat} {σ : gS} {b0 : Nat} {Z : ZT} {h : Nat}  (hZ : ZOK Z) (hh : h < 3) (hW : WX G b0 n σ Z 13) : GM l G yX6_count cX6_count 2 (some .int) rm_X6_count_t n σ [.ref b0, .int (nI (4 + h))] (fun rv n2 σ2 => some (.int (aTu (zA Z) h)) = rv ∧ n = n2 ∧ σ = σ2) := by
  obtain ⟨hA, hHA, hS4, hL50, hX128⟩ := id hZ
  have hN5 := hA.1
  rcases (show h = 0 ∨ h = 1 ∨ h = 2 by omega) with rfl | rfl | rfl
  · obtain ⟨ph, tau, fp, fq, fx, rs, fpl, tn, op, dg, ftx, Kn, Kt, Ka, Kb, Kc, Kd, hp4, hE, hD, hBn, hSR, hmi, ⟨kn, kt, ka, kb, kc, kd⟩, hKA, hKT, hHi, hTx⟩ := id hW
    have eN : kN Kn = aN (zA Z) := hKA.1
    refine GM.post (GM.room2 (c_X6_count_y (K := Kn) (w := 4) (B := b0 + 44) (wx_at0 hE rfl) (wx_at hE 7 rfl) (wx_at hE 8 rfl) (wx_at hE 9 rfl) (wx_at hE 10 rfl) (wx_at hE 11 rfl) (wx_at hE 12 rfl) (wx_at hE 5 rfl) (hKA) (hA) ((hKT.sh hD)) (by omega) (hS4) (hL50)) (Nat.le_of_ble_eq_true rfl) (Nat.le_of_ble_eq_true rfl) (Nat.le_of_ble_eq_true rfl) (Nat.le_of_ble_eq_true rfl)) (fun v n' σ' hp => ?_)
    obtain ⟨e1, e2, e3⟩ := hp
    exact ⟨(by rw [← e1] <;> rfl), e2, e3⟩
  · obtain ⟨ph, tau, fp, fq, fx, rs, fpl, tn, op, dg, ftx, Kn, Kt, Ka, Kb, Kc, Kd, hp4, hE, hD, hBn, hSR, hmi, ⟨kn, kt, ka, kb, kc, kd⟩, hKA, hKT, hHi, hTx⟩ := id hW
    have eN : kN Kn = aN (zA Z) := hKA.1
    refine GM.post (GM.room2 (c_X6_count_y (K := Kn) (w := 5) (B := b0 + 44) (wx_at0 hE rfl) (wx_at hE 7 rfl) (wx_at hE 8 rfl) (wx_at hE 9 rfl) (wx_at hE 10 rfl) (wx_at hE 11 rfl) (wx_at hE 12 rfl) (wx_at hE 5 rfl) (hKA) (hA) ((hKT.sh hD)) (by omega) (hS4) (hL50)) (Nat.le_of_ble_eq_true rfl) (Nat.le_of_ble_eq_true rfl) (Nat.le_of_ble_eq_true rfl) (Nat.le_of_ble_eq_true rfl)) (fun v n' σ' hp => ?_)
    obtain ⟨e1, e2, e3⟩ := hp
    exact ⟨(by rw [← e1] <;> rfl), e2, e3⟩
  · obtain ⟨ph, tau, fp, fq, fx, rs, fpl, tn, op, dg, ftx, Kn, Kt, Ka, Kb, Kc, Kd, hp4, hE, hD, hBn, hSR, hmi, ⟨kn, kt, ka, kb, kc, kd⟩, hKA, hKT, hHi, hTx⟩ := id hW
    have eN : kN Kn = aN (zA Z) := hKA.1
    refine GM.post (GM.room2 (c_X6_count_y (K := Kn) (w := 6) (B := b0 + 44) (wx_at0 hE rfl) (wx_at hE 7 rfl) (wx_at hE 8 rfl) (wx_at hE 9 rfl) (wx_at hE 10 rfl) (wx_at hE 11 rfl) (wx_at hE 12 rfl) (wx_at hE 5 rfl) (hKA) (hA) ((hKT.sh hD)) (by omega) (hS4) (hL50)) (Nat.le_of_ble_eq_true rfl) (Nat.le_of_ble_eq_true rfl) (Nat.le_of_ble_eq_true rfl) (Nat.le_of_ble_eq_true rfl)) (fun v n' σ' hp => ?_)
    obtain ⟨e1, e2, e3⟩ := hp
    exact ⟨(by rw [← e1] <;> rfl), e2, e3⟩

abbrev rm_X6_count_w : Room := { frames := 40, cells := 0, slots := 0, locals := 4000 }
set_option maxRecDepth 100000 in
set_option maxHeartbeats 4000000 in
theorem c_X6_count_w {l : Launch} {G : gG} {n : Nat} {σ : gS} {b0 : Nat} {Z : ZT} {h : Nat}  (hZ : ZOK Z) (hh : h < 3) (hW : WX G b0 n σ Z 13) : GM l G yX6_count cX6_count 2 (some .int) rm_X6_count_w n σ [.ref b0, .int (nI (7 + h))] (fun rv n2 σ2 => some (.int (aWo (zA Z) h)) = rv ∧ n = n2 ∧ σ = σ2) := by
  obtain ⟨hA, hHA, hS4, hL50, hX128⟩ := id hZ
  have hN5 := hA.1
  rcases (show h = 0 ∨ h = 1 ∨ h = 2 by omega) with rfl | rfl | rfl
  · obtain ⟨ph, tau, fp, fq, fx, rs, fpl, tn, op, dg, ftx, Kn, Kt, Ka, Kb, Kc, Kd, hp4, hE, hD, hBn, hSR, hmi, ⟨kn, kt, ka, kb, kc, kd⟩, hKA, hKT, hHi, hTx⟩ := id hW
    have eN : kN Kn = aN (zA Z) := hKA.1
    refine GM.post (GM.room2 (c_X6_count_y (K := Kn) (w := 7) (B := b0 + 44) (wx_at0 hE rfl) (wx_at hE 7 rfl) (wx_at hE 8 rfl) (wx_at hE 9 rfl) (wx_at hE 10 rfl) (wx_at hE 11 rfl) (wx_at hE 12 rfl) (wx_at hE 5 rfl) (hKA) (hA) ((hKT.sh hD)) (by omega) (hS4) (hL50)) (Nat.le_of_ble_eq_true rfl) (Nat.le_of_ble_eq_true rfl) (Nat.le_of_ble_eq_true rfl) (Nat.le_of_ble_eq_true rfl)) (fun v n' σ' hp => ?_)
    obtain ⟨e1, e2, e3⟩ := hp
    exact ⟨(by rw [← e1] <;> rfl), e2, e3⟩
  · obtain ⟨ph, tau, fp, fq, fx, rs, fpl, tn, op, dg, ftx, Kn, Kt, Ka, Kb, Kc, Kd, hp4, hE, hD, hBn, hSR, hmi, ⟨kn, kt, ka, kb, kc, kd⟩, hKA, hKT, hHi, hTx⟩ := id hW
    have eN : kN Kn = aN (zA Z) := hKA.1
    refine GM.post (GM.room2 (c_X6_count_y (K := Kn) (w := 8) (B := b0 + 44) (wx_at0 hE rfl) (wx_at hE 7 rfl) (wx_at hE 8 rfl) (wx_at hE 9 rfl) (wx_at hE 10 rfl) (wx_at hE 11 rfl) (wx_at hE 12 rfl) (wx_at hE 5 rfl) (hKA) (hA) ((hKT.sh hD)) (by omega) (hS4) (hL50)) (Nat.le_of_ble_eq_true rfl) (Nat.le_of_ble_eq_true rfl) (Nat.le_of_ble_eq_true rfl) (Nat.le_of_ble_eq_true rfl)) (fun v n' σ' hp => ?_)
    obtain ⟨e1, e2, e3⟩ := hp
    exact ⟨(by rw [← e1] <;> rfl), e2, e3⟩
  · obtain ⟨ph, tau, fp, fq, fx, rs, fpl, tn, op, dg, ftx, Kn, Kt, Ka, Kb, Kc, Kd, hp4, hE, hD, hBn, hSR, hmi, ⟨kn, kt, ka, kb, kc, kd⟩, hKA, hKT, hHi, hTx⟩ := id hW
    have eN : kN Kn = aN (zA Z) := hKA.1
    refine GM.post (GM.room2 (c_X6_count_y (K := Kn) (w := 9) (B := b0 + 44) (wx_at0 hE rfl) (wx_at hE 7 rfl) (wx_at hE 8 rfl) (wx_at hE 9 rfl) (wx_at hE 10 rfl) (wx_at hE 11 rfl) (wx_at hE 12 rfl) (wx_at hE 5 rfl) (hKA) (hA) ((hKT.sh hD)) (by omega) (hS4) (hL50)) (Nat.le_of_ble_eq_true rfl) (Nat.le_of_ble_eq_true rfl) (Nat.le_of_ble_eq_true rfl) (Nat.le_of_ble_eq_true rfl)) (fun v n' σ' hp => ?_)
    obtain ⟨e1, e2, e3⟩ := hp
    exact ⟨(by rw [← e1] <;> rfl), e2, e3⟩

abbrev rm_X6_cakeAt_p : Room := { frames := 40, cells := 0, slots := 0, locals := 4000 }
set_option maxRecDepth 100000 in
set_option maxHeartbeats 4000000 in
theorem c_X6_cakeAt_p {l : Launch} {G : gG} {n : Nat} {σ : gS} {b0 : Nat} {Z : ZT} {k q : Nat}  (hZ : ZOK Z) (hk : k < aN (zA Z)) (hq : q < aCk (zA Z) k) (hW : WX G b0 n σ Z 13) : GM l G yX6_cakeAt cX6_cakeAt 6 (some .int) rm_X6_cakeAt_p n σ [.ref b0, .int (nI k), .int (nI q)] (fun rv n2 σ2 => some (.int ((nI (sz (aCk (zA Z) k) (aO (zA Z) k) q)) - (nI (10 * (bt (aSd (zA Z) k) q))))) = rv ∧ n = n2 ∧ σ = σ2) := by
  obtain ⟨hA, hHA, hS4, hL50, hX128⟩ := id hZ
  have hN5 := hA.1
  have hvk := hA.2.2 k hk
  have hN6 := hvk.1.N
  have hN1 := hvk.1.2.1
  have hsd := hvk.2.2
  obtain ⟨ph, tau, fp, fq, fx, rs, fpl, tn, op, dg, ftx, Kn, Kt, Ka, Kb, Kc, Kd, hp4, hE, hD, hBn, hSR, hmi, ⟨kn, kt, ka, kb, kc, kd⟩, hKA, hKT, hHi, hTx⟩ := id hW
  have eN : kN Kn = aN (zA Z) := hKA.1
  obtain ⟨sa, la0, hs, hsa⟩ := hKT k hk
  obtain ⟨hso, hBs, la, cfl, sv, f1, f2, f3, f4, f5, hBl, z0, z1, z2, z3, z4, z5, z6, g1, g2, g3, g4, g5⟩ := hD.shp hsa
  refine GM.post (GM.room2 (c_X6_cakeAt_y (cfl := 0) (k := k) (K := Kn) (q := q) (r := (rk (sid (aKd (zA Z) k)) (aCk (zA Z) k) (aO (zA Z) k) (aSd (zA Z) k))) (wx_at0 hE rfl) (wx_at hE 7 rfl) (wx_at hE 10 rfl) (wx_at hE 11 rfl) (wx_at hE 12 rfl) z0 z1 z2 z3 z4 z5 z6 ((by omega)) ((by omega)) (hs) (hso) (g1) (g2) (g3) (g4) (g5) ((hKA.2.2.2.2 k hk).1) ((rk_at hA hk rfl rfl)) (hq)) (Nat.le_of_ble_eq_true rfl) (Nat.le_of_ble_eq_true rfl) (Nat.le_of_ble_eq_true rfl) (Nat.le_of_ble_eq_true rfl)) (fun v n' σ' hp => ?_)
  obtain ⟨e1, e2, e3⟩ := hp
  exact ⟨(by rw [← e1, oR_rk hsd, sR_rk hsd] <;> rfl), e2, e3⟩

abbrev rm_X6_gapsBehind_p : Room := { frames := 40, cells := 0, slots := 0, locals := 4000 }
set_option maxRecDepth 100000 in
set_option maxHeartbeats 4000000 in
theorem c_X6_gapsBehind_p {l : Launch} {G : gG} {n : Nat} {σ : gS} {b0 : Nat} {Z : ZT} {k w : Nat}  (hZ : ZOK Z) (hk : k < aN (zA Z)) (hw1 : 1 ≤ w ∧ w ≤ aCk (zA Z) k) (hW : WX G b0 n σ Z 13) : GM l G yX6_gapsBehind cX6_gapsBehind 4 (some .int) rm_X6_gapsBehind_p n σ [.ref b0, .int (nI k), .int (nI w)] (fun rv n2 σ2 => some (.int (nI (gbA (zA Z) k w))) = rv ∧ n = n2 ∧ σ = σ2) := by
  obtain ⟨hA, hHA, hS4, hL50, hX128⟩ := id hZ
  have hN5 := hA.1
  have hvk := hA.2.2 k hk
  have hN6 := hvk.1.N
  have hN1 := hvk.1.2.1
  have hsd := hvk.2.2
  obtain ⟨ph, tau, fp, fq, fx, rs, fpl, tn, op, dg, ftx, Kn, Kt, Ka, Kb, Kc, Kd, hp4, hE, hD, hBn, hSR, hmi, ⟨kn, kt, ka, kb, kc, kd⟩, hKA, hKT, hHi, hTx⟩ := id hW
  have eN : kN Kn = aN (zA Z) := hKA.1
  obtain ⟨sa, la0, hs, hsa⟩ := hKT k hk
  obtain ⟨hso, hBs, la, cfl, sv, f1, f2, f3, f4, f5, hBl, z0, z1, z2, z3, z4, z5, z6, g1, g2, g3, g4, g5⟩ := hD.shp hsa
  refine GM.post (GM.room2 (c_X6_gapsBehind_y (cfl := 0) (k := k) (K := Kn) (w := w) (r := (rk (sid (aKd (zA Z) k)) (aCk (zA Z) k) (aO (zA Z) k) (aSd (zA Z) k))) (wx_at0 hE rfl) (wx_at hE 7 rfl) (wx_at hE 10 rfl) (wx_at hE 11 rfl) (wx_at hE 12 rfl) z0 z1 z2 z3 z4 z5 z6 ((by omega)) ((by omega)) (hs) (hso) (g1) (g2) (g3) (g4) (g5) ((hKA.2.2.2.2 k hk).1) ((rk_at hA hk rfl rfl)) (hw1)) (Nat.le_of_ble_eq_true rfl) (Nat.le_of_ble_eq_true rfl) (Nat.le_of_ble_eq_true rfl) (Nat.le_of_ble_eq_true rfl)) (fun v n' σ' hp => ?_)
  obtain ⟨e1, e2, e3⟩ := hp
  exact ⟨(by rw [← e1, oR_rk hsd, sR_rk hsd] <;> rfl), e2, e3⟩

abbrev rm_X6_ranked_pf : Room := { frames := 40, cells := 0, slots := 0, locals := 4000 }
set_option maxRecDepth 100000 in
set_option maxHeartbeats 4000000 in
theorem c_X6_ranked_pf {l : Launch} {G : gG} {n : Nat} {σ : gS} {b0 : Nat} {Z : ZT} {k r w : Nat}  (hZ : ZOK Z) (hk : k < aN (zA Z)) (hr31 : r < 2 ^ 31) (hrr : rR (sid (aKd (zA Z) k)) (aCk (zA Z) k) ≤ r) (hw : w ≤ 1) (hW : WX G b0 n σ Z 13) : GM l G yX6_ranked cX6_ranked 5 (some .int) rm_X6_ranked_pf n σ [.ref b0, .int (nI k), .int (nI r), .int (nI w)] (fun rv n2 σ2 => some (.int (-1000004)) = rv ∧ n = n2 ∧ σ = σ2) := by
  obtain ⟨hA, hHA, hS4, hL50, hX128⟩ := id hZ
  have hN5 := hA.1
  have hvk := hA.2.2 k hk
  have hN6 := hvk.1.N
  have hN1 := hvk.1.2.1
  have hsd := hvk.2.2
  obtain ⟨ph, tau, fp, fq, fx, rs, fpl, tn, op, dg, ftx, Kn, Kt, Ka, Kb, Kc, Kd, hp4, hE, hD, hBn, hSR, hmi, ⟨kn, kt, ka, kb, kc, kd⟩, hKA, hKT, hHi, hTx⟩ := id hW
  have eN : kN Kn = aN (zA Z) := hKA.1
  obtain ⟨sa, la0, hs, hsa⟩ := hKT k hk
  obtain ⟨hso, hBs, la, cfl, sv, f1, f2, f3, f4, f5, hBl, z0, z1, z2, z3, z4, z5, z6, g1, g2, g3, g4, g5⟩ := hD.shp hsa
  refine GM.post (GM.room2 (c_X6_ranked_f (cfl := 0) (k := k) (K := Kn) (r := r) (w := w) (wx_at0 hE rfl) (wx_at hE 7 rfl) (wx_at hE 10 rfl) (wx_at hE 11 rfl) (wx_at hE 12 rfl) z0 z1 z2 z3 z4 z5 z6 ((by omega)) ((by omega)) (hs) (hso) (g1) (g2) (g3) (g4) (g5) (hr31) (hrr) (hw)) (Nat.le_of_ble_eq_true rfl) (Nat.le_of_ble_eq_true rfl) (Nat.le_of_ble_eq_true rfl) (Nat.le_of_ble_eq_true rfl)) (fun v n' σ' hp => ?_)
  obtain ⟨e1, e2, e3⟩ := hp
  exact ⟨(by rw [← e1] <;> rfl), e2, e3⟩

abbrev rm_X6_ranked_p0 : Room := { frames := 40, cells := 0, slots := 0, locals := 4000 }
set_option maxRecDepth 100000 in
set_option maxHeartbeats 4000000 in
theorem c_X6_ranked_p0 {l : Launch} {G : gG} {n : Nat} {σ : gS} {b0 : Nat} {Z : ZT} {k r : Nat}  (hZ : ZOK Z) (hk : k < aN (zA Z)) (hrk : r < rR (sid (aKd (zA Z) k)) (aCk (zA Z) k)) (hW : WX G b0 n σ Z 13) : GM l G yX6_ranked cX6_ranked 5 (some .int) rm_X6_ranked_p0 n σ [.ref b0, .int (nI k), .int (nI r), .int (nI 0)] (fun rv n2 σ2 => some (.int (nI (cd (aCk (zA Z) k) (oR (sid (aKd (zA Z) k)) (aCk (zA Z) k) r)))) = rv ∧ n = n2 ∧ σ = σ2) := by
  obtain ⟨hA, hHA, hS4, hL50, hX128⟩ := id hZ
  have hN5 := hA.1
  have hvk := hA.2.2 k hk
  have hN6 := hvk.1.N
  have hN1 := hvk.1.2.1
  have hsd := hvk.2.2
  obtain ⟨ph, tau, fp, fq, fx, rs, fpl, tn, op, dg, ftx, Kn, Kt, Ka, Kb, Kc, Kd, hp4, hE, hD, hBn, hSR, hmi, ⟨kn, kt, ka, kb, kc, kd⟩, hKA, hKT, hHi, hTx⟩ := id hW
  have eN : kN Kn = aN (zA Z) := hKA.1
  obtain ⟨sa, la0, hs, hsa⟩ := hKT k hk
  obtain ⟨hso, hBs, la, cfl, sv, f1, f2, f3, f4, f5, hBl, z0, z1, z2, z3, z4, z5, z6, g1, g2, g3, g4, g5⟩ := hD.shp hsa
  refine GM.post (GM.room2 (c_X6_ranked_y (cfl := 0) (k := k) (K := Kn) (r := r) (w := 0) (wx_at0 hE rfl) (wx_at hE 7 rfl) (wx_at hE 10 rfl) (wx_at hE 11 rfl) (wx_at hE 12 rfl) z0 z1 z2 z3 z4 z5 z6 ((by omega)) ((by omega)) (hs) (hso) (g1) (g2) (g3) (g4) (g5) (hrk) (by decide)) (Nat.le_of_ble_eq_true rfl) (Nat.le_of_ble_eq_true rfl) (Nat.le_of_ble_eq_true rfl) (Nat.le_of_ble_eq_true rfl)) (fun v n' σ' hp => ?_)
  obtain ⟨e1, e2, e3⟩ := hp
  exact ⟨(by rw [← e1] <;> rfl), e2, e3⟩

abbrev rm_X6_ranked_p1 : Room := { frames := 40, cells := 0, slots := 0, locals := 4000 }
set_option maxRecDepth 100000 in
set_option maxHeartbeats 4000000 in
theorem c_X6_ranked_p1 {l : Launch} {G : gG} {n : Nat} {σ : gS} {b0 : Nat} {Z : ZT} {k r : Nat}  (hZ : ZOK Z) (hk : k < aN (zA Z)) (hrk : r < rR (sid (aKd (zA Z) k)) (aCk (zA Z) k)) (hW : WX G b0 n σ Z 13) : GM l G yX6_ranked cX6_ranked 5 (some .int) rm_X6_ranked_p1 n σ [.ref b0, .int (nI k), .int (nI r), .int (nI 1)] (fun rv n2 σ2 => some (.int (nI (sR (sid (aKd (zA Z) k)) (aCk (zA Z) k) r))) = rv ∧ n = n2 ∧ σ = σ2) := by
  obtain ⟨hA, hHA, hS4, hL50, hX128⟩ := id hZ
  have hN5 := hA.1
  have hvk := hA.2.2 k hk
  have hN6 := hvk.1.N
  have hN1 := hvk.1.2.1
  have hsd := hvk.2.2
  obtain ⟨ph, tau, fp, fq, fx, rs, fpl, tn, op, dg, ftx, Kn, Kt, Ka, Kb, Kc, Kd, hp4, hE, hD, hBn, hSR, hmi, ⟨kn, kt, ka, kb, kc, kd⟩, hKA, hKT, hHi, hTx⟩ := id hW
  have eN : kN Kn = aN (zA Z) := hKA.1
  obtain ⟨sa, la0, hs, hsa⟩ := hKT k hk
  obtain ⟨hso, hBs, la, cfl, sv, f1, f2, f3, f4, f5, hBl, z0, z1, z2, z3, z4, z5, z6, g1, g2, g3, g4, g5⟩ := hD.shp hsa
  refine GM.post (GM.room2 (c_X6_ranked_y (cfl := 0) (k := k) (K := Kn) (r := r) (w := 1) (wx_at0 hE rfl) (wx_at hE 7 rfl) (wx_at hE 10 rfl) (wx_at hE 11 rfl) (wx_at hE 12 rfl) z0 z1 z2 z3 z4 z5 z6 ((by omega)) ((by omega)) (hs) (hso) (g1) (g2) (g3) (g4) (g5) (hrk) (by decide)) (Nat.le_of_ble_eq_true rfl) (Nat.le_of_ble_eq_true rfl) (Nat.le_of_ble_eq_true rfl) (Nat.le_of_ble_eq_true rfl)) (fun v n' σ' hp => ?_)
  obtain ⟨e1, e2, e3⟩ := hp
  exact ⟨(by rw [← e1] <;> rfl), e2, e3⟩

abbrev rm_X6_turn_py : Room := { frames := 40, cells := 0, slots := 0, locals := 4000 }
set_option maxRecDepth 100000 in
set_option maxHeartbeats 4000000 in
theorem c_X6_turn_py {l : Launch} {G : gG} {n : Nat} {σ : gS} {b0 : Nat} {Z : ZT} {k w : Nat}  (hZ : ZOK Z) (hk : k < aN (zA Z)) (hw1 : 1 ≤ w ∧ w ≤ aCk (zA Z) k) (hok : okA (zA Z) k w = true) (hW : WX G b0 n σ Z 13) : GM l G yX6_turn cX6_turn 4 (some .int) rm_X6_turn_py n σ [.ref b0, .int (nI k), .int (nI w)] (fun rv n2 σ2 => ∃ (n9 : Nat) (σ9 : gS), some (.int (nI (gbA (zA Z) k w))) = rv ∧ n9 = n2 ∧ σ9 = σ2 ∧ (WX G b0 n9 σ9 (zP Z (tnA (zA Z) k w)) 13)) := by
  obtain ⟨hA, hHA, hS4, hL50, hX128⟩ := id hZ
  have hN5 := hA.1
  have hvk := hA.2.2 k hk
  have hN6 := hvk.1.N
  have hN1 := hvk.1.2.1
  have hsd := hvk.2.2
  obtain ⟨ph, tau, fp, fq, fx, rs, fpl, tn, op, dg, ftx, Kn, Kt, Ka, Kb, Kc, Kd, hp4, hE, hD, hBn, hSR, hmi, ⟨kn, kt, ka, kb, kc, kd⟩, hKA, hKT, hHi, hTx⟩ := id hW
  have eN : kN Kn = aN (zA Z) := hKA.1
  obtain ⟨sa, la0, hs, hsa⟩ := hKT k hk
  obtain ⟨hso, hBs, la, cfl, sv, f1, f2, f3, f4, f5, hBl, z0, z1, z2, z3, z4, z5, z6, g1, g2, g3, g4, g5⟩ := hD.shp hsa
  refine GM.post (GM.room2 (GM.heap hE (c_X6_turn_y (cfl := 0) (k := k) (w := w) (r := (rk (sid (aKd (zA Z) k)) (aCk (zA Z) k) (aO (zA Z) k) (aSd (zA Z) k))) z0 z1 z2 z3 z4 z5 z6 (hS4) (by omega) ((kn.qk hD)) ((kt.qk hD)) ((ka.qk hD)) ((kb.qk hD)) ((kc.qk hD)) ((kd.qk hD)) ((by omega)) (hBs) (hBl) ((by omega)) ((by omega)) ((by rw [hKA.2.1]; exact hA.2.1)) (hs) (hso) (g1) (g2) (g3) (g4) (g5) ((hKA.2.2.2.2 k hk).1) ((rk_at hA hk rfl rfl)) (hw1) (((okA_R hA hk rfl rfl rfl).symm.trans hok)))) (Nat.le_of_ble_eq_true rfl) (Nat.le_of_ble_eq_true rfl) (Nat.le_of_ble_eq_true rfl) (Nat.le_of_ble_eq_true rfl)) (fun v n' σ' hp => ?_)
  obtain ⟨e1, e2, ph2, s2, Ka2, Kb2, Kc2, Kd2, e3, ha0, ha1, ha2, ha3, ha4⟩ := hp
  have hx : PX G b0 n σ 13 (zP Z (tnA (zA Z) k w)) (nI (gbA (zA Z) k w)) v n' σ' := px_keep (by rw [← e1] <;> (rw [oR_rk hsd, sR_rk hsd]; rfl)) (by omega) e3 (fun _ _ _ => rfl) (hD.fr (by omega) (fun _ _ _ => rfl)) (by omega) hSR hmi ⟨kn, ka, kb, kc, kd⟩ hKA hKT hHi hTx ha2 ha3 ha4 (kn : KSh tau (kTn Kn k (nx (sid (aKd (zA Z) k)) (aCk (zA Z) k) (rk (sid (aKd (zA Z) k)) (aCk (zA Z) k) (aO (zA Z) k) (aSd (zA Z) k)) w) w)) (kn : KSh tau (kTn Kn k (nx (sid (aKd (zA Z) k)) (aCk (zA Z) k) (rk (sid (aKd (zA Z) k)) (aCk (zA Z) k) (aO (zA Z) k) (aSd (zA Z) k)) w) w)) (KA_tn hKA hA hk hok rfl rfl) (hKT.cg rfl rfl rfl)
  exact ⟨n', σ', hx.1.symm, rfl, rfl, hx.2.2.1⟩

abbrev rm_X6_turn_pn : Room := { frames := 40, cells := 0, slots := 0, locals := 4000 }
set_option maxRecDepth 100000 in
set_option maxHeartbeats 4000000 in
theorem c_X6_turn_pn {l : Launch} {G : gG} {n : Nat} {σ : gS} {b0 : Nat} {Z : ZT} {k w : Nat}  (hZ : ZOK Z) (hk : k < aN (zA Z)) (hw1 : 1 ≤ w ∧ w ≤ aCk (zA Z) k) (hok : okA (zA Z) k w = false) (hW : WX G b0 n σ Z 13) : GM l G yX6_turn cX6_turn 4 (some .int) rm_X6_turn_pn n σ [.ref b0, .int (nI k), .int (nI w)] (fun rv n2 σ2 => ∃ (n9 : Nat) (σ9 : gS), some (.int (-1000002)) = rv ∧ n9 = n2 ∧ σ9 = σ2 ∧ (WX G b0 n9 σ9 Z 13)) := by
  obtain ⟨hA, hHA, hS4, hL50, hX128⟩ := id hZ
  have hN5 := hA.1
  have hvk := hA.2.2 k hk
  have hN6 := hvk.1.N
  have hN1 := hvk.1.2.1
  have hsd := hvk.2.2
  obtain ⟨ph, tau, fp, fq, fx, rs, fpl, tn, op, dg, ftx, Kn, Kt, Ka, Kb, Kc, Kd, hp4, hE, hD, hBn, hSR, hmi, ⟨kn, kt, ka, kb, kc, kd⟩, hKA, hKT, hHi, hTx⟩ := id hW
  have eN : kN Kn = aN (zA Z) := hKA.1
  obtain ⟨sa, la0, hs, hsa⟩ := hKT k hk
  obtain ⟨hso, hBs, la, cfl, sv, f1, f2, f3, f4, f5, hBl, z0, z1, z2, z3, z4, z5, z6, g1, g2, g3, g4, g5⟩ := hD.shp hsa
  refine GM.post (GM.room2 (GM.heap hE (c_X6_turn_n (cfl := 0) (k := k) (w := w) (r := (rk (sid (aKd (zA Z) k)) (aCk (zA Z) k) (aO (zA Z) k) (aSd (zA Z) k))) z0 z1 z2 z3 z4 z5 z6 (hS4) (by omega) ((kn.qk hD)) ((kt.qk hD)) ((ka.qk hD)) ((kb.qk hD)) ((kc.qk hD)) ((kd.qk hD)) ((by omega)) (hBs) (hBl) ((by omega)) ((by omega)) ((by rw [hKA.2.1]; exact hA.2.1)) (hs) (hso) (g1) (g2) (g3) (g4) (g5) ((hKA.2.2.2.2 k hk).1) ((rk_at hA hk rfl rfl)) (hw1) (((okA_R hA hk rfl rfl rfl).symm.trans hok)))) (Nat.le_of_ble_eq_true rfl) (Nat.le_of_ble_eq_true rfl) (Nat.le_of_ble_eq_true rfl) (Nat.le_of_ble_eq_true rfl)) (fun v n' σ' hp => ?_)
  obtain ⟨e1, e2, e3⟩ := hp
  have hx : PX G b0 n σ 13 Z (-1000002) v n' σ' := px_mk (by rw [← e1] <;> rfl) (by omega) e3 rfl rfl (fun _ _ _ => rfl) (hD.fr (by omega) (fun _ _ _ => rfl)) (by omega) hSR hmi ⟨kn, kn, ka, kb, kc, kd⟩ hKA hKT hHi hTx
  exact ⟨n', σ', hx.1.symm, rfl, rfl, hx.2.2.1⟩

abbrev rm_X6_lay_p : Room := { frames := 40, cells := 0, slots := 0, locals := 4000 }
set_option maxRecDepth 100000 in
set_option maxHeartbeats 4000000 in
theorem c_X6_lay_p {l : Launch} {G : gG} {n : Nat} {σ : gS} {b0 : Nat} {Z : ZT} {k o2 sd2 : Nat}  (hZ : ZOK Z) (hk : k < aN (zA Z)) (ho2 : o2 < fac (aCk (zA Z) k)) (hs2 : sd2 < sm (sid (aKd (zA Z) k)) (aCk (zA Z) k)) (hW : WX G b0 n σ Z 13) : GM l G yX6_lay cX6_lay 6 (some .int) rm_X6_lay_p n σ [.ref b0, .int (nI k), .int (nI (cd (aCk (zA Z) k) o2)), .int (nI sd2)] (fun rv n2 σ2 => ∃ (n9 : Nat) (σ9 : gS), some (.int (nI (gp (sid (aKd (zA Z) k)) (aCk (zA Z) k) o2 sd2))) = rv ∧ n9 = n2 ∧ σ9 = σ2 ∧ (WX G b0 n9 σ9 (zP Z (layA (zA Z) k o2 sd2)) 13)) := by
  obtain ⟨hA, hHA, hS4, hL50, hX128⟩ := id hZ
  have hN5 := hA.1
  have hvk := hA.2.2 k hk
  have hN6 := hvk.1.N
  have hN1 := hvk.1.2.1
  have hsd := hvk.2.2
  obtain ⟨ph, tau, fp, fq, fx, rs, fpl, tn, op, dg, ftx, Kn, Kt, Ka, Kb, Kc, Kd, hp4, hE, hD, hBn, hSR, hmi, ⟨kn, kt, ka, kb, kc, kd⟩, hKA, hKT, hHi, hTx⟩ := id hW
  have eN : kN Kn = aN (zA Z) := hKA.1
  obtain ⟨sa, la0, hs, hsa⟩ := hKT k hk
  obtain ⟨hso, hBs, la, cfl, sv, f1, f2, f3, f4, f5, hBl, z0, z1, z2, z3, z4, z5, z6, g1, g2, g3, g4, g5⟩ := hD.shp hsa
  refine GM.post (GM.room2 (GM.heap hE (c_X6_lay_y (cfl := 0) (k := k) (o2 := o2) (sd2 := sd2) (r := (rk (sid (aKd (zA Z) k)) (aCk (zA Z) k) (aO (zA Z) k) (aSd (zA Z) k))) z0 z1 z2 z3 z4 z5 z6 (hS4) (by omega) ((kn.qk hD)) ((kt.qk hD)) ((ka.qk hD)) ((kb.qk hD)) ((kc.qk hD)) ((kd.qk hD)) ((by omega)) (hBs) (hBl) ((by omega)) ((by omega)) ((by rw [hKA.2.1]; exact hA.2.1)) (hs) (hso) (g1) (g2) (g3) (g4) (g5) ((hKA.2.2.2.2 k hk).1) ((rk_at hA hk rfl rfl)) (ho2) (hs2))) (Nat.le_of_ble_eq_true rfl) (Nat.le_of_ble_eq_true rfl) (Nat.le_of_ble_eq_true rfl) (Nat.le_of_ble_eq_true rfl)) (fun v n' σ' hp => ?_)
  obtain ⟨e1, e2, ph2, s2, Ka2, Kb2, Kc2, Kd2, e3, ha0, ha1, ha2, ha3, ha4⟩ := hp
  have hx : PX G b0 n σ 13 (zP Z (layA (zA Z) k o2 sd2)) (nI (gp (sid (aKd (zA Z) k)) (aCk (zA Z) k) o2 sd2)) v n' σ' := px_keep (by rw [← e1] <;> rfl) (by omega) e3 (fun _ _ _ => rfl) (hD.fr (by omega) (fun _ _ _ => rfl)) (by omega) hSR hmi ⟨kn, ka, kb, kc, kd⟩ hKA hKT hHi hTx ha2 ha3 ha4 (kn : KSh tau (kLay Kn k (rk (sid (aKd (zA Z) k)) (aCk (zA Z) k) o2 sd2))) (kn : KSh tau (kLay Kn k (rk (sid (aKd (zA Z) k)) (aCk (zA Z) k) o2 sd2))) (layA_K hKA) (hKT.cg rfl rfl rfl)
  exact ⟨n', σ', hx.1.symm, rfl, rfl, hx.2.2.1⟩

abbrev rm_X6_doRow_py : Room := { frames := 40, cells := 0, slots := 0, locals := 4000 }
set_option maxRecDepth 100000 in
set_option maxHeartbeats 4000000 in
theorem c_X6_doRow_py {l : Launch} {G : gG} {n : Nat} {σ : gS} {b0 : Nat} {Z : ZT} {k row D : Nat} {a2 : AK}  (hZ : ZOK Z) (hk : k < aN (zA Z)) (hrow : 1 ≤ row ∧ row ≤ 99999999) (hDD : 1 ≤ D ∧ D ≤ 8 ∧ 10 ^ (D - 1) ≤ row ∧ row < 10 ^ D) (htot : rwA k row D (zA Z) = some a2) (hW : WX G b0 n σ Z 13) : GM l G yX6_doRow cX6_doRow 4 (some .int) rm_X6_doRow_py n σ [.ref b0, .int (nI k), .int (nI row)] (fun rv n2 σ2 => ∃ (n9 : Nat) (σ9 : gS), some (.int (nI (gpA a2 k))) = rv ∧ n9 = n2 ∧ σ9 = σ2 ∧ (WX G b0 n9 σ9 (zP Z a2) 13)) := by
  obtain ⟨hA, hHA, hS4, hL50, hX128⟩ := id hZ
  have hN5 := hA.1
  have hvk := hA.2.2 k hk
  have hN6 := hvk.1.N
  have hN1 := hvk.1.2.1
  have hsd := hvk.2.2
  have hA2 := rwA_ok hA hk htot
  obtain ⟨ph, tau, fp, fq, fx, rs, fpl, tn, op, dg, ftx, Kn, Kt, Ka, Kb, Kc, Kd, hp4, hE, hD, hBn, hSR, hmi, ⟨kn, kt, ka, kb, kc, kd⟩, hKA, hKT, hHi, hTx⟩ := id hW
  have eN : kN Kn = aN (zA Z) := hKA.1
  obtain ⟨sa, la0, hs, hsa⟩ := hKT k hk
  obtain ⟨hso, hBs, la, cfl, sv, f1, f2, f3, f4, f5, hBl, z0, z1, z2, z3, z4, z5, z6, g1, g2, g3, g4, g5⟩ := hD.shp hsa
  refine GM.post (GM.room2 (GM.heap hE (c_X6_doRow_y (cfl := 0) (k := k) (row := row) (D := D) (r := (rk (sid (aKd (zA Z) k)) (aCk (zA Z) k) (aO (zA Z) k) (aSd (zA Z) k))) (a2 := a2) z0 z1 z2 z3 z4 z5 z6 (hS4) (by omega) ((kn.qk hD)) ((kt.qk hD)) ((ka.qk hD)) ((kb.qk hD)) ((kc.qk hD)) ((kd.qk hD)) ((by omega)) (hBs) (hBl) ((by omega)) ((by omega)) ((by rw [hKA.2.1]; exact hA.2.1)) (hs) (hso) (g1) (g2) (g3) (g4) (g5) ((hKA.2.2.2.2 k hk).1) ((rk_at hA hk rfl rfl)) (hKA) (hA) (hk) (rfl) (rfl) (rfl) (hrow) (hDD) (htot))) (Nat.le_of_ble_eq_true rfl) (Nat.le_of_ble_eq_true rfl) (Nat.le_of_ble_eq_true rfl) (Nat.le_of_ble_eq_true rfl)) (fun v n' σ' hp => ?_)
  obtain ⟨e1, e2, ph2, s2, Ka2, Kb2, Kc2, Kd2, Kn2, e3, ha0, ha1, ha2, ha3, ha4, hS9_, hKA9_⟩ := hp
  have hsm := rwA_sh htot
  have hx : PX G b0 n σ 13 (zP Z a2) (nI (gpA a2 k)) v n' σ' := px_keep (by rw [← e1] <;> rfl) (by omega) e3 (fun _ _ _ => rfl) (hD.fr (by omega) (fun _ _ _ => rfl)) (by omega) hSR hmi ⟨kn, ka, kb, kc, kd⟩ hKA hKT hHi hTx ha2 ha3 ha4 (fun i v hv => kn i v (by rw [← hS9_]; exact hv)) (fun i v hv => kn i v (by rw [← hS9_]; exact hv)) hKA9_.1 (hKT.cg hS9_ hsm.1 hsm.2)
  exact ⟨n', σ', hx.1.symm, rfl, rfl, hx.2.2.1⟩

abbrev rm_X6_undo_p : Room := { frames := 40, cells := 0, slots := 0, locals := 4000 }
set_option maxRecDepth 100000 in
set_option maxHeartbeats 4000000 in
theorem c_X6_undo_p {l : Launch} {G : gG} {n : Nat} {σ : gS} {b0 : Nat} {Z : ZT}  (hZ : ZOK Z) (hs1 : 1 ≤ zS Z) (hW : WX G b0 n σ Z 13) : GM l G yX6_undo cX6_undo 2 (some .int) rm_X6_undo_p n σ [.ref b0] (fun rv n2 σ2 => ∃ (n9 : Nat) (σ9 : gS), some (.int (nI (zS Z - 1))) = rv ∧ n9 = n2 ∧ σ9 = σ2 ∧ (WX G b0 n9 σ9 (zH Z (zS Z - 1), zH Z, zS Z - 1, zX Z, zL Z) 13)) := by
  obtain ⟨hA, hHA, hS4, hL50, hX128⟩ := id hZ
  have hN5 := hA.1
  obtain ⟨ph, tau, fp, fq, fx, rs, fpl, tn, op, dg, ftx, Kn, Kt, Ka, Kb, Kc, Kd, hp4, hE, hD, hBn, hSR, hmi, ⟨kn, kt, ka, kb, kc, kd⟩, hKA, hKT, hHi, hTx⟩ := id hW
  have eN : kN Kn = aN (zA Z) := hKA.1
  refine GM.post (GM.room2 (GM.heap hE (c_X6_undo_u   ((by omega)) (by omega) ((kn.qk hD)) ((kt.qk hD)) ((ka.qk hD)) ((kb.qk hD)) ((kc.qk hD)) ((kd.qk hD)) ((by omega)))) (Nat.le_of_ble_eq_true rfl) (Nat.le_of_ble_eq_true rfl) (Nat.le_of_ble_eq_true rfl) (Nat.le_of_ble_eq_true rfl)) (fun v n' σ' hp => ?_)
  obtain ⟨e1, e2, e3⟩ := hp
  have hx : PX G b0 n σ 13 (zH Z (zS Z - 1), zH Z, zS Z - 1, zX Z, zL Z) (nI (zS Z - 1)) v n' σ' := px_mk (by rw [← e1] <;> rfl) (by omega) e3 rfl rfl (fun _ _ _ => rfl) (hD.fr (by omega) (fun _ _ _ => rfl)) (by omega) hSR hmi ⟨KSh_4 ka kb kc kd _, kt, ka, kb, kc, kd⟩ (hHi _ (by omega)).1 (hHi _ (by omega)).2 (fun i hi => hHi i (by omega)) hTx
  exact ⟨n', σ', hx.1.symm, rfl, rfl, hx.2.2.1⟩
