theorem sh_sr {kd sr : Nat} (h0 : (if kd = 3 then 1 else 0) ≤ sr) (h1 : sr ≤ (if kd = 3 then 21 else 0)) : if kd = 3 then 1 ≤ sr ∧ sr ≤ 21 else sr = 0 := by
  by_cases g : kd = 3
  · rw [if_pos g] at h0 h1 ⊢; exact ⟨h0, h1⟩
  · rw [if_neg g] at h0 h1 ⊢; omega
theorem mis_1 {kd N sr : Nat} {fp fq : Nat → Option Nat} (hs : shOK kd N sr) (h : (if sid kd = true then fq else fp) N = none) : 1 ≤ mis fp fq := by
  have hN := hs.2.2.1
  have h6 := hs.N
  cases hb : sid kd with
  | true =>
    rw [hb] at h hN
    have hN : N ≤ 5 := hN
    have := mis_q (fp := fp) (x := 0) (show N < 6 by omega) (show fq N = none from h)
    omega
  | false =>
    rw [hb] at h
    have := mis_p (fq := fq) (x := 0) (show N < 7 by omega) (show fp N = none from h)
    omega
set_option maxRecDepth 100000 in
set_option maxHeartbeats 4000000 in
theorem op_stack {l : Launch} {G : gG} {b0 : Nat} {Z : ZT} (hZ : ZOK Z) (x y z : Int32) : ∃ (ans : Int32) (Z2 : ZT), ZOK Z2 ∧ (∀ n σ mi, WX G b0 n σ Z mi → (GM l G yX6_stack cX6_stack 6 (some .int) rmC n σ [.ref b0, .int x, .int y, .int z] (PX G b0 n σ mi Z2 ans)) ∨ (1 ≤ mi ∧ GM l G yX6_stack cX6_stack 6 (some .int) rmS n σ [.ref b0, .int x, .int y, .int z] (PX G b0 n σ (mi - 1) Z2 ans))) ∧ (∀ n σ, WM G b0 σ Z → GM l G yX7_stack cX7_stack 6 (some .int) rmM n σ [.ref (b0 + 44), .int x, .int y, .int z] (PM G b0 n σ Z2 ans)) := by
  obtain ⟨hA, hHA, hS4, hL50, hX128⟩ := id hZ
  have hN5 := hA.1
  cases hx : decide (nI 0 ≤ x ∧ x ≤ nI 3) with
  | false =>
    refine ⟨(-1000001), Z, hZ, fun n σ mi hW => Or.inl ?_, fun n σ hM => ?_⟩
    · obtain ⟨ph, tau, fp, fq, fx, rs, fpl, tn, op, dg, ftx, Kn, Kt, Ka, Kb, Kc, Kd, hp4, hE, hD, hBn, hSR, hmi, ⟨kn, kt, ka, kb, kc, kd⟩, hKA, hKT, hHi, hTx⟩ := id hW
      have eN : kN Kn = aN (zA Z) := hKA.1
      refine GM.post (GM.room2 (c_X6_stack_x  (wx_at0 hE rfl) (wx_at hE 1 rfl) (hx)) (Nat.le_of_ble_eq_true rfl) (Nat.le_of_ble_eq_true rfl) (Nat.le_of_ble_eq_true rfl) (Nat.le_of_ble_eq_true rfl)) (fun v n' σ' hp => ?_)
      obtain ⟨e1, e2, e3⟩ := hp
      exact px_read hW (by rw [← e1] <;> rfl) e2 e3
    · obtain ⟨xat, xreason, xdone, xkind, xn, xstrength, fs, fwas, fbegun, faside, ftext, fsize, fburnt, fnext, ffar, fthen, fqueue, frankAt, fturnAt, hE, hMR, hMW, hMT⟩ := id hM
      refine GM.post (GM.room2 (GM.heap hE (c_X7_stack_x   (hx))) (Nat.le_of_ble_eq_true rfl) (Nat.le_of_ble_eq_true rfl) (Nat.le_of_ble_eq_true rfl) (Nat.le_of_ble_eq_true rfl)) (fun v n' σ' hp => ?_)
      obtain ⟨e1, e2, e3⟩ := hp
      exact pm_mk (by rw [← e1] <;> rfl) e2 e3 rfl rfl hMR hMW hMT
  | true =>
    obtain ⟨kq, kq0, kq1, rfl⟩ := in_of (by omega) (by omega) hx
    have hmx : (if sid kq = true then 5 else 6) ≤ 6 := by split <;> omega
    cases hy : decide (nI 1 ≤ y ∧ y ≤ nI (if sid kq = true then 5 else 6)) with
    | false =>
      refine ⟨(-1000001), Z, hZ, fun n σ mi hW => Or.inl ?_, fun n σ hM => ?_⟩
      · obtain ⟨ph, tau, fp, fq, fx, rs, fpl, tn, op, dg, ftx, Kn, Kt, Ka, Kb, Kc, Kd, hp4, hE, hD, hBn, hSR, hmi, ⟨kn, kt, ka, kb, kc, kd⟩, hKA, hKT, hHi, hTx⟩ := id hW
        have eN : kN Kn = aN (zA Z) := hKA.1
        refine GM.post (GM.room2 (c_X6_stack_c  (wx_at0 hE rfl) (wx_at hE 1 rfl) ((by omega)) (hy)) (Nat.le_of_ble_eq_true rfl) (Nat.le_of_ble_eq_true rfl) (Nat.le_of_ble_eq_true rfl) (Nat.le_of_ble_eq_true rfl)) (fun v n' σ' hp => ?_)
        obtain ⟨e1, e2, e3⟩ := hp
        exact px_read hW (by rw [← e1] <;> rfl) e2 e3
      · obtain ⟨xat, xreason, xdone, xkind, xn, xstrength, fs, fwas, fbegun, faside, ftext, fsize, fburnt, fnext, ffar, fthen, fqueue, frankAt, fturnAt, hE, hMR, hMW, hMT⟩ := id hM
        refine GM.post (GM.room2 (GM.heap hE (c_X7_stack_c   ((by omega)) (hy))) (Nat.le_of_ble_eq_true rfl) (Nat.le_of_ble_eq_true rfl) (Nat.le_of_ble_eq_true rfl) (Nat.le_of_ble_eq_true rfl)) (fun v n' σ' hp => ?_)
        obtain ⟨e1, e2, e3⟩ := hp
        exact pm_mk (by rw [← e1] <;> rfl) e2 e3 rfl rfl hMR hMW hMT
    | true =>
      obtain ⟨N, N0, N1, rfl⟩ := in_of (by omega) (by omega) hy
      have hlo : (if kq = 3 then 1 else 0) ≤ 1 := by split <;> omega
      have hhi : (if kq = 3 then 21 else 0) ≤ 21 := by split <;> omega
      cases hz : decide (nI (if kq = 3 then 1 else 0) ≤ z ∧ z ≤ nI (if kq = 3 then 21 else 0)) with
      | false =>
        refine ⟨(-1000001), Z, hZ, fun n σ mi hW => Or.inl ?_, fun n σ hM => ?_⟩
        · obtain ⟨ph, tau, fp, fq, fx, rs, fpl, tn, op, dg, ftx, Kn, Kt, Ka, Kb, Kc, Kd, hp4, hE, hD, hBn, hSR, hmi, ⟨kn, kt, ka, kb, kc, kd⟩, hKA, hKT, hHi, hTx⟩ := id hW
          have eN : kN Kn = aN (zA Z) := hKA.1
          refine GM.post (GM.room2 (c_X6_stack_s  (wx_at0 hE rfl) (wx_at hE 1 rfl) ((by omega)) (N0) (N1) (hz)) (Nat.le_of_ble_eq_true rfl) (Nat.le_of_ble_eq_true rfl) (Nat.le_of_ble_eq_true rfl) (Nat.le_of_ble_eq_true rfl)) (fun v n' σ' hp => ?_)
          obtain ⟨e1, e2, e3⟩ := hp
          exact px_read hW (by rw [← e1] <;> rfl) e2 e3
        · obtain ⟨xat, xreason, xdone, xkind, xn, xstrength, fs, fwas, fbegun, faside, ftext, fsize, fburnt, fnext, ffar, fthen, fqueue, frankAt, fturnAt, hE, hMR, hMW, hMT⟩ := id hM
          refine GM.post (GM.room2 (GM.heap hE (c_X7_stack_s   ((by omega)) (N0) (N1) (hz))) (Nat.le_of_ble_eq_true rfl) (Nat.le_of_ble_eq_true rfl) (Nat.le_of_ble_eq_true rfl) (Nat.le_of_ble_eq_true rfl)) (fun v n' σ' hp => ?_)
          obtain ⟨e1, e2, e3⟩ := hp
          exact pm_mk (by rw [← e1] <;> rfl) e2 e3 rfl rfl hMR hMW hMT
      | true =>
        obtain ⟨sr, sr0, sr1, rfl⟩ := in_of (by omega) (by omega) hz
        have hso : shOK kq N sr := ⟨by omega, N0, N1, sh_sr sr0 sr1⟩
        have hN6 := hso.N
        by_cases h5 : aN (zA Z) = 5
        · refine ⟨(-1000003), Z, hZ, fun n σ mi hW => ?_, fun n σ hM => ?_⟩
          · obtain ⟨ph, tau, fp, fq, fx, rs, fpl, tn, op, dg, ftx, Kn, Kt, Ka, Kb, Kc, Kd, hp4, hE, hD, hBn, hSR, hmi, ⟨kn, kt, ka, kb, kc, kd⟩, hKA, hKT, hHi, hTx⟩ := id hW
            have eN : kN Kn = aN (zA Z) := hKA.1
            by_cases hkn : (if sid kq = true then fq else fp) N = none
            · refine Or.inr ⟨Nat.le_trans (mis_1 hso hkn) hmi, ?_⟩
              refine GM.post (GM.room2 (GM.heap hE (c_X6_stack_fn (kd := kq) (N := N) (sr := sr) (tau := tau) (B := b0 + 58)  (hD) (hBn) (hS4) (by omega) ((by omega)) (kn) (kt) (ka) (kb) (kc) (kd) (hSR) (hso) (hkn) ((by omega)))) (Nat.le_of_ble_eq_true rfl) (Nat.le_of_ble_eq_true rfl) (Nat.le_of_ble_eq_true rfl) (Nat.le_of_ble_eq_true rfl)) (fun v n' σ' hp => ?_)
              obtain ⟨n9, τ9, sa9, la9, tau9, fp9, fq9, fx9, e1, e2, e3, hD9, hmo9, hf9, hsa9, hSR9, hmi9, hn9⟩ := hp
              exact px_mk (mi := mi - 1) (by rw [← e1] <;> rfl) (by omega) e3 rfl rfl (fun q h1 h2 => hf9 q h2 (Or.inr h1)) (hD9.fr (by omega) (fun _ _ _ => rfl)) (by omega) hSR9 (by omega) ⟨kn.mono hmo9, kn.mono hmo9, ka.mono hmo9, kb.mono hmo9, kc.mono hmo9, kd.mono hmo9⟩ hKA (hKT.mono hmo9) (fun i hi => ⟨(hHi i hi).1, (hHi i hi).2.mono hmo9⟩) hTx
            · refine Or.inl ?_
              refine GM.post (GM.room2 (GM.heap hE (c_X6_stack_fk (kd := kq) (N := N) (sr := sr) (tau := tau) (B := b0 + 58)  (hD) (hBn) (hS4) (by omega) ((by omega)) (kn) (kt) (ka) (kb) (kc) (kd) (hSR) (hso) (hkn) ((by omega)))) (Nat.le_of_ble_eq_true rfl) (Nat.le_of_ble_eq_true rfl) (Nat.le_of_ble_eq_true rfl) (Nat.le_of_ble_eq_true rfl)) (fun v n' σ' hp => ?_)
              obtain ⟨n9, τ9, sa9, la9, tau9, fp9, fq9, fx9, e1, e2, e3, hD9, hmo9, hf9, hsa9, hSR9, hmi9, hn9⟩ := hp
              exact px_mk (mi := mi) (by rw [← e1] <;> rfl) (by omega) e3 rfl rfl (fun q h1 h2 => hf9 q h2 (Or.inr h1)) (hD9.fr (by omega) (fun _ _ _ => rfl)) (by omega) hSR9 (by omega) ⟨kn.mono hmo9, kn.mono hmo9, ka.mono hmo9, kb.mono hmo9, kc.mono hmo9, kd.mono hmo9⟩ hKA (hKT.mono hmo9) (fun i hi => ⟨(hHi i hi).1, (hHi i hi).2.mono hmo9⟩) hTx
          · obtain ⟨xat, xreason, xdone, xkind, xn, xstrength, fs, fwas, fbegun, faside, ftext, fsize, fburnt, fnext, ffar, fthen, fqueue, frankAt, fturnAt, hE, hMR, hMW, hMT⟩ := id hM
            refine GM.post (GM.room2 (GM.heap hE (c_X7_stack_f (kd := kq) (N := N) (sr := sr) (ns := 5) (sc := 0)  ((by rw [← h5]; exact hMR.1)) (hso))) (Nat.le_of_ble_eq_true rfl) (Nat.le_of_ble_eq_true rfl) (Nat.le_of_ble_eq_true rfl) (Nat.le_of_ble_eq_true rfl)) (fun v n' σ' hp => ?_)
            obtain ⟨e1, e2, e3⟩ := hp
            exact pm_mk (by rw [← e1] <;> rfl) e2 e3 rfl rfl hMR hMW hMT
        · refine ⟨(nI (aN (zA Z))), zP Z (addA (zA Z) kq N sr), zP_ok hZ (addA_ok hA (by omega) hso), fun n σ mi hW => ?_, fun n σ hM => ?_⟩
          · obtain ⟨ph, tau, fp, fq, fx, rs, fpl, tn, op, dg, ftx, Kn, Kt, Ka, Kb, Kc, Kd, hp4, hE, hD, hBn, hSR, hmi, ⟨kn, kt, ka, kb, kc, kd⟩, hKA, hKT, hHi, hTx⟩ := id hW
            have eN : kN Kn = aN (zA Z) := hKA.1
            by_cases hkn : (if sid kq = true then fq else fp) N = none
            · refine Or.inr ⟨Nat.le_trans (mis_1 hso hkn) hmi, ?_⟩
              refine GM.post (GM.room2 (GM.heap hE (c_X6_stack_yn (kd := kq) (N := N) (sr := sr) (tau := tau) (B := b0 + 58)  (hD) (hBn) (hS4) (by omega) ((by omega)) (kn) (kt) (ka) (kb) (kc) (kd) (hSR) (hso) (hkn) ((by omega)))) (Nat.le_of_ble_eq_true rfl) (Nat.le_of_ble_eq_true rfl) (Nat.le_of_ble_eq_true rfl) (Nat.le_of_ble_eq_true rfl)) (fun v n' σ' hp => ?_)
              obtain ⟨n9, τ9, sa9, la9, tau9, fp9, fq9, fx9, ph2, s2, Ka2, Kb2, Kc2, Kd2, e1, e2, e3, hD9, hmo9, hf9, hsa9, hSR9, hmi9, hn9, ha0, ha1, ha2, ha3, ha4⟩ := hp
              exact px_keep (mi := mi - 1) (by rw [← e1] <;> rw [eN]) (by omega) e3 (fun q h1 h2 => hf9 q h2 (Or.inr h1)) (hD9.fr (by omega) (fun _ _ _ => rfl)) (by omega) hSR9 (by omega) ⟨kn.mono hmo9, ka.mono hmo9, kb.mono hmo9, kc.mono hmo9, kd.mono hmo9⟩ hKA (hKT.mono hmo9) (fun i hi => ⟨(hHi i hi).1, (hHi i hi).2.mono hmo9⟩) hTx ha2 ha3 ha4 (addA_S (kn.mono hmo9) hsa9) (addA_S (kn.mono hmo9) hsa9) (addA_K hKA) (addA_T hKA (hKT.mono hmo9) hsa9)
            · refine Or.inl ?_
              refine GM.post (GM.room2 (GM.heap hE (c_X6_stack_yk (kd := kq) (N := N) (sr := sr) (tau := tau) (B := b0 + 58)  (hD) (hBn) (hS4) (by omega) ((by omega)) (kn) (kt) (ka) (kb) (kc) (kd) (hSR) (hso) (hkn) ((by omega)))) (Nat.le_of_ble_eq_true rfl) (Nat.le_of_ble_eq_true rfl) (Nat.le_of_ble_eq_true rfl) (Nat.le_of_ble_eq_true rfl)) (fun v n' σ' hp => ?_)
              obtain ⟨n9, τ9, sa9, la9, tau9, fp9, fq9, fx9, ph2, s2, Ka2, Kb2, Kc2, Kd2, e1, e2, e3, hD9, hmo9, hf9, hsa9, hSR9, hmi9, hn9, ha0, ha1, ha2, ha3, ha4⟩ := hp
              exact px_keep (mi := mi) (by rw [← e1] <;> rw [eN]) (by omega) e3 (fun q h1 h2 => hf9 q h2 (Or.inr h1)) (hD9.fr (by omega) (fun _ _ _ => rfl)) (by omega) hSR9 (by omega) ⟨kn.mono hmo9, ka.mono hmo9, kb.mono hmo9, kc.mono hmo9, kd.mono hmo9⟩ hKA (hKT.mono hmo9) (fun i hi => ⟨(hHi i hi).1, (hHi i hi).2.mono hmo9⟩) hTx ha2 ha3 ha4 (addA_S (kn.mono hmo9) hsa9) (addA_S (kn.mono hmo9) hsa9) (addA_K hKA) (addA_T hKA (hKT.mono hmo9) hsa9)
          · obtain ⟨xat, xreason, xdone, xkind, xn, xstrength, fs, fwas, fbegun, faside, ftext, fsize, fburnt, fnext, ffar, fthen, fqueue, frankAt, fturnAt, hE, hMR, hMW, hMT⟩ := id hM
            refine GM.post (GM.room2 (GM.heap hE (c_X7_stack_y (kd := kq) (N := N) (sr := sr)  (hMR.1) (hA.1) (hso) (hS4) ((by omega)))) (Nat.le_of_ble_eq_true rfl) (Nat.le_of_ble_eq_true rfl) (Nat.le_of_ble_eq_true rfl) (Nat.le_of_ble_eq_true rfl)) (fun v n' σ' hp => ?_)
            obtain ⟨e1, e2, w2, s2, b2, e3, h1, h2, h3⟩ := hp
            exact pm_keep hZ (by rw [← e1] <;> rfl) e2 e3 hMR hMW hMT (addA_M hMR (by omega) hN6) h2 h3
