theorem cF_D0 {kd sr N : Nat} {d : Nat → Nat} (h : DistIs (cF false) kd sr N d) : DistIs one kd sr N d := h
theorem cF_D1 {kd sr N : Nat} {d : Nat → Nat} (h : DistIs (cF true) kd sr N d) : DistIs (fun m => m) kd sr N d := h
theorem fwR_s2 {kd sr N : Nat} {dd : Nat → Nat} {r row : Nat} (h : 1 ≤ fst9 kd sr N dd r ∧ fst9 kd sr N dd r ≤ N ∧ nrr kd sr N dd r (fst9 kd sr N dd r) ∧ ∀ m, 1 ≤ m → m < fst9 kd sr N dd r → ¬ nrr kd sr N dd r m) (h0 : 0 < dd r) : fwR kd sr N dd (dd (nx (sid kd) N r (fst9 kd sr N dd r))) (nx (sid kd) N r (fst9 kd sr N dd r)) (row * 10 + fst9 kd sr N dd r) = fwR kd sr N dd (dd r) r row := by
  obtain ⟨z, hz⟩ : ∃ z, fst9 kd sr N dd r = z + 1 := ⟨fst9 kd sr N dd r - 1, by omega⟩
  have h2 := h.2.2.1.2
  rw [hz] at h2 ⊢
  rw [Nat.mul_comm row 10]
  exact fwR_s hz.symm h0 h2

abbrev rm_X4_turnsFrom : Room := { frames := 4, cells := 0, slots := 0, locals := 113 }
set_option maxRecDepth 100000 in
set_option maxHeartbeats 4000000 in
theorem c_X4_turnsFrom {l : Launch} {G : gG} {n : Nat} {σ : gS} {va sa la : Nat} {kd N sr cfl : Nat} {sv : Value} {tk wk : Bool} {f3 : Nat → Int32} {f5 : Nat → Int32} {f6 : Nat → Int32} {f7 : Nat → Int32} {dd : Nat → Nat} {r : Nat} (hc0 : σ va = some (.inr (4, [.ref sa, .ref la, .ref (va + 1), .int (bI tk), .ref (va + 2), .int (bI wk)]))) (hc1 : σ sa = some (.inr (2, [.int (nI kd), .int (nI sr), .int (nI N), .ref la, .ref (sa + 1), sv]))) (hc2 : σ (sa + 1) = some (aI G (rR (sid kd) N) f5)) (hc3 : σ la = some (.inr (1, [.int (nI N), .int (nI (rR (sid kd) N)), .int (nI (sbN (sid kd) N)), .int (nI (sm (sid kd) N - 1)), .ref (la + 1), .ref (la + 2), .ref (la + 3), .ref (la + 4)]))) (hc4 : σ (la + 3) = some (aI G (rR (sid kd) N * N) f3)) (hc5 : σ (va + 1) = some (aI G (rR (sid kd) N) f6)) (hc6 : σ (va + 2) = some (aI G (rR (sid kd) N) f7)) (hL : LOK (sid kd) N) (hso : shOK kd N sr) (h5 : ∀ r, r < rR (sid kd) N → f5 r = nI (psR kd sr N r)) (h3 : ∀ r, r < rR (sid kd) N → ∀ k, 1 ≤ k → k ≤ N → f3 (r * N + k - 1) = nI (nx (sid kd) N r k)) (hap : va + 2 < sa ∨ sa + 1 < va) (hap2 : va + 2 < la ∨ la + 4 < va) (hdd : DistIs one kd sr N dd) (htk : tk = true → ∀ r, r < rR (sid kd) N → f6 r = cI (dd r)) (hrk : r < rR (sid kd) N) : GM l G yX4_turnsFrom cX4_turnsFrom 2 (some .int) rm_X4_turnsFrom n σ [.ref va, .int (nI r)] (fun rv n2 σ2 => some (.int (cI (dd r))) = rv ∧ n = n2 ∧ ∃ (g9 : Nat → Int32), (RW σ va [(.inr (4, [.ref sa, .ref la, .ref (va + 1), .int (bI true), .ref (va + 2), .int (bI wk)])), (aI G (rR (sid kd) N) g9), (aI G (rR (sid kd) N) f7)]) = σ2 ∧ (∀ r, r < rR (sid kd) N → g9 r = cI (dd r))) := by
  refine GM.intro (by decide +kernel) (Nat.le_of_ble_eq_true rfl) (fun p e s m args below meth c C hr hlocks hname po hpo => ?_)
  have C : Cx p s m args c cX4_turnsFrom 2 RX4 G := C
  have hb9 := hL.b
  refine V.hp (σ2 := (RW σ va [(.inr (4, [.ref sa, .ref la, .ref (va + 1), .int (bI tk), .ref (va + 2), .int (bI wk)])), (aI G (rR (sid kd) N) f6), (aI G (rR (sid kd) N) f7)])) (RW_cons hc0 (RW_cons hc5 (RW_cons hc6 (RW_nil _ _)))).symm ?_
  refine r_aload_n C dX4_turnsFrom_0 rfl 0 rfl ?_
  refine r_get (Cn := RX4) (T := TX4) (N := 6) (v := .int (bI tk)) C inlX4 (RW_at0 rfl) rfl 3 (by decide) wF_X4_9 (fun _ h => h) rfl dX4_turnsFrom_1 ?_
  have L21 : ∀ (k9 : Bool) (u9 : Nat → Int32), (k9 = true) → (∀ r, r < rR (sid kd) N → u9 r = cI (dd r)) → V p l e rm_X4_turnsFrom s m args below meth c G 2 (MQ below (gQ G po) args s rm_X4_turnsFrom.cells rm_X4_turnsFrom.slots (gF G)) 0 0 n (RW σ va [(.inr (4, [.ref sa, .ref la, .ref (va + 1), .int (bI k9), .ref (va + 2), .int (bI wk)])), (aI G (rR (sid kd) N) u9), (aI G (rR (sid kd) N) f7)]) 21 [(0, .ref va), (1, .int (nI r))] [] := by
    intro k9 u9 hk9 hu9
    refine r_aload_n C dX4_turnsFrom_21 rfl 0 rfl ?_
    refine r_get (Cn := RX4) (T := TX4) (N := 6) (v := .ref (va + 1)) C inlX4 (RW_at0 rfl) rfl 2 (by decide) wF_X4_39 (fun _ h => h) rfl dX4_turnsFrom_22 ?_
    refine r_iload_n C dX4_turnsFrom_25 rfl 1 rfl ?_
    refine r_callSN (As := [.ref (va + 1), .int (nI r)]) C (c_X6_at_y (a := va + 1) (len := rR (sid kd) N) (f := u9) (i := r) (RW_at 1 rfl) (hrk) (by first | assumption | omega)) wZ_X4_50 wS_X6_at wN_X6 wC_X6_at hd_X6_at ⟨Nat.le_of_ble_eq_true rfl, Nat.le_of_ble_eq_true rfl⟩ rfl rfl (Nat.le_of_ble_eq_true rfl) dX4_turnsFrom_26 ⟨(Nat.le_of_ble_eq_true rfl), (Nat.le_of_ble_eq_true rfl)⟩ (fun rv n2 σ2 hp => ?_)
    obtain ⟨rfl, rfl, rfl⟩ := hp
    refine V.eq (σ2 := (RW σ va [(.inr (4, [.ref sa, .ref la, .ref (va + 1), .int (bI k9), .ref (va + 2), .int (bI wk)])), (aI G (rR (sid kd) N) u9), (aI G (rR (sid kd) N) f7)])) (n2 := n) (st2 := [.int (u9 r)]) rfl rfl rfl rfl ?_
    exact r_iret C hr hlocks (Nat.le_of_ble_eq_true rfl) (Nat.le_of_ble_eq_true rfl) dX4_turnsFrom_29 (hpo _ _ _ ⟨by rw [hu9 r hrk], rfl, u9, by rw [hk9], hu9⟩)
  refine r_if_neB (tgt := 21) C dX4_turnsFrom_4 (by decide) (fun c4 => ?_) (fun c4 => ?_)
  · exact L21 tk f6 (by first | assumption | rfl) (by first | exact htk c4 | exact fun r hr => by rw [hw7 r hr, (cF_D0 hD7).uniq hdd hr])
  · refine r_aload_n C dX4_turnsFrom_7 rfl 0 rfl ?_
    refine r_aload_n C dX4_turnsFrom_8 rfl 0 rfl ?_
    refine r_get (Cn := RX4) (T := TX4) (N := 6) (v := .ref (va + 1)) C inlX4 (RW_at0 rfl) rfl 2 (by decide) wF_X4_39 (fun _ h => h) rfl dX4_turnsFrom_9 ?_
    refine r_iconst (v := nI 0) C dX4_turnsFrom_12 (by decide) ?_
    refine V.top (y := bI false) rfl ?_
    refine r_callV (As := [.ref (va + 1), .int (bI false)]) C (c_X4_fillCosts (va := va) (sa := sa) (la := la) (kd := kd) (N := N) (sr := sr) (cfl := cfl) (sv := sv) (tk := tk) (wk := wk) (f3 := f3) (f5 := f5) (ca := va + 1) (f6 := f6) (bw := false) (RW_at0 rfl) ((RW_ne (m := 3) rfl (by omega)).trans hc1) ((RW_ne (m := 3) rfl (by omega)).trans hc2) ((RW_ne (m := 3) rfl (by omega)).trans hc3) ((RW_ne (m := 3) rfl (by omega)).trans hc4) (RW_at 1 rfl) (by first | assumption | omega) (by first | assumption | omega) (by first | assumption | omega) (⟨by omega, by omega, by omega, by omega, by omega⟩) (by first | assumption | omega)) wM_X4_46 wI_X4_fillCosts wN_X4 wC_X4_fillCosts wV_X4_fillCosts hd_X4_fillCosts ⟨Nat.le_of_ble_eq_true rfl, Nat.le_of_ble_eq_true rfl⟩ rfl (RW_at0 rfl) rfl rfl (Nat.le_of_ble_eq_true rfl) dX4_turnsFrom_13 ⟨(Nat.le_of_ble_eq_true rfl), (Nat.le_of_ble_eq_true rfl)⟩ (fun rv n2 σ2 hp => ?_)
    obtain ⟨rfl, rfl, w7, d7, rfl, hw7, hD7⟩ := hp
    refine V.eq (σ2 := (RW (RW σ va [(.inr (4, [.ref sa, .ref la, .ref (va + 1), .int (bI tk), .ref (va + 2), .int (bI wk)])), (aI G (rR (sid kd) N) f6), (aI G (rR (sid kd) N) f7)]) (va + 1) [(aI G (rR (sid kd) N) w7)])) (n2 := n) (st2 := []) rfl rfl rfl rfl ?_
    refine V.hp (σ2 := (RW σ va [(.inr (4, [.ref sa, .ref la, .ref (va + 1), .int (bI tk), .ref (va + 2), .int (bI wk)])), (aI G (rR (sid kd) N) w7), (aI G (rR (sid kd) N) f7)])) (RW_in 1 (m := 1) rfl (Nat.le_of_ble_eq_true rfl) rfl) ?_
    refine r_aload_n C dX4_turnsFrom_16 rfl 0 rfl ?_
    refine r_iconst (v := nI 1) C dX4_turnsFrom_17 (by decide) ?_
    refine r_put (Cn := RX4) (T := TX4) (N := 6) (fs2 := [.ref sa, .ref la, .ref (va + 1), .int (nI 1), .ref (va + 2), .int (bI wk)]) C inlX4 tyX4 tyX4_ok nmX4 (RW_at0 rfl) rfl 3 (by decide) wF_X4_9 (fun _ h => h) rfl (tyX4_ok 3 (by decide)) (by decide) rfl (Nat.le_of_ble_eq_true rfl) rfl dX4_turnsFrom_18 ?_
    refine V.hp (σ2 := (RW σ va [(.inr (4, [.ref sa, .ref la, .ref (va + 1), .int (nI 1), .ref (va + 2), .int (bI wk)])), (aI G (rR (sid kd) N) w7), (aI G (rR (sid kd) N) f7)])) (RW_set0 (Nat.le_of_ble_eq_true rfl) rfl) ?_
    refine V.eq (σ2 := (RW σ va [(.inr (4, [.ref sa, .ref la, .ref (va + 1), .int (bI true), .ref (va + 2), .int (bI wk)])), (aI G (rR (sid kd) N) w7), (aI G (rR (sid kd) N) f7)])) (lv2 := [(0, .ref va), (1, .int (nI r))]) (st2 := []) rfl rfl rfl rfl ?_
    exact L21 true w7 (by first | assumption | rfl) (by first | exact htk c4 | exact fun r hr => by rw [hw7 r hr, (cF_D0 hD7).uniq hdd hr])

abbrev rm_X4_workFrom : Room := { frames := 4, cells := 0, slots := 0, locals := 113 }
set_option maxRecDepth 100000 in
set_option maxHeartbeats 4000000 in
theorem c_X4_workFrom {l : Launch} {G : gG} {n : Nat} {σ : gS} {va sa la : Nat} {kd N sr cfl : Nat} {sv : Value} {tk wk : Bool} {f3 : Nat → Int32} {f5 : Nat → Int32} {f6 : Nat → Int32} {f7 : Nat → Int32} {dd : Nat → Nat} {r : Nat} (hc0 : σ va = some (.inr (4, [.ref sa, .ref la, .ref (va + 1), .int (bI tk), .ref (va + 2), .int (bI wk)]))) (hc1 : σ sa = some (.inr (2, [.int (nI kd), .int (nI sr), .int (nI N), .ref la, .ref (sa + 1), sv]))) (hc2 : σ (sa + 1) = some (aI G (rR (sid kd) N) f5)) (hc3 : σ la = some (.inr (1, [.int (nI N), .int (nI (rR (sid kd) N)), .int (nI (sbN (sid kd) N)), .int (nI (sm (sid kd) N - 1)), .ref (la + 1), .ref (la + 2), .ref (la + 3), .ref (la + 4)]))) (hc4 : σ (la + 3) = some (aI G (rR (sid kd) N * N) f3)) (hc5 : σ (va + 1) = some (aI G (rR (sid kd) N) f6)) (hc6 : σ (va + 2) = some (aI G (rR (sid kd) N) f7)) (hL : LOK (sid kd) N) (hso : shOK kd N sr) (h5 : ∀ r, r < rR (sid kd) N → f5 r = nI (psR kd sr N r)) (h3 : ∀ r, r < rR (sid kd) N → ∀ k, 1 ≤ k → k ≤ N → f3 (r * N + k - 1) = nI (nx (sid kd) N r k)) (hap : va + 2 < sa ∨ sa + 1 < va) (hap2 : va + 2 < la ∨ la + 4 < va) (hdd : DistIs (fun m => m) kd sr N dd) (htk : wk = true → ∀ r, r < rR (sid kd) N → f7 r = cI (dd r)) (hrk : r < rR (sid kd) N) : GM l G yX4_workFrom cX4_workFrom 2 (some .int) rm_X4_workFrom n σ [.ref va, .int (nI r)] (fun rv n2 σ2 => some (.int (cI (dd r))) = rv ∧ n = n2 ∧ ∃ (g9 : Nat → Int32), (RW σ va [(.inr (4, [.ref sa, .ref la, .ref (va + 1), .int (bI tk), .ref (va + 2), .int (bI true)])), (aI G (rR (sid kd) N) f6), (aI G (rR (sid kd) N) g9)]) = σ2 ∧ (∀ r, r < rR (sid kd) N → g9 r = cI (dd r))) := by
  refine GM.intro (by decide +kernel) (Nat.le_of_ble_eq_true rfl) (fun p e s m args below meth c C hr hlocks hname po hpo => ?_)
  have C : Cx p s m args c cX4_workFrom 2 RX4 G := C
  have hb9 := hL.b
  refine V.hp (σ2 := (RW σ va [(.inr (4, [.ref sa, .ref la, .ref (va + 1), .int (bI tk), .ref (va + 2), .int (bI wk)])), (aI G (rR (sid kd) N) f6), (aI G (rR (sid kd) N) f7)])) (RW_cons hc0 (RW_cons hc5 (RW_cons hc6 (RW_nil _ _)))).symm ?_
  refine r_aload_n C dX4_workFrom_0 rfl 0 rfl ?_
  refine r_get (Cn := RX4) (T := TX4) (N := 6) (v := .int (bI wk)) C inlX4 (RW_at0 rfl) rfl 5 (by decide) wF_X4_15 (fun _ h => h) rfl dX4_workFrom_1 ?_
  have L21 : ∀ (k9 : Bool) (u9 : Nat → Int32), (k9 = true) → (∀ r, r < rR (sid kd) N → u9 r = cI (dd r)) → V p l e rm_X4_workFrom s m args below meth c G 2 (MQ below (gQ G po) args s rm_X4_workFrom.cells rm_X4_workFrom.slots (gF G)) 0 0 n (RW σ va [(.inr (4, [.ref sa, .ref la, .ref (va + 1), .int (bI tk), .ref (va + 2), .int (bI k9)])), (aI G (rR (sid kd) N) f6), (aI G (rR (sid kd) N) u9)]) 21 [(0, .ref va), (1, .int (nI r))] [] := by
    intro k9 u9 hk9 hu9
    refine r_aload_n C dX4_workFrom_21 rfl 0 rfl ?_
    refine r_get (Cn := RX4) (T := TX4) (N := 6) (v := .ref (va + 2)) C inlX4 (RW_at0 rfl) rfl 4 (by decide) wF_X4_43 (fun _ h => h) rfl dX4_workFrom_22 ?_
    refine r_iload_n C dX4_workFrom_25 rfl 1 rfl ?_
    refine r_callSN (As := [.ref (va + 2), .int (nI r)]) C (c_X6_at_y (a := va + 2) (len := rR (sid kd) N) (f := u9) (i := r) (RW_at 2 rfl) (hrk) (by first | assumption | omega)) wZ_X4_50 wS_X6_at wN_X6 wC_X6_at hd_X6_at ⟨Nat.le_of_ble_eq_true rfl, Nat.le_of_ble_eq_true rfl⟩ rfl rfl (Nat.le_of_ble_eq_true rfl) dX4_workFrom_26 ⟨(Nat.le_of_ble_eq_true rfl), (Nat.le_of_ble_eq_true rfl)⟩ (fun rv n2 σ2 hp => ?_)
    obtain ⟨rfl, rfl, rfl⟩ := hp
    refine V.eq (σ2 := (RW σ va [(.inr (4, [.ref sa, .ref la, .ref (va + 1), .int (bI tk), .ref (va + 2), .int (bI k9)])), (aI G (rR (sid kd) N) f6), (aI G (rR (sid kd) N) u9)])) (n2 := n) (st2 := [.int (u9 r)]) rfl rfl rfl rfl ?_
    exact r_iret C hr hlocks (Nat.le_of_ble_eq_true rfl) (Nat.le_of_ble_eq_true rfl) dX4_workFrom_29 (hpo _ _ _ ⟨by rw [hu9 r hrk], rfl, u9, by rw [hk9], hu9⟩)
  refine r_if_neB (tgt := 21) C dX4_workFrom_4 (by decide) (fun c4 => ?_) (fun c4 => ?_)
  · exact L21 wk f7 (by first | assumption | rfl) (by first | exact htk c4 | exact fun r hr => by rw [hw7 r hr, (cF_D1 hD7).uniq hdd hr])
  · refine r_aload_n C dX4_workFrom_7 rfl 0 rfl ?_
    refine r_aload_n C dX4_workFrom_8 rfl 0 rfl ?_
    refine r_get (Cn := RX4) (T := TX4) (N := 6) (v := .ref (va + 2)) C inlX4 (RW_at0 rfl) rfl 4 (by decide) wF_X4_43 (fun _ h => h) rfl dX4_workFrom_9 ?_
    refine r_iconst (v := nI 1) C dX4_workFrom_12 (by decide) ?_
    refine V.top (y := bI true) rfl ?_
    refine r_callV (As := [.ref (va + 2), .int (bI true)]) C (c_X4_fillCosts (va := va) (sa := sa) (la := la) (kd := kd) (N := N) (sr := sr) (cfl := cfl) (sv := sv) (tk := tk) (wk := wk) (f3 := f3) (f5 := f5) (ca := va + 2) (f6 := f7) (bw := true) (RW_at0 rfl) ((RW_ne (m := 3) rfl (by omega)).trans hc1) ((RW_ne (m := 3) rfl (by omega)).trans hc2) ((RW_ne (m := 3) rfl (by omega)).trans hc3) ((RW_ne (m := 3) rfl (by omega)).trans hc4) (RW_at 2 rfl) (by first | assumption | omega) (by first | assumption | omega) (by first | assumption | omega) (⟨by omega, by omega, by omega, by omega, by omega⟩) (by first | assumption | omega)) wM_X4_46 wI_X4_fillCosts wN_X4 wC_X4_fillCosts wV_X4_fillCosts hd_X4_fillCosts ⟨Nat.le_of_ble_eq_true rfl, Nat.le_of_ble_eq_true rfl⟩ rfl (RW_at0 rfl) rfl rfl (Nat.le_of_ble_eq_true rfl) dX4_workFrom_13 ⟨(Nat.le_of_ble_eq_true rfl), (Nat.le_of_ble_eq_true rfl)⟩ (fun rv n2 σ2 hp => ?_)
    obtain ⟨rfl, rfl, w7, d7, rfl, hw7, hD7⟩ := hp
    refine V.eq (σ2 := (RW (RW σ va [(.inr (4, [.ref sa, .ref la, .ref (va + 1), .int (bI tk), .ref (va + 2), .int (bI wk)])), (aI G (rR (sid kd) N) f6), (aI G (rR (sid kd) N) f7)]) (va + 2) [(aI G (rR (sid kd) N) w7)])) (n2 := n) (st2 := []) rfl rfl rfl rfl ?_
    refine V.hp (σ2 := (RW σ va [(.inr (4, [.ref sa, .ref la, .ref (va + 1), .int (bI tk), .ref (va + 2), .int (bI wk)])), (aI G (rR (sid kd) N) f6), (aI G (rR (sid kd) N) w7)])) (RW_in 2 (m := 1) rfl (Nat.le_of_ble_eq_true rfl) rfl) ?_
    refine r_aload_n C dX4_workFrom_16 rfl 0 rfl ?_
    refine r_iconst (v := nI 1) C dX4_workFrom_17 (by decide) ?_
    refine r_put (Cn := RX4) (T := TX4) (N := 6) (fs2 := [.ref sa, .ref la, .ref (va + 1), .int (bI tk), .ref (va + 2), .int (nI 1)]) C inlX4 tyX4 tyX4_ok nmX4 (RW_at0 rfl) rfl 5 (by decide) wF_X4_15 (fun _ h => h) rfl (tyX4_ok 5 (by decide)) (by decide) rfl (Nat.le_of_ble_eq_true rfl) rfl dX4_workFrom_18 ?_
    refine V.hp (σ2 := (RW σ va [(.inr (4, [.ref sa, .ref la, .ref (va + 1), .int (bI tk), .ref (va + 2), .int (nI 1)])), (aI G (rR (sid kd) N) f6), (aI G (rR (sid kd) N) w7)])) (RW_set0 (Nat.le_of_ble_eq_true rfl) rfl) ?_
    refine V.eq (σ2 := (RW σ va [(.inr (4, [.ref sa, .ref la, .ref (va + 1), .int (bI tk), .ref (va + 2), .int (bI true)])), (aI G (rR (sid kd) N) f6), (aI G (rR (sid kd) N) w7)])) (lv2 := [(0, .ref va), (1, .int (nI r))]) (st2 := []) rfl rfl rfl rfl ?_
    exact L21 true w7 (by first | assumption | rfl) (by first | exact htk c4 | exact fun r hr => by rw [hw7 r hr, (cF_D1 hD7).uniq hdd hr])

abbrev rm_X4_stacksWithTurns : Room := { frames := 5, cells := 0, slots := 0, locals := 134 }
set_option maxRecDepth 100000 in
set_option maxHeartbeats 4000000 in
theorem c_X4_stacksWithTurns {l : Launch} {G : gG} {n : Nat} {σ : gS} {va sa la : Nat} {kd N sr cfl : Nat} {sv : Value} {tk wk : Bool} {f3 : Nat → Int32} {f5 : Nat → Int32} {f6 : Nat → Int32} {f7 : Nat → Int32} {dd : Nat → Nat} {w : Nat} (hc0 : σ va = some (.inr (4, [.ref sa, .ref la, .ref (va + 1), .int (bI tk), .ref (va + 2), .int (bI wk)]))) (hc1 : σ sa = some (.inr (2, [.int (nI kd), .int (nI sr), .int (nI N), .ref la, .ref (sa + 1), sv]))) (hc2 : σ (sa + 1) = some (aI G (rR (sid kd) N) f5)) (hc3 : σ la = some (.inr (1, [.int (nI N), .int (nI (rR (sid kd) N)), .int (nI (sbN (sid kd) N)), .int (nI (sm (sid kd) N - 1)), .ref (la + 1), .ref (la + 2), .ref (la + 3), .ref (la + 4)]))) (hc4 : σ (la + 3) = some (aI G (rR (sid kd) N * N) f3)) (hc5 : σ (va + 1) = some (aI G (rR (sid kd) N) f6)) (hc6 : σ (va + 2) = some (aI G (rR (sid kd) N) f7)) (hL : LOK (sid kd) N) (hso : shOK kd N sr) (h5 : ∀ r, r < rR (sid kd) N → f5 r = nI (psR kd sr N r)) (h3 : ∀ r, r < rR (sid kd) N → ∀ k, 1 ≤ k → k ≤ N → f3 (r * N + k - 1) = nI (nx (sid kd) N r k)) (hap : va + 2 < sa ∨ sa + 1 < va) (hap2 : va + 2 < la ∨ la + 4 < va) (hdd : DistIs one kd sr N dd) (htk : tk = true → ∀ r, r < rR (sid kd) N → f6 r = cI (dd r)) (hw : w ≤ 12) : GM l G yX4_stacksWithTurns cX4_stacksWithTurns 4 (some .int) rm_X4_stacksWithTurns n σ [.ref va, .int (nI w)] (fun rv n2 σ2 => some (.int (nI (ofd dd w (rR (sid kd) N)))) = rv ∧ n = n2 ∧ ∃ (k9 : Bool) (g9 : Nat → Int32), (RW σ va [(.inr (4, [.ref sa, .ref la, .ref (va + 1), .int (bI k9), .ref (va + 2), .int (bI wk)])), (aI G (rR (sid kd) N) g9), (aI G (rR (sid kd) N) f7)]) = σ2 ∧ (k9 = true → ∀ r, r < rR (sid kd) N → g9 r = cI (dd r))) := by
  refine GM.intro (by decide +kernel) (Nat.le_of_ble_eq_true rfl) (fun p e s m args below meth c C hr hlocks hname po hpo => ?_)
  have C : Cx p s m args c cX4_stacksWithTurns 4 RX4 G := C
  have hb9 := hL.b
  refine V.hp (σ2 := (RW σ va [(.inr (4, [.ref sa, .ref la, .ref (va + 1), .int (bI tk), .ref (va + 2), .int (bI wk)])), (aI G (rR (sid kd) N) f6), (aI G (rR (sid kd) N) f7)])) (RW_cons hc0 (RW_cons hc5 (RW_cons hc6 (RW_nil _ _)))).symm ?_
  refine r_iconst (v := nI 0) C dX4_stacksWithTurns_0 (by decide) ?_
  refine r_istore_n (lv2 := [(2, .int (nI 0)), (0, .ref va), (1, .int (nI w))]) C dX4_stacksWithTurns_1 rfl (by decide) rfl ?_
  refine r_iconst (v := nI 0) C dX4_stacksWithTurns_2 (by decide) ?_
  refine r_istore_n (lv2 := [(3, .int (nI 0)), (2, .int (nI 0)), (0, .ref va), (1, .int (nI w))]) C dX4_stacksWithTurns_3 rfl (by decide) rfl ?_
  have L4 : ∀ (fu : Nat) (i : Nat) (t9 : Bool) (u9 : Nat → Int32), (i ≤ rR (sid kd) N) → (t9 = true → ∀ r, r < rR (sid kd) N → u9 r = cI (dd r)) → (rR (sid kd) N + 1 - i) < fu → V p l e rm_X4_stacksWithTurns s m args below meth c G 4 (MQ below (gQ G po) args s rm_X4_stacksWithTurns.cells rm_X4_stacksWithTurns.slots (gF G)) 0 0 n (RW σ va [(.inr (4, [.ref sa, .ref la, .ref (va + 1), .int (bI t9), .ref (va + 2), .int (bI wk)])), (aI G (rR (sid kd) N) u9), (aI G (rR (sid kd) N) f7)]) 4 [(0, .ref va), (1, .int (nI w)), (2, .int (nI (ofd dd w i))), (3, .int (nI i))] [] := by
    intro fu
    induction fu with
    | zero => intro i t9 u9 hi ht9 hm; exact absurd hm (Nat.not_lt_zero _)
    | succ fu ih4 =>
      intro i t9 u9 hi ht9 hm4
      refine r_iload_n C dX4_stacksWithTurns_4 rfl 3 rfl ?_
      refine r_aload_n C dX4_stacksWithTurns_5 rfl 0 rfl ?_
      refine r_get (Cn := RX4) (T := TX4) (N := 6) (v := .ref la) C inlX4 (RW_at0 rfl) rfl 1 (by decide) wF_X4_28 (fun _ h => h) rfl dX4_stacksWithTurns_6 ?_
      refine r_get (Cn := RX1) (T := TX1) (N := 8) (v := .int (nI (rR (sid kd) N))) C inlX1 ((RW_ne (m := 3) rfl (by omega)).trans hc3) rfl 1 (by decide) wF_X4_29 (fun _ h => h) rfl dX4_stacksWithTurns_9 ?_
      refine r_icmp_geN (tgt := 33) C dX4_stacksWithTurns_12 (by decide) (by omega) (by omega) (fun c12 => ?_) (fun c12 => ?_)
      · have hiR : i = rR (sid kd) N := by omega
        refine r_iload_n C dX4_stacksWithTurns_33 rfl 2 rfl ?_
        exact r_iret C hr hlocks (Nat.le_of_ble_eq_true rfl) (Nat.le_of_ble_eq_true rfl) dX4_stacksWithTurns_34 (hpo _ _ _ ⟨by rw [hiR], rfl, t9, u9, rfl, ht9⟩)
      · have hiL : i < rR (sid kd) N := by omega
        have hdb := (hdd i hiL).1
        refine r_aload_n C dX4_stacksWithTurns_15 rfl 0 rfl ?_
        refine r_iload_n C dX4_stacksWithTurns_16 rfl 3 rfl ?_
        refine r_callV (As := [.int (nI i)]) C (c_X4_turnsFrom (va := va) (sa := sa) (la := la) (kd := kd) (N := N) (sr := sr) (cfl := cfl) (sv := sv) (tk := t9) (wk := wk) (f3 := f3) (f5 := f5) (f6 := u9) (f7 := f7) (dd := dd) (r := i) (RW_at0 rfl) ((RW_ne (m := 3) rfl (by omega)).trans hc1) ((RW_ne (m := 3) rfl (by omega)).trans hc2) ((RW_ne (m := 3) rfl (by omega)).trans hc3) ((RW_ne (m := 3) rfl (by omega)).trans hc4) (RW_at 1 rfl) (RW_at 2 rfl) (by first | assumption | omega) (by first | assumption | omega) (by first | assumption | omega) (by first | assumption | omega) (by first | assumption | omega) (by first | assumption | omega) (by first | assumption | omega) (ht9) (by first | assumption | omega)) wM_X4_54 wI_X4_turnsFrom wN_X4 wC_X4_turnsFrom wV_X4_turnsFrom hd_X4_turnsFrom ⟨Nat.le_of_ble_eq_true rfl, Nat.le_of_ble_eq_true rfl⟩ rfl (RW_at0 rfl) rfl rfl (Nat.le_of_ble_eq_true rfl) dX4_stacksWithTurns_17 ⟨(Nat.le_of_ble_eq_true rfl), (Nat.le_of_ble_eq_true rfl)⟩ (fun rv n2 σ2 hp => ?_)
        obtain ⟨rfl, rfl, n9, rfl, hn9⟩ := hp
        refine V.eq (σ2 := (RW (RW σ va [(.inr (4, [.ref sa, .ref la, .ref (va + 1), .int (bI t9), .ref (va + 2), .int (bI wk)])), (aI G (rR (sid kd) N) u9), (aI G (rR (sid kd) N) f7)]) va [(.inr (4, [.ref sa, .ref la, .ref (va + 1), .int (bI true), .ref (va + 2), .int (bI wk)])), (aI G (rR (sid kd) N) n9), (aI G (rR (sid kd) N) f7)])) (n2 := n) (st2 := [.int (cI (dd i))]) rfl rfl rfl rfl ?_
        refine V.hp (σ2 := (RW σ va [(.inr (4, [.ref sa, .ref la, .ref (va + 1), .int (bI true), .ref (va + 2), .int (bI wk)])), (aI G (rR (sid kd) N) n9), (aI G (rR (sid kd) N) f7)])) (RW_in0 (m := 3) rfl (Nat.le_of_ble_eq_true rfl) rfl) ?_
        refine r_iload_n C dX4_stacksWithTurns_20 rfl 1 rfl ?_
        refine r_icmp_ne (tgt := 27) C dX4_stacksWithTurns_21 (by decide) (fun c21 => ?_) (fun c21 => ?_)
        · have c21 : dd i ≠ w := fun z => c21 (by rw [z, cI_n (by omega)])
          refine r_iinc (v := nI (i + 1)) (lv2 := [(3, .int (nI (i + 1))), (0, .ref va), (1, .int (nI w)), (2, .int (nI (ofd dd w i)))]) C dX4_stacksWithTurns_27 (k := 3) rfl (nI_add _ 1) (by decide) rfl ?_
          refine r_goto (tgt := 4) C dX4_stacksWithTurns_30 (by decide) ?_
          refine V.sub (lv2 := [(0, .ref va), (1, .int (nI w)), (2, .int (nI (ofd dd w i))), (3, .int (nI (i + 1)))]) [1, 2, 3, 0] rfl ?_
          refine V.eq (σ2 := (RW σ va [(.inr (4, [.ref sa, .ref la, .ref (va + 1), .int (bI true), .ref (va + 2), .int (bI wk)])), (aI G (rR (sid kd) N) n9), (aI G (rR (sid kd) N) f7)])) (lv2 := [(0, .ref va), (1, .int (nI w)), (2, .int (nI (ofd dd w (i + 1)))), (3, .int (nI (i + 1)))]) (st2 := []) rfl rfl (by rw [(show nI (ofd dd w i) = nI (ofd dd w (i + 1)) from by first | (simp [ofd, c21]; done) | (rw [ofd, if_pos c21]))]) rfl ?_
          exact ih4 (i + 1) true n9 (by omega) (fun _ => hn9) (by omega)
        · have c21 : dd i = w := cI_eq hdb (by omega) c21
          refine r_iinc (v := nI (ofd dd w i + 1)) (lv2 := [(2, .int (nI (ofd dd w i + 1))), (0, .ref va), (1, .int (nI w)), (3, .int (nI i))]) C dX4_stacksWithTurns_24 (k := 2) rfl (nI_add _ 1) (by decide) rfl ?_
          refine r_iinc (v := nI (i + 1)) (lv2 := [(3, .int (nI (i + 1))), (2, .int (nI (ofd dd w i + 1))), (0, .ref va), (1, .int (nI w))]) C dX4_stacksWithTurns_27 (k := 3) rfl (nI_add _ 1) (by decide) rfl ?_
          refine r_goto (tgt := 4) C dX4_stacksWithTurns_30 (by decide) ?_
          refine V.sub (lv2 := [(0, .ref va), (1, .int (nI w)), (2, .int (nI (ofd dd w i + 1))), (3, .int (nI (i + 1)))]) [2, 3, 1, 0] rfl ?_
          refine V.eq (σ2 := (RW σ va [(.inr (4, [.ref sa, .ref la, .ref (va + 1), .int (bI true), .ref (va + 2), .int (bI wk)])), (aI G (rR (sid kd) N) n9), (aI G (rR (sid kd) N) f7)])) (lv2 := [(0, .ref va), (1, .int (nI w)), (2, .int (nI (ofd dd w (i + 1)))), (3, .int (nI (i + 1)))]) (st2 := []) rfl rfl (by rw [(show nI (ofd dd w i + 1) = nI (ofd dd w (i + 1)) from by first | (simp [ofd, c21]; done) | (rw [ofd, if_pos c21]))]) rfl ?_
          exact ih4 (i + 1) true n9 (by omega) (fun _ => hn9) (by omega)
  refine V.sub (lv2 := [(0, .ref va), (1, .int (nI w)), (2, .int (nI 0)), (3, .int (nI 0))]) [2, 3, 1, 0] rfl ?_
  refine V.eq (σ2 := (RW σ va [(.inr (4, [.ref sa, .ref la, .ref (va + 1), .int (bI tk), .ref (va + 2), .int (bI wk)])), (aI G (rR (sid kd) N) f6), (aI G (rR (sid kd) N) f7)])) (lv2 := [(0, .ref va), (1, .int (nI w)), (2, .int (nI (ofd dd w 0))), (3, .int (nI 0))]) (st2 := []) rfl rfl rfl rfl ?_
  exact L4 _ 0 tk f6 (by omega) (htk) (Nat.lt_succ_self _)

abbrev rm_X4_firstRow : Room := { frames := 5, cells := 0, slots := 0, locals := 134 }
set_option maxRecDepth 100000 in
set_option maxHeartbeats 4000000 in
theorem c_X4_firstRow {l : Launch} {G : gG} {n : Nat} {σ : gS} {va sa la : Nat} {kd N sr cfl : Nat} {sv : Value} {tk wk : Bool} {f3 : Nat → Int32} {f5 : Nat → Int32} {f6 : Nat → Int32} {f7 : Nat → Int32} {dd : Nat → Nat} {r : Nat} (hc0 : σ va = some (.inr (4, [.ref sa, .ref la, .ref (va + 1), .int (bI tk), .ref (va + 2), .int (bI wk)]))) (hc1 : σ sa = some (.inr (2, [.int (nI kd), .int (nI sr), .int (nI N), .ref la, .ref (sa + 1), sv]))) (hc2 : σ (sa + 1) = some (aI G (rR (sid kd) N) f5)) (hc3 : σ la = some (.inr (1, [.int (nI N), .int (nI (rR (sid kd) N)), .int (nI (sbN (sid kd) N)), .int (nI (sm (sid kd) N - 1)), .ref (la + 1), .ref (la + 2), .ref (la + 3), .ref (la + 4)]))) (hc4 : σ (la + 3) = some (aI G (rR (sid kd) N * N) f3)) (hc5 : σ (va + 1) = some (aI G (rR (sid kd) N) f6)) (hc6 : σ (va + 2) = some (aI G (rR (sid kd) N) f7)) (hL : LOK (sid kd) N) (hso : shOK kd N sr) (h5 : ∀ r, r < rR (sid kd) N → f5 r = nI (psR kd sr N r)) (h3 : ∀ r, r < rR (sid kd) N → ∀ k, 1 ≤ k → k ≤ N → f3 (r * N + k - 1) = nI (nx (sid kd) N r k)) (hap : va + 2 < sa ∨ sa + 1 < va) (hap2 : va + 2 < la ∨ la + 4 < va) (hdd : DistIs one kd sr N dd) (htk : tk = true → ∀ r, r < rR (sid kd) N → f6 r = cI (dd r)) (hrk : r < rR (sid kd) N) (h9 : dd r ≤ 9) : GM l G yX4_firstRow cX4_firstRow 6 (some .int) rm_X4_firstRow n σ [.ref va, .int (nI r)] (fun rv n2 σ2 => some (.int (nI (fwR kd sr N dd (dd r) r 0))) = rv ∧ n = n2 ∧ ∃ (g9 : Nat → Int32), (RW σ va [(.inr (4, [.ref sa, .ref la, .ref (va + 1), .int (bI true), .ref (va + 2), .int (bI wk)])), (aI G (rR (sid kd) N) g9), (aI G (rR (sid kd) N) f7)]) = σ2 ∧ (∀ r, r < rR (sid kd) N → g9 r = cI (dd r))) := by
  refine GM.intro (by decide +kernel) (Nat.le_of_ble_eq_true rfl) (fun p e s m args below meth c C hr hlocks hname po hpo => ?_)
  have C : Cx p s m args c cX4_firstRow 6 RX4 G := C
  have hb9 := hL.b
  refine V.hp (σ2 := (RW σ va [(.inr (4, [.ref sa, .ref la, .ref (va + 1), .int (bI tk), .ref (va + 2), .int (bI wk)])), (aI G (rR (sid kd) N) f6), (aI G (rR (sid kd) N) f7)])) (RW_cons hc0 (RW_cons hc5 (RW_cons hc6 (RW_nil _ _)))).symm ?_
  refine r_iconst (v := nI 0) C dX4_firstRow_0 (by decide) ?_
  refine r_istore_n (lv2 := [(2, .int (nI 0)), (0, .ref va), (1, .int (nI r))]) C dX4_firstRow_1 rfl (by decide) rfl ?_
  refine r_iload_n C dX4_firstRow_2 rfl 2 rfl ?_
  refine r_istore_n (lv2 := [(3, .int (nI r)), (2, .int (nI 0)), (0, .ref va), (1, .int (nI r))]) C dX4_firstRow_3 rfl (by decide) rfl ?_
  refine r_aload_n C dX4_firstRow_4 rfl 2 rfl ?_
  refine r_iload_n C dX4_firstRow_5 rfl 3 rfl ?_
  refine r_callV (As := [.int (nI r)]) C (c_X4_turnsFrom (va := va) (sa := sa) (la := la) (kd := kd) (N := N) (sr := sr) (cfl := cfl) (sv := sv) (tk := tk) (wk := wk) (f3 := f3) (f5 := f5) (f6 := f6) (f7 := f7) (dd := dd) (r := r) (RW_at0 rfl) ((RW_ne (m := 3) rfl (by omega)).trans hc1) ((RW_ne (m := 3) rfl (by omega)).trans hc2) ((RW_ne (m := 3) rfl (by omega)).trans hc3) ((RW_ne (m := 3) rfl (by omega)).trans hc4) (RW_at 1 rfl) (RW_at 2 rfl) (by first | assumption | omega) (by first | assumption | omega) (by first | assumption | omega) (by first | assumption | omega) (by first | assumption | omega) (by first | assumption | omega) (by first | assumption | omega) (by first | assumption | omega) (by first | assumption | omega)) wM_X4_54 wI_X4_turnsFrom wN_X4 wC_X4_turnsFrom wV_X4_turnsFrom hd_X4_turnsFrom ⟨Nat.le_of_ble_eq_true rfl, Nat.le_of_ble_eq_true rfl⟩ rfl (RW_at0 rfl) rfl rfl (Nat.le_of_ble_eq_true rfl) dX4_firstRow_6 ⟨(Nat.le_of_ble_eq_true rfl), (Nat.le_of_ble_eq_true rfl)⟩ (fun rv n2 σ2 hp => ?_)
  obtain ⟨rfl, rfl, n9, rfl, hn9⟩ := hp
  refine V.eq (σ2 := (RW (RW σ va [(.inr (4, [.ref sa, .ref la, .ref (va + 1), .int (bI tk), .ref (va + 2), .int (bI wk)])), (aI G (rR (sid kd) N) f6), (aI G (rR (sid kd) N) f7)]) va [(.inr (4, [.ref sa, .ref la, .ref (va + 1), .int (bI true), .ref (va + 2), .int (bI wk)])), (aI G (rR (sid kd) N) n9), (aI G (rR (sid kd) N) f7)])) (n2 := n) (st2 := [.int (cI (dd r))]) rfl rfl rfl rfl ?_
  refine V.hp (σ2 := (RW σ va [(.inr (4, [.ref sa, .ref la, .ref (va + 1), .int (bI true), .ref (va + 2), .int (bI wk)])), (aI G (rR (sid kd) N) n9), (aI G (rR (sid kd) N) f7)])) (RW_in0 (m := 3) rfl (Nat.le_of_ble_eq_true rfl) rfl) ?_
  refine V.top (y := nI (dd r)) (cI_n (by omega)) ?_
  refine r_istore (lv2 := [(4, .int (nI (dd r))), (3, .int (nI r)), (2, .int (nI 0)), (0, .ref va), (1, .int (nI r))]) C dX4_firstRow_9 (by decide) rfl ?_
  have L11 : ∀ (fu : Nat) (q : Nat) (row : Nat), (q < rR (sid kd) N) → (dd q ≤ 9) → (fwR kd sr N dd (dd q) q row = fwR kd sr N dd (dd r) r 0) → (dd q) < fu → V p l e rm_X4_firstRow s m args below meth c G 6 (MQ below (gQ G po) args s rm_X4_firstRow.cells rm_X4_firstRow.slots (gF G)) 0 0 n (RW σ va [(.inr (4, [.ref sa, .ref la, .ref (va + 1), .int (bI true), .ref (va + 2), .int (bI wk)])), (aI G (rR (sid kd) N) n9), (aI G (rR (sid kd) N) f7)]) 11 [(0, .ref va), (1, .int (nI r)), (2, .int (nI row)), (3, .int (nI q)), (4, .int (nI (dd q)))] [] := by
    intro fu
    induction fu with
    | zero => intro q row hqR hq9 hrow hm; exact absurd hm (Nat.not_lt_zero _)
    | succ fu ih11 =>
      intro q row hqR hq9 hrow hm11
      refine r_iload C dX4_firstRow_11 4 rfl ?_
      refine r_if_leN (tgt := 52) C dX4_firstRow_13 (by decide) (by omega) (fun c13 => ?_) (fun c13 => ?_)
      · rw [fwR_0 c13] at hrow
        refine r_iload_n C dX4_firstRow_52 rfl 2 rfl ?_
        exact r_iret C hr hlocks (Nat.le_of_ble_eq_true rfl) (Nat.le_of_ble_eq_true rfl) dX4_firstRow_53 (hpo _ _ _ ⟨by rw [← hrow], rfl, n9, rfl, by omega⟩)
      · have hfs := fst_ok hso hdd hqR (by omega) (by omega)
        have hxl := nx_lt hL.2.1 hqR hfs.2.1
        refine r_aload_n C dX4_firstRow_16 rfl 0 rfl ?_
        refine r_iload_n C dX4_firstRow_17 rfl 3 rfl ?_
        refine r_iload C dX4_firstRow_18 4 rfl ?_
        refine r_iconst (v := nI 1) C dX4_firstRow_20 (by decide) ?_
        refine r_isubN C dX4_firstRow_21 (by omega) ?_
        refine r_callV (As := [.int (nI q), .int (nI ((dd q) - 1))]) C (c_X4_firstTurnToward (va := va) (sa := sa) (la := la) (kd := kd) (N := N) (sr := sr) (cfl := cfl) (sv := sv) (tk := true) (wk := wk) (f3 := f3) (f5 := f5) (f6 := n9) (r := q) (dd := dd) (RW_at0 rfl) ((RW_ne (m := 3) rfl (by omega)).trans hc1) ((RW_ne (m := 3) rfl (by omega)).trans hc2) ((RW_ne (m := 3) rfl (by omega)).trans hc3) ((RW_ne (m := 3) rfl (by omega)).trans hc4) (RW_at 1 rfl) (by first | assumption | omega) (by first | assumption | omega) (by first | assumption | omega) (by first | assumption | omega) (hqR) (hn9) (hdd) (by omega) (by omega)) wM_X4_58 wI_X4_firstTurnToward wN_X4 wC_X4_firstTurnToward wV_X4_firstTurnToward hd_X4_firstTurnToward ⟨Nat.le_of_ble_eq_true rfl, Nat.le_of_ble_eq_true rfl⟩ rfl (RW_at0 rfl) rfl rfl (Nat.le_of_ble_eq_true rfl) dX4_firstRow_22 ⟨(Nat.le_of_ble_eq_true rfl), (Nat.le_of_ble_eq_true rfl)⟩ (fun rv n2 σ2 hp => ?_)
        obtain ⟨rfl, rfl, rfl⟩ := hp
        refine V.eq (σ2 := (RW σ va [(.inr (4, [.ref sa, .ref la, .ref (va + 1), .int (bI true), .ref (va + 2), .int (bI wk)])), (aI G (rR (sid kd) N) n9), (aI G (rR (sid kd) N) f7)])) (n2 := n) (st2 := [.int (nI (fst9 kd sr N dd q))]) rfl rfl rfl rfl ?_
        refine r_istore (lv2 := [(5, .int (nI (fst9 kd sr N dd q))), (0, .ref va), (1, .int (nI r)), (2, .int (nI row)), (3, .int (nI q)), (4, .int (nI (dd q)))]) C dX4_firstRow_25 (by decide) rfl ?_
        refine r_iload_n C dX4_firstRow_27 rfl 3 rfl ?_
        refine r_bipush (v := nI 10) C dX4_firstRow_28 (by decide) ?_
        refine r_imulN C dX4_firstRow_30 ?_
        refine r_iload C dX4_firstRow_31 0 rfl ?_
        refine r_iaddN C dX4_firstRow_33 ?_
        refine r_istore_n (lv2 := [(2, .int (nI (row * 10 + (fst9 kd sr N dd q)))), (5, .int (nI (fst9 kd sr N dd q))), (0, .ref va), (1, .int (nI r)), (3, .int (nI q)), (4, .int (nI (dd q)))]) C dX4_firstRow_34 rfl (by decide) rfl ?_
        refine r_aload_n C dX4_firstRow_35 rfl 2 rfl ?_
        refine r_get (Cn := RX4) (T := TX4) (N := 6) (v := .ref la) C inlX4 (RW_at0 rfl) rfl 1 (by decide) wF_X4_28 (fun _ h => h) rfl dX4_firstRow_36 ?_
        refine r_iload_n C dX4_firstRow_39 rfl 4 rfl ?_
        refine r_iload C dX4_firstRow_40 1 rfl ?_
        refine r_callV (As := [.int (nI q), .int (nI (fst9 kd sr N dd q))]) C (c_X1_behind (la := la) (N := N) (cfl := cfl) (sb := (sid kd)) (f3 := f3) (r := q) (k := fst9 kd sr N dd q) ((RW_ne (m := 3) rfl (by omega)).trans hc3) ((RW_ne (m := 3) rfl (by omega)).trans hc4) (by first | assumption | omega) (by first | assumption | omega) (hqR) (hfs.1) (hfs.2.1)) wM_X4_62 wI_X1_behind wN_X1 wC_X1_behind wV_X1_behind hd_X1_behind ⟨Nat.le_of_ble_eq_true rfl, Nat.le_of_ble_eq_true rfl⟩ rfl ((RW_ne (m := 3) rfl (by omega)).trans hc3) rfl rfl (Nat.le_of_ble_eq_true rfl) dX4_firstRow_42 ⟨(Nat.le_of_ble_eq_true rfl), (Nat.le_of_ble_eq_true rfl)⟩ (fun rv n2 σ2 hp => ?_)
        obtain ⟨rfl, rfl, rfl⟩ := hp
        refine V.eq (σ2 := (RW σ va [(.inr (4, [.ref sa, .ref la, .ref (va + 1), .int (bI true), .ref (va + 2), .int (bI wk)])), (aI G (rR (sid kd) N) n9), (aI G (rR (sid kd) N) f7)])) (n2 := n) (st2 := [.int (nI (nx (sid kd) N q (fst9 kd sr N dd q)))]) rfl rfl rfl rfl ?_
        refine r_istore_n (lv2 := [(3, .int (nI (nx (sid kd) N q (fst9 kd sr N dd q)))), (2, .int (nI (row * 10 + (fst9 kd sr N dd q)))), (5, .int (nI (fst9 kd sr N dd q))), (0, .ref va), (1, .int (nI r)), (4, .int (nI (dd q)))]) C dX4_firstRow_45 rfl (by decide) rfl ?_
        refine r_iinc (v := nI ((dd q) - 1)) (lv2 := [(4, .int (nI ((dd q) - 1))), (3, .int (nI (nx (sid kd) N q (fst9 kd sr N dd q)))), (2, .int (nI (row * 10 + (fst9 kd sr N dd q)))), (5, .int (nI (fst9 kd sr N dd q))), (0, .ref va), (1, .int (nI r))]) C dX4_firstRow_46 (k := 5) rfl (nI_m1 (by omega)) (by decide) rfl ?_
        refine r_goto (tgt := 11) C dX4_firstRow_49 (by decide) ?_
        refine V.sub (lv2 := [(0, .ref va), (1, .int (nI r)), (2, .int (nI (row * 10 + (fst9 kd sr N dd q)))), (3, .int (nI (nx (sid kd) N q (fst9 kd sr N dd q)))), (4, .int (nI ((dd q) - 1)))]) [4, 5, 2, 1, 0] rfl ?_
        refine V.eq (σ2 := (RW σ va [(.inr (4, [.ref sa, .ref la, .ref (va + 1), .int (bI true), .ref (va + 2), .int (bI wk)])), (aI G (rR (sid kd) N) n9), (aI G (rR (sid kd) N) f7)])) (lv2 := [(0, .ref va), (1, .int (nI r)), (2, .int (nI (row * 10 + (fst9 kd sr N dd q)))), (3, .int (nI (nx (sid kd) N q (fst9 kd sr N dd q)))), (4, .int (nI (dd (nx (sid kd) N q (fst9 kd sr N dd q)))))]) (st2 := []) rfl rfl (by rw [(show nI ((dd q) - 1) = nI (dd (nx (sid kd) N q (fst9 kd sr N dd q))) from congrArg nI hfs.2.2.1.2.symm)]) rfl ?_
        exact ih11 (nx (sid kd) N q (fst9 kd sr N dd q)) (row * 10 + (fst9 kd sr N dd q)) (hxl) (by have := hfs.2.2.1.2; omega) (by rw [← hrow]; exact fwR_s2 hfs (by omega)) (by have := hfs.2.2.1.2; omega)
  refine V.sub (lv2 := [(0, .ref va), (1, .int (nI r)), (2, .int (nI 0)), (3, .int (nI r)), (4, .int (nI (dd r)))]) [3, 4, 2, 1, 0] rfl ?_
  exact L11 _ r 0 (hrk) (h9) (rfl) (Nat.lt_succ_self _)
