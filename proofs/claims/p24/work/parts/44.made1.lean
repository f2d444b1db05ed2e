theorem RW_one (σ : gS) (b : Nat) (e : va_E) : hU σ b e = RW σ b [e] := by
  funext q
  by_cases g : q = b
  · rw [g, hU_at, RW_at0 rfl]
  · rw [hU_ne g, RW_ne (m := 1) rfl (by omega)]
theorem RW_app {σ : gS} {b m : Nat} {L L' L2 : List va_E} (hm : L.length = m) (h : L ++ L' = L2) : RW (RW σ b L) (b + m) L' = RW σ b L2 := by
  subst h; subst hm
  funext q
  by_cases z : b + L.length ≤ q ∧ q < b + L.length + L'.length
  · rw [RW, if_pos z, RW, if_pos (by rw [List.length_append]; omega), List.getElem?_append_right (by omega)]
    congr 1
    omega
  · rw [RW, if_neg z]
    by_cases y : b ≤ q ∧ q < b + L.length
    · rw [RW, if_pos y, RW, if_pos (by rw [List.length_append]; omega), List.getElem?_append_left (by omega)]
    · rw [RW, if_neg y, RW, if_neg (by rw [List.length_append]; omega)]
theorem RW_snoc {σ : gS} {b m : Nat} {L L2 : List va_E} {e : va_E} (hm : L.length = m) (h : L ++ [e] = L2) : hU (RW σ b L) (b + m) e = RW σ b L2 := by
  rw [RW_one, RW_app hm h]
theorem RW_over {σ : gS} {b : Nat} {L L' : List va_E} (h : L.length ≤ L'.length) : RW (RW σ b L) b L' = RW σ b L' := by
  funext q
  by_cases z : b ≤ q ∧ q < b + L'.length
  · rw [RW, if_pos z, RW, if_pos z]
  · rw [RW, if_neg z, RW, if_neg (by omega), RW, if_neg z]

abbrev rm_X4_init : Room := { frames := 3, cells := 2, slots := 7680, locals := 80 }
set_option maxRecDepth 100000 in
set_option maxHeartbeats 4000000 in
theorem c_X4_init {l : Launch} {G : gG} {σ : gS} {va sa la : Nat} {kd N sr cfl : Nat} {sv : Value} (hc0 : σ va = some (.inr (4, [.null, .null, .null, .int (nI 0), .null, .int (nI 0)]))) (hc1 : σ sa = some (.inr (2, [.int (nI kd), .int (nI sr), .int (nI N), .ref la, .ref (sa + 1), sv]))) (hc2 : σ la = some (.inr (1, [.int (nI N), .int (nI (rR (sid kd) N)), .int (nI (sbN (sid kd) N)), .int (nI (sm (sid kd) N - 1)), .ref (la + 1), .ref (la + 2), .ref (la + 3), .ref (la + 4)]))) (hL : LOK (sid kd) N) (hap : sa < va) (hap2 : la < va) : GM l G yX4_init cX4_init 2 none rm_X4_init (va + 1) σ [.ref va, .ref sa] (fun rv n2 σ2 => (none : Option Value) = rv ∧ va + 3 = n2 ∧ (RW σ va [(.inr (4, [.ref sa, .ref la, .ref (va + 1), .int (nI 0), .ref (va + 2), .int (nI 0)])), (aI G (rR (sid kd) N) (fun _ => 0)), (aI G (rR (sid kd) N) (fun _ => 0))]) = σ2) := by
  refine GM.intro (by decide +kernel) (Nat.le_of_ble_eq_true rfl) (fun p e s m args below meth c C hr hlocks hname po hpo => ?_)
  have C : Cx p s m args c cX4_init 2 RX4 G := C
  have hb9 := hL.b
  refine V.hp (σ2 := (RW σ va [(.inr (4, [.null, .null, .null, .int (nI 0), .null, .int (nI 0)]))])) (RW_cons hc0 (RW_nil _ _)).symm ?_
  refine r_aload_n C dX4_init_0 rfl 0 rfl ?_
  refine r_objInit C wM_X4_3 wI_objectInit wC_objectInit (by decide) dX4_init_1 (by decide) (by decide) ?_
  refine r_aload_n C dX4_init_4 rfl 0 rfl ?_
  refine r_iconst (v := nI 0) C dX4_init_5 (by decide) ?_
  refine r_put (Cn := RX4) (T := TX4) (N := 6) (fs2 := [.null, .null, .null, .int (nI 0), .null, .int (nI 0)]) C inlX4 tyX4 tyX4_ok nmX4 (RW_at0 rfl) rfl 3 (by decide) wF_X4_9 (fun _ h => h) rfl (tyX4_ok 3 (by decide)) (by decide) rfl (Nat.le_of_ble_eq_true rfl) rfl dX4_init_6 ?_
  refine V.hp (σ2 := (RW σ va [(.inr (4, [.null, .null, .null, .int (nI 0), .null, .int (nI 0)]))])) (RW_set0 (Nat.le_of_ble_eq_true rfl) rfl) ?_
  refine r_aload_n C dX4_init_9 rfl 0 rfl ?_
  refine r_iconst (v := nI 0) C dX4_init_10 (by decide) ?_
  refine r_put (Cn := RX4) (T := TX4) (N := 6) (fs2 := [.null, .null, .null, .int (nI 0), .null, .int (nI 0)]) C inlX4 tyX4 tyX4_ok nmX4 (RW_at0 rfl) rfl 5 (by decide) wF_X4_15 (fun _ h => h) rfl (tyX4_ok 5 (by decide)) (by decide) rfl (Nat.le_of_ble_eq_true rfl) rfl dX4_init_11 ?_
  refine V.hp (σ2 := (RW σ va [(.inr (4, [.null, .null, .null, .int (nI 0), .null, .int (nI 0)]))])) (RW_set0 (Nat.le_of_ble_eq_true rfl) rfl) ?_
  refine r_aload_n C dX4_init_14 rfl 0 rfl ?_
  refine r_aload_n C dX4_init_15 rfl 1 rfl ?_
  refine r_putF (Cn := RX4) (T := TX4) (N := 6) (fs2 := [.ref sa, .null, .null, .int (nI 0), .null, .int (nI 0)]) C inlX4 tyX4 tyX4_ok nmX4 (RW_at0 rfl) rfl 0 (by decide) wF_X4_18 (fun _ h => h) rfl hname rfl (tyX4_ok 0 (by decide)) rfl rfl (Nat.le_of_ble_eq_true rfl) rfl dX4_init_16 ?_
  refine V.hp (σ2 := (RW σ va [(.inr (4, [.ref sa, .null, .null, .int (nI 0), .null, .int (nI 0)]))])) (RW_set0 (Nat.le_of_ble_eq_true rfl) rfl) ?_
  refine r_aload_n C dX4_init_19 rfl 0 rfl ?_
  refine r_aload_n C dX4_init_20 rfl 1 rfl ?_
  refine r_get (Cn := RX2) (T := TX2) (N := 6) (v := .ref la) C inlX2 ((RW_ne (m := 1) rfl (by omega)).trans hc1) rfl 3 (by decide) wF_X4_22 (fun _ h => h) rfl dX4_init_21 ?_
  refine r_putF (Cn := RX4) (T := TX4) (N := 6) (fs2 := [.ref sa, .ref la, .null, .int (nI 0), .null, .int (nI 0)]) C inlX4 tyX4 tyX4_ok nmX4 (RW_at0 rfl) rfl 1 (by decide) wF_X4_28 (fun _ h => h) rfl hname rfl (tyX4_ok 1 (by decide)) rfl rfl (Nat.le_of_ble_eq_true rfl) rfl dX4_init_24 ?_
  refine V.hp (σ2 := (RW σ va [(.inr (4, [.ref sa, .ref la, .null, .int (nI 0), .null, .int (nI 0)]))])) (RW_set0 (Nat.le_of_ble_eq_true rfl) rfl) ?_
  refine r_aload_n C dX4_init_27 rfl 0 rfl ?_
  refine r_aload_n C dX4_init_28 rfl 0 rfl ?_
  refine r_get (Cn := RX4) (T := TX4) (N := 6) (v := .ref la) C inlX4 (RW_at0 rfl) rfl 1 (by decide) wF_X4_28 (fun _ h => h) rfl dX4_init_29 ?_
  refine r_get (Cn := RX1) (T := TX1) (N := 8) (v := .int (nI (rR (sid kd) N))) C inlX1 ((RW_ne (m := 1) rfl (by omega)).trans hc2) rfl 1 (by decide) wF_X4_29 (fun _ h => h) rfl dX4_init_32 ?_
  refine r_callSN (As := [.int (nI (rR (sid kd) N))]) C (c_X6_newRow (len := rR (sid kd) N)  (by omega)) wZ_X4_35 wS_X6_newRow wN_X6 wC_X6_newRow hd_X6_newRow ⟨Nat.le_of_ble_eq_true rfl, Nat.le_of_ble_eq_true rfl⟩ rfl rfl (Nat.le_of_ble_eq_true rfl) dX4_init_35 ⟨(Nat.le_of_ble_eq_true rfl), (by show 0 + (rR (sid kd) N) ≤ 7680; omega)⟩ (fun rv n2 σ2 hp => ?_)
  obtain ⟨rfl, rfl, rfl⟩ := hp
  refine V.eq (σ2 := (hU (RW σ va [(.inr (4, [.ref sa, .ref la, .null, .int (nI 0), .null, .int (nI 0)]))]) (va + 1) (aI G (rR (sid kd) N) (fun _ => 0)))) (n2 := va + 2) (st2 := [.ref (va + 1), .ref va]) rfl rfl rfl rfl ?_
  refine V.hp (σ2 := (RW σ va [(.inr (4, [.ref sa, .ref la, .null, .int (nI 0), .null, .int (nI 0)])), (aI G (rR (sid kd) N) (fun _ => 0))])) (RW_snoc (m := 1) rfl rfl) ?_
  refine r_putF (Cn := RX4) (T := TX4) (N := 6) (fs2 := [.ref sa, .ref la, .ref (va + 1), .int (nI 0), .null, .int (nI 0)]) C inlX4 tyX4 tyX4_ok nmX4 (RW_at0 rfl) rfl 2 (by decide) wF_X4_39 (fun _ h => h) rfl hname rfl (tyX4_ok 2 (by decide)) rfl rfl (Nat.le_of_ble_eq_true rfl) rfl dX4_init_38 ?_
  refine V.hp (σ2 := (RW σ va [(.inr (4, [.ref sa, .ref la, .ref (va + 1), .int (nI 0), .null, .int (nI 0)])), (aI G (rR (sid kd) N) (fun _ => 0))])) (RW_set0 (Nat.le_of_ble_eq_true rfl) rfl) ?_
  refine r_aload_n C dX4_init_41 rfl 0 rfl ?_
  refine r_aload_n C dX4_init_42 rfl 0 rfl ?_
  refine r_get (Cn := RX4) (T := TX4) (N := 6) (v := .ref la) C inlX4 (RW_at0 rfl) rfl 1 (by decide) wF_X4_28 (fun _ h => h) rfl dX4_init_43 ?_
  refine r_get (Cn := RX1) (T := TX1) (N := 8) (v := .int (nI (rR (sid kd) N))) C inlX1 ((RW_ne (m := 2) rfl (by omega)).trans hc2) rfl 1 (by decide) wF_X4_29 (fun _ h => h) rfl dX4_init_46 ?_
  refine r_callSN (As := [.int (nI (rR (sid kd) N))]) C (c_X6_newRow (len := rR (sid kd) N)  (by omega)) wZ_X4_35 wS_X6_newRow wN_X6 wC_X6_newRow hd_X6_newRow ⟨Nat.le_of_ble_eq_true rfl, Nat.le_of_ble_eq_true rfl⟩ rfl rfl (Nat.le_of_ble_eq_true rfl) dX4_init_49 ⟨(Nat.le_of_ble_eq_true rfl), (by show (0 + (rR (sid kd) N)) + (rR (sid kd) N) ≤ 7680; omega)⟩ (fun rv n2 σ2 hp => ?_)
  obtain ⟨rfl, rfl, rfl⟩ := hp
  refine V.eq (σ2 := (hU (RW σ va [(.inr (4, [.ref sa, .ref la, .ref (va + 1), .int (nI 0), .null, .int (nI 0)])), (aI G (rR (sid kd) N) (fun _ => 0))]) (va + 2) (aI G (rR (sid kd) N) (fun _ => 0)))) (n2 := va + 3) (st2 := [.ref (va + 2), .ref va]) rfl rfl rfl rfl ?_
  refine V.hp (σ2 := (RW σ va [(.inr (4, [.ref sa, .ref la, .ref (va + 1), .int (nI 0), .null, .int (nI 0)])), (aI G (rR (sid kd) N) (fun _ => 0)), (aI G (rR (sid kd) N) (fun _ => 0))])) (RW_snoc (m := 2) rfl rfl) ?_
  refine r_putF (Cn := RX4) (T := TX4) (N := 6) (fs2 := [.ref sa, .ref la, .ref (va + 1), .int (nI 0), .ref (va + 2), .int (nI 0)]) C inlX4 tyX4 tyX4_ok nmX4 (RW_at0 rfl) rfl 4 (by decide) wF_X4_43 (fun _ h => h) rfl hname rfl (tyX4_ok 4 (by decide)) rfl rfl (Nat.le_of_ble_eq_true rfl) rfl dX4_init_52 ?_
  refine V.hp (σ2 := (RW σ va [(.inr (4, [.ref sa, .ref la, .ref (va + 1), .int (nI 0), .ref (va + 2), .int (nI 0)])), (aI G (rR (sid kd) N) (fun _ => 0)), (aI G (rR (sid kd) N) (fun _ => 0))])) (RW_set0 (Nat.le_of_ble_eq_true rfl) rfl) ?_
  exact r_vret C hr hlocks (Nat.le_of_ble_eq_true rfl) (by show (0 + (rR (sid kd) N)) + (rR (sid kd) N) ≤ 7680; omega) dX4_init_55 (hpo _ _ _ ⟨rfl, rfl, rfl⟩)

abbrev rm_X2_solver_y : Room := { frames := 0, cells := 0, slots := 0, locals := 0 }
set_option maxRecDepth 100000 in
set_option maxHeartbeats 4000000 in
theorem c_X2_solver_y {l : Launch} {G : gG} {n : Nat} {σ : gS} {sa la va : Nat} {kd N sr : Nat} (hc0 : σ sa = some (.inr (2, [.int (nI kd), .int (nI sr), .int (nI N), .ref la, .ref (sa + 1), .ref va]))) (hL : LOK (sid kd) N) : GM l G yX2_solver cX2_solver 1 (some (.object "TurnTops$Solver")) rm_X2_solver_y n σ [.ref sa] (fun rv n2 σ2 => some (.ref va) = rv ∧ n = n2 ∧ σ = σ2) := by
  refine GM.intro (by decide +kernel) (Nat.le_of_ble_eq_true rfl) (fun p e s m args below meth c C hr hlocks hname po hpo => ?_)
  have C : Cx p s m args c cX2_solver 1 RX2 G := C
  have hb9 := hL.b
  refine r_aload_n C dX2_solver_0 rfl 0 rfl ?_
  refine r_get (Cn := RX2) (T := TX2) (N := 6) (v := .ref va) C inlX2 hc0 rfl 5 (by decide) wF_X2_9 (fun _ h => h) rfl dX2_solver_1 ?_
  refine r_ifnonnull (tgt := 19) C dX2_solver_4 (by decide) ?_
  refine r_aload_n C dX2_solver_19 rfl 0 rfl ?_
  refine r_get (Cn := RX2) (T := TX2) (N := 6) (v := .ref va) C inlX2 hc0 rfl 5 (by decide) wF_X2_9 (fun _ h => h) rfl dX2_solver_20 ?_
  exact r_aret C (Or.inl ⟨_, rfl⟩) (Or.inr ⟨_, rfl⟩) hr hlocks (Nat.le_of_ble_eq_true rfl) (Nat.le_of_ble_eq_true rfl) dX2_solver_23 (hpo _ _ _ ⟨rfl, rfl, rfl⟩)

abbrev rm_X2_solver_n : Room := { frames := 4, cells := 3, slots := 7686, locals := 101 }
set_option maxRecDepth 100000 in
set_option maxHeartbeats 4000000 in
theorem c_X2_solver_n {l : Launch} {G : gG} {n : Nat} {σ : gS} {sa la : Nat} {kd N sr cfl : Nat} (hc0 : σ sa = some (.inr (2, [.int (nI kd), .int (nI sr), .int (nI N), .ref la, .ref (sa + 1), .null]))) (hc1 : σ la = some (.inr (1, [.int (nI N), .int (nI (rR (sid kd) N)), .int (nI (sbN (sid kd) N)), .int (nI (sm (sid kd) N - 1)), .ref (la + 1), .ref (la + 2), .ref (la + 3), .ref (la + 4)]))) (hL : LOK (sid kd) N) (hap : sa < n) (hap2 : la < n) : GM l G yX2_solver cX2_solver 1 (some (.object "TurnTops$Solver")) rm_X2_solver_n n σ [.ref sa] (fun rv n2 σ2 => some (.ref n) = rv ∧ n + 3 = n2 ∧ (hU (RW σ n [(.inr (4, [.ref sa, .ref la, .ref (n + 1), .int (nI 0), .ref (n + 2), .int (nI 0)])), (aI G (rR (sid kd) N) (fun _ => 0)), (aI G (rR (sid kd) N) (fun _ => 0))]) sa (.inr (2, [.int (nI kd), .int (nI sr), .int (nI N), .ref la, .ref (sa + 1), .ref n]))) = σ2) := by
  refine GM.intro (by decide +kernel) (Nat.le_of_ble_eq_true rfl) (fun p e s m args below meth c C hr hlocks hname po hpo => ?_)
  have C : Cx p s m args c cX2_solver 1 RX2 G := C
  have hb9 := hL.b
  refine r_aload_n C dX2_solver_0 rfl 0 rfl ?_
  refine r_get (Cn := RX2) (T := TX2) (N := 6) (v := .null) C inlX2 hc0 rfl 5 (by decide) wF_X2_9 (fun _ h => h) rfl dX2_solver_1 ?_
  refine r_ifnonnullN C dX2_solver_4 ?_
  refine r_aload_n C dX2_solver_7 rfl 0 rfl ?_
  refine r_new (fs := [.null, .null, .null, .int (nI 0), .null, .int (nI 0)]) C inlX4 tyX4 tyX4_ok wK_X2_55 wB_X4 wN_X4 (ci := 4) rfl (by decide) (Nat.le_of_ble_eq_true rfl) (Nat.le_of_ble_eq_true rfl) dX2_solver_8 ?_
  refine V.eq (σ2 := (hU σ n (.inr (4, [.null, .null, .null, .int (nI 0), .null, .int (nI 0)])))) (n2 := n + 1) rfl rfl rfl rfl ?_
  refine V.hp (σ2 := (RW σ n [(.inr (4, [.null, .null, .null, .int (nI 0), .null, .int (nI 0)]))])) (RW_one _ _ _) ?_
  refine r_dup C dX2_solver_11 rfl ?_
  refine r_aload_n C dX2_solver_12 rfl 0 rfl ?_
  refine r_callI (As := [.ref sa]) C (c_X4_init (va := n) (sa := sa) (la := la) (kd := kd) (N := N) (sr := sr) (cfl := cfl) (sv := .null) (RW_at0 rfl) ((RW_ne (m := 1) rfl (by omega)).trans hc0) ((RW_ne (m := 1) rfl (by omega)).trans hc1) (by first | assumption | omega) (by first | assumption | omega) (by first | assumption | omega)) wM_X2_57 wI_X4_init wN_X4 wC_X4_init rfl hd_X4_init ⟨Nat.le_of_ble_eq_true rfl, Nat.le_of_ble_eq_true rfl⟩ rfl rfl (Nat.le_of_ble_eq_true rfl) dX2_solver_13 ⟨(Nat.le_of_ble_eq_true rfl), (Nat.le_of_ble_eq_true rfl)⟩ (fun rv n2 σ2 hp => ?_)
  obtain ⟨rfl, rfl, rfl⟩ := hp
  refine V.eq (σ2 := (RW (RW σ n [(.inr (4, [.null, .null, .null, .int (nI 0), .null, .int (nI 0)]))]) n [(.inr (4, [.ref sa, .ref la, .ref (n + 1), .int (nI 0), .ref (n + 2), .int (nI 0)])), (aI G (rR (sid kd) N) (fun _ => 0)), (aI G (rR (sid kd) N) (fun _ => 0))])) (n2 := n + 3) (st2 := [.ref n, .ref sa]) rfl rfl rfl rfl ?_
  refine V.hp (σ2 := (RW σ n [(.inr (4, [.ref sa, .ref la, .ref (n + 1), .int (nI 0), .ref (n + 2), .int (nI 0)])), (aI G (rR (sid kd) N) (fun _ => 0)), (aI G (rR (sid kd) N) (fun _ => 0))])) (RW_over (Nat.le_of_ble_eq_true rfl)) ?_
  refine r_put (Cn := RX2) (T := TX2) (N := 6) (fs2 := [.int (nI kd), .int (nI sr), .int (nI N), .ref la, .ref (sa + 1), .ref n]) C inlX2 tyX2 tyX2_ok nmX2 ((RW_ne (m := 3) rfl (by omega)).trans hc0) rfl 5 (by decide) wF_X2_9 (fun _ h => h) rfl (tyX2_ok 5 (by decide)) rfl rfl (Nat.le_of_ble_eq_true rfl) rfl dX2_solver_16 ?_
  refine r_aload_n C dX2_solver_19 rfl 0 rfl ?_
  refine r_get (Cn := RX2) (T := TX2) (N := 6) (v := .ref n) C inlX2 (hU_at _ _ _) rfl 5 (by decide) wF_X2_9 (fun _ h => h) rfl dX2_solver_20 ?_
  exact r_aret C (Or.inl ⟨_, rfl⟩) (Or.inr ⟨_, rfl⟩) hr hlocks (Nat.le_of_ble_eq_true rfl) (Nat.le_of_ble_eq_true rfl) dX2_solver_23 (hpo _ _ _ ⟨rfl, rfl, rfl⟩)

abbrev rm_X2_init : Room := { frames := 3, cells := 1, slots := 3840, locals := 80 }
set_option maxRecDepth 100000 in
set_option maxHeartbeats 4000000 in
theorem c_X2_init {l : Launch} {G : gG} {σ : gS} {sa la : Nat} {kd N sr cfl : Nat} {f2 : Nat → Int32} {f4 : Nat → Int32} (hc0 : σ sa = some (.inr (2, [.int (nI 0), .int (nI 0), .int (nI 0), .null, .null, .null]))) (hc1 : σ la = some (.inr (1, [.int (nI N), .int (nI (rR (sid kd) N)), .int (nI (sbN (sid kd) N)), .int (nI (sm (sid kd) N - 1)), .ref (la + 1), .ref (la + 2), .ref (la + 3), .ref (la + 4)]))) (hc2 : σ (la + 2) = some (aI G (fac N * N) f2)) (hc3 : σ (la + 4) = some (aI G (rR (sid kd) N) f4)) (hL : LOK (sid kd) N) (hkd : kd < 4) (hsr : sr ≤ 21) (h2 : ∀ o, o < fac N → ∀ j, j < N → f2 (o * N + j) = nI (sz N o j)) (h4 : ∀ r, r < rR (sid kd) N → f4 r = nI (jw (sid kd) N r)) (hap : la + 4 < sa) : GM l G yX2_init cX2_init 5 none rm_X2_init (sa + 1) σ [.ref sa, .int (nI kd), .int (nI sr), .ref la] (fun rv n2 σ2 => (none : Option Value) = rv ∧ sa + 2 = n2 ∧ ∃ (g5 : Nat → Int32), (RW σ sa [(.inr (2, [.int (nI kd), .int (nI sr), .int (nI N), .ref la, .ref (sa + 1), .null])), (aI G (rR (sid kd) N) g5)]) = σ2 ∧ (∀ r, r < rR (sid kd) N → g5 r = nI (psR kd sr N r))) := by
  refine GM.intro (by decide +kernel) (Nat.le_of_ble_eq_true rfl) (fun p e s m args below meth c C hr hlocks hname po hpo => ?_)
  have C : Cx p s m args c cX2_init 5 RX2 G := C
  have hb9 := hL.b
  refine V.hp (σ2 := (RW σ sa [(.inr (2, [.int (nI 0), .int (nI 0), .int (nI 0), .null, .null, .null]))])) (RW_cons hc0 (RW_nil _ _)).symm ?_
  refine r_aload_n C dX2_init_0 rfl 0 rfl ?_
  refine r_objInit C wM_X2_3 wI_objectInit wC_objectInit (by decide) dX2_init_1 (by decide) (by decide) ?_
  refine r_aload_n C dX2_init_4 rfl 0 rfl ?_
  refine r_null C dX2_init_5 ?_
  refine r_put (Cn := RX2) (T := TX2) (N := 6) (fs2 := [.int (nI 0), .int (nI 0), .int (nI 0), .null, .null, .null]) C inlX2 tyX2 tyX2_ok nmX2 (RW_at0 rfl) rfl 5 (by decide) wF_X2_9 (fun _ h => h) rfl (tyX2_ok 5 (by decide)) rfl rfl (Nat.le_of_ble_eq_true rfl) rfl dX2_init_6 ?_
  refine V.hp (σ2 := (RW σ sa [(.inr (2, [.int (nI 0), .int (nI 0), .int (nI 0), .null, .null, .null]))])) (RW_set0 (Nat.le_of_ble_eq_true rfl) rfl) ?_
  refine r_aload_n C dX2_init_9 rfl 0 rfl ?_
  refine r_iload_n C dX2_init_10 rfl 1 rfl ?_
  refine r_putF (Cn := RX2) (T := TX2) (N := 6) (fs2 := [.int (nI kd), .int (nI 0), .int (nI 0), .null, .null, .null]) C inlX2 tyX2 tyX2_ok nmX2 (RW_at0 rfl) rfl 0 (by decide) wF_X2_15 (fun _ h => h) rfl hname rfl (tyX2_ok 0 (by decide)) rfl rfl (Nat.le_of_ble_eq_true rfl) rfl dX2_init_11 ?_
  refine V.hp (σ2 := (RW σ sa [(.inr (2, [.int (nI kd), .int (nI 0), .int (nI 0), .null, .null, .null]))])) (RW_set0 (Nat.le_of_ble_eq_true rfl) rfl) ?_
  refine r_aload_n C dX2_init_14 rfl 0 rfl ?_
  refine r_iload_n C dX2_init_15 rfl 2 rfl ?_
  refine r_putF (Cn := RX2) (T := TX2) (N := 6) (fs2 := [.int (nI kd), .int (nI sr), .int (nI 0), .null, .null, .null]) C inlX2 tyX2 tyX2_ok nmX2 (RW_at0 rfl) rfl 1 (by decide) wF_X2_19 (fun _ h => h) rfl hname rfl (tyX2_ok 1 (by decide)) rfl rfl (Nat.le_of_ble_eq_true rfl) rfl dX2_init_16 ?_
  refine V.hp (σ2 := (RW σ sa [(.inr (2, [.int (nI kd), .int (nI sr), .int (nI 0), .null, .null, .null]))])) (RW_set0 (Nat.le_of_ble_eq_true rfl) rfl) ?_
  refine r_aload_n C dX2_init_19 rfl 0 rfl ?_
  refine r_aload_n C dX2_init_20 rfl 3 rfl ?_
  refine r_putF (Cn := RX2) (T := TX2) (N := 6) (fs2 := [.int (nI kd), .int (nI sr), .int (nI 0), .ref la, .null, .null]) C inlX2 tyX2 tyX2_ok nmX2 (RW_at0 rfl) rfl 3 (by decide) wF_X2_22 (fun _ h => h) rfl hname rfl (tyX2_ok 3 (by decide)) rfl rfl (Nat.le_of_ble_eq_true rfl) rfl dX2_init_21 ?_
  refine V.hp (σ2 := (RW σ sa [(.inr (2, [.int (nI kd), .int (nI sr), .int (nI 0), .ref la, .null, .null]))])) (RW_set0 (Nat.le_of_ble_eq_true rfl) rfl) ?_
  refine r_aload_n C dX2_init_24 rfl 0 rfl ?_
  refine r_aload_n C dX2_init_25 rfl 3 rfl ?_
  refine r_get (Cn := RX1) (T := TX1) (N := 8) (v := .int (nI N)) C inlX1 ((RW_ne (m := 1) rfl (by omega)).trans hc1) rfl 0 (by decide) wF_X2_26 (fun _ h => h) rfl dX2_init_26 ?_
  refine r_putF (Cn := RX2) (T := TX2) (N := 6) (fs2 := [.int (nI kd), .int (nI sr), .int (nI N), .ref la, .null, .null]) C inlX2 tyX2 tyX2_ok nmX2 (RW_at0 rfl) rfl 2 (by decide) wF_X2_31 (fun _ h => h) rfl hname rfl (tyX2_ok 2 (by decide)) rfl rfl (Nat.le_of_ble_eq_true rfl) rfl dX2_init_29 ?_
  refine V.hp (σ2 := (RW σ sa [(.inr (2, [.int (nI kd), .int (nI sr), .int (nI N), .ref la, .null, .null]))])) (RW_set0 (Nat.le_of_ble_eq_true rfl) rfl) ?_
  refine r_aload_n C dX2_init_32 rfl 0 rfl ?_
  refine r_aload_n C dX2_init_33 rfl 3 rfl ?_
  refine r_get (Cn := RX1) (T := TX1) (N := 8) (v := .int (nI (rR (sid kd) N))) C inlX1 ((RW_ne (m := 1) rfl (by omega)).trans hc1) rfl 1 (by decide) wF_X2_32 (fun _ h => h) rfl dX2_init_34 ?_
  refine r_callSN (As := [.int (nI (rR (sid kd) N))]) C (c_X6_newRow (len := rR (sid kd) N)  (by omega)) wZ_X2_35 wS_X6_newRow wN_X6 wC_X6_newRow hd_X6_newRow ⟨Nat.le_of_ble_eq_true rfl, Nat.le_of_ble_eq_true rfl⟩ rfl rfl (Nat.le_of_ble_eq_true rfl) dX2_init_37 ⟨(Nat.le_of_ble_eq_true rfl), (by show 0 + (rR (sid kd) N) ≤ 3840; omega)⟩ (fun rv n2 σ2 hp => ?_)
  obtain ⟨rfl, rfl, rfl⟩ := hp
  refine V.eq (σ2 := (hU (RW σ sa [(.inr (2, [.int (nI kd), .int (nI sr), .int (nI N), .ref la, .null, .null]))]) (sa + 1) (aI G (rR (sid kd) N) (fun _ => 0)))) (n2 := sa + 2) (st2 := [.ref (sa + 1), .ref sa]) rfl rfl rfl rfl ?_
  refine V.hp (σ2 := (RW σ sa [(.inr (2, [.int (nI kd), .int (nI sr), .int (nI N), .ref la, .null, .null])), (aI G (rR (sid kd) N) (fun _ => 0))])) (RW_snoc (m := 1) rfl rfl) ?_
  refine r_putF (Cn := RX2) (T := TX2) (N := 6) (fs2 := [.int (nI kd), .int (nI sr), .int (nI N), .ref la, .ref (sa + 1), .null]) C inlX2 tyX2 tyX2_ok nmX2 (RW_at0 rfl) rfl 4 (by decide) wF_X2_39 (fun _ h => h) rfl hname rfl (tyX2_ok 4 (by decide)) rfl rfl (Nat.le_of_ble_eq_true rfl) rfl dX2_init_40 ?_
  refine V.hp (σ2 := (RW σ sa [(.inr (2, [.int (nI kd), .int (nI sr), .int (nI N), .ref la, .ref (sa + 1), .null])), (aI G (rR (sid kd) N) (fun _ => 0))])) (RW_set0 (Nat.le_of_ble_eq_true rfl) rfl) ?_
  refine r_iconst (v := nI 0) C dX2_init_43 (by decide) ?_
  refine r_istore (lv2 := [(4, .int (nI 0)), (0, .ref sa), (1, .int (nI kd)), (2, .int (nI sr)), (3, .ref la)]) C dX2_init_44 (by decide) rfl ?_
  have L46 : ∀ (fu : Nat) (i : Nat) (w5 : Nat → Int32), (i ≤ rR (sid kd) N) → (∀ r, r < i → w5 r = nI (psR kd sr N r)) → (rR (sid kd) N + 1 - i) < fu → V p l e rm_X2_init s m args below meth c G 5 (MQ below (gQ G po) args s rm_X2_init.cells rm_X2_init.slots (gF G)) 1 (0 + (rR (sid kd) N)) (sa + 2) (RW σ sa [(.inr (2, [.int (nI kd), .int (nI sr), .int (nI N), .ref la, .ref (sa + 1), .null])), (aI G (rR (sid kd) N) w5)]) 46 [(0, .ref sa), (1, .int (nI kd)), (2, .int (nI sr)), (3, .ref la), (4, .int (nI i))] [] := by
    intro fu
    induction fu with
    | zero => intro i w5 hi hw5 hm; exact absurd hm (Nat.not_lt_zero _)
    | succ fu ih46 =>
      intro i w5 hi hw5 hm46
      refine r_iload C dX2_init_46 4 rfl ?_
      refine r_aload_n C dX2_init_48 rfl 0 rfl ?_
      refine r_get (Cn := RX2) (T := TX2) (N := 6) (v := .ref (sa + 1)) C inlX2 (RW_at0 rfl) rfl 4 (by decide) wF_X2_39 (fun _ h => h) rfl dX2_init_49 ?_
      refine r_alenI C (RW_at 1 rfl) dX2_init_52 ?_
      refine r_icmp_geN (tgt := 75) C dX2_init_53 (by decide) (by omega) (by omega) (fun c53 => ?_) (fun c53 => ?_)
      · exact r_vret C hr hlocks (Nat.le_of_ble_eq_true rfl) (by show 0 + (rR (sid kd) N) ≤ 3840; omega) dX2_init_75 (hpo _ _ _ ⟨rfl, rfl, w5, rfl, fun r hr => hw5 r (by omega)⟩)
      · have hiR : i < rR (sid kd) N := by omega
        refine r_aload_n C dX2_init_56 rfl 0 rfl ?_
        refine r_get (Cn := RX2) (T := TX2) (N := 6) (v := .ref (sa + 1)) C inlX2 (RW_at0 rfl) rfl 4 (by decide) wF_X2_39 (fun _ h => h) rfl dX2_init_57 ?_
        refine r_iload C dX2_init_60 4 rfl ?_
        refine r_aload_n C dX2_init_62 rfl 0 rfl ?_
        refine r_iload C dX2_init_63 4 rfl ?_
        refine r_callV (As := [.int (nI i)]) C (c_X2_findPossible (sa := sa) (la := la) (kd := kd) (N := N) (sr := sr) (sv := .null) (f2 := f2) (f4 := f4) (r := i) (cfl := cfl) (RW_at0 rfl) ((RW_ne (m := 2) rfl (by omega)).trans hc1) ((RW_ne (m := 2) rfl (by omega)).trans hc2) ((RW_ne (m := 2) rfl (by omega)).trans hc3) (by first | assumption | omega) (by first | assumption | omega) (by first | assumption | omega) (by first | assumption | omega) (by first | assumption | omega) (by first | assumption | omega)) wM_X2_43 wI_X2_findPossible wN_X2 wC_X2_findPossible wV_X2_findPossible hd_X2_findPossible ⟨Nat.le_of_ble_eq_true rfl, Nat.le_of_ble_eq_true rfl⟩ rfl (RW_at0 rfl) rfl rfl (Nat.le_of_ble_eq_true rfl) dX2_init_65 ⟨(Nat.le_of_ble_eq_true rfl), (by show 0 + (rR (sid kd) N) ≤ 3840; omega)⟩ (fun rv n2 σ2 hp => ?_)
        obtain ⟨rfl, rfl, rfl⟩ := hp
        refine V.eq (σ2 := (RW σ sa [(.inr (2, [.int (nI kd), .int (nI sr), .int (nI N), .ref la, .ref (sa + 1), .null])), (aI G (rR (sid kd) N) w5)])) (n2 := sa + 2) (st2 := [.int (nI (psR kd sr N i)), .int (nI i), .ref (sa + 1)]) rfl rfl rfl rfl ?_
        refine r_iastN C (RW_at 1 rfl) (by omega) (by omega) dX2_init_68 ?_
        refine V.hp (σ2 := (RW σ sa [(.inr (2, [.int (nI kd), .int (nI sr), .int (nI N), .ref la, .ref (sa + 1), .null])), (aI G (rR (sid kd) N) (upd w5 i (nI (psR kd sr N i))))])) (RW_set 1 (Nat.le_of_ble_eq_true rfl) rfl) ?_
        refine r_iinc (v := nI (i + 1)) (lv2 := [(4, .int (nI (i + 1))), (0, .ref sa), (1, .int (nI kd)), (2, .int (nI sr)), (3, .ref la)]) C dX2_init_69 (k := 4) rfl (nI_add _ 1) (by decide) rfl ?_
        refine r_goto (tgt := 46) C dX2_init_72 (by decide) ?_
        refine V.sub (lv2 := [(0, .ref sa), (1, .int (nI kd)), (2, .int (nI sr)), (3, .ref la), (4, .int (nI (i + 1)))]) [1, 2, 3, 4, 0] rfl ?_
        exact ih46 (i + 1) (upd w5 i (nI (psR kd sr N i))) (by omega) (fun r hr => upd_step (g := fun r => nI (psR kd sr N r)) hr hw5 rfl) (by omega)
  refine V.sub (lv2 := [(0, .ref sa), (1, .int (nI kd)), (2, .int (nI sr)), (3, .ref la), (4, .int (nI 0))]) [1, 2, 3, 4, 0] rfl ?_
  exact L46 _ 0 (fun _ => 0) (by omega) (fun r hr => absurd hr (Nat.not_lt_zero r)) (Nat.lt_succ_self _)
