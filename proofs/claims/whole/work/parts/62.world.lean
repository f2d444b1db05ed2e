abbrev rm_X7_init : Room := { frames := 1, cells := 13, slots := 34904, locals := 20 }
set_option maxRecDepth 100000 in
set_option maxHeartbeats 4000000 in
theorem c_X7_init {l : Launch} {G : gG} {σ : gS} {m0 : Nat} (hc0 : σ m0 = some (.inr (7, [.null, .null, .null, .null, .int (nI 0), .null, .int (nI 0), .int (nI 0), .int (nI 0), .int (nI 0), .int (nI 0), .int (nI 0), .int (nI 0), .null, .null, .null, .null, .null, .null, .null, .null])))  : GM l G yX7_init cX7_init 1 none rm_X7_init (m0 + 1) σ [.ref m0] (fun rv n2 σ2 => (none : Option Value) = rv ∧ m0 + 14 = n2 ∧ (RW σ m0 [(.inr (7, [.ref (m0 + 1), .ref (m0 + 2), .ref (m0 + 3), .ref (m0 + 4), .int (nI 0), .ref (m0 + 5), .int (nI 0), .int (nI 0), .int (nI 0), .int (nI 0), .int (nI 0), .int (nI 0), .int (nI 0), .ref (m0 + 6), .ref (m0 + 7), .ref (m0 + 8), .ref (m0 + 9), .ref (m0 + 10), .ref (m0 + 11), .ref (m0 + 12), .ref (m0 + 13)])), (aI G 38 (fun _ => 0)), (aI G 152 (fun _ => 0)), (aI G 38 (fun _ => 0)), (aI G 38 (fun _ => 0)), (aC G 50 (fun _ => 0)), (aI G 6 (fun _ => 0)), (aI G 6 (fun _ => 0)), (aI G 23040 (fun _ => 0)), (aI G 3840 (fun _ => 0)), (aI G 3840 (fun _ => 0)), (aI G 3840 (fun _ => 0)), (aI G 8 (fun _ => 0)), (aI G 8 (fun _ => 0))]) = σ2) := by
  refine GM.intro (by decide +kernel) (Nat.le_of_ble_eq_true rfl) (fun p e s m args below meth c C hr hlocks hname po hpo => ?_)
  have C : Cx p s m args c cX7_init 1 RX7 G := C
  refine V.hp (σ2 := (RW σ m0 [(.inr (7, [.null, .null, .null, .null, .int (nI 0), .null, .int (nI 0), .int (nI 0), .int (nI 0), .int (nI 0), .int (nI 0), .int (nI 0), .int (nI 0), .null, .null, .null, .null, .null, .null, .null, .null]))])) (RW_cons hc0 (RW_nil _ _)).symm ?_
  refine r_aload_n C dX7_init_0 rfl 0 rfl ?_
  refine r_objInit C wM_X7_1 wI_objectInit wC_objectInit (by decide) dX7_init_1 (by decide) (by decide) ?_
  refine r_aload_n C dX7_init_4 rfl 0 rfl ?_
  refine r_bipush (v := nI 38) C dX7_init_5 (by decide) ?_
  refine r_newarrI C wA_int (by decide) (Nat.le_of_ble_eq_true rfl) (Nat.le_of_ble_eq_true rfl) dX7_init_7 ?_
  refine V.eq (σ2 := (hU (RW σ m0 [(.inr (7, [.null, .null, .null, .null, .int (nI 0), .null, .int (nI 0), .int (nI 0), .int (nI 0), .int (nI 0), .int (nI 0), .int (nI 0), .int (nI 0), .null, .null, .null, .null, .null, .null, .null, .null]))]) (m0 + 1) (aI G 38 (fun _ => 0)))) (n2 := m0 + 2) rfl rfl rfl rfl ?_
  refine V.hp (σ2 := (RW σ m0 [(.inr (7, [.null, .null, .null, .null, .int (nI 0), .null, .int (nI 0), .int (nI 0), .int (nI 0), .int (nI 0), .int (nI 0), .int (nI 0), .int (nI 0), .null, .null, .null, .null, .null, .null, .null, .null])), (aI G 38 (fun _ => 0))])) (RW_snoc (m := 1) rfl rfl) ?_
  refine r_putF (Cn := RX7) (T := TX7) (N := 21) (fs2 := [.ref (m0 + 1), .null, .null, .null, .int (nI 0), .null, .int (nI 0), .int (nI 0), .int (nI 0), .int (nI 0), .int (nI 0), .int (nI 0), .int (nI 0), .null, .null, .null, .null, .null, .null, .null, .null]) C inlX7 tyX7 tyX7_ok nmX7 (RW_at0 rfl) rfl 0 (by decide) wF_X7_7 (fun _ h => h) rfl hname rfl (tyX7_ok 0 (by decide)) rfl rfl (Nat.le_of_ble_eq_true rfl) rfl dX7_init_9 ?_
  refine V.hp (σ2 := (RW σ m0 [(.inr (7, [.ref (m0 + 1), .null, .null, .null, .int (nI 0), .null, .int (nI 0), .int (nI 0), .int (nI 0), .int (nI 0), .int (nI 0), .int (nI 0), .int (nI 0), .null, .null, .null, .null, .null, .null, .null, .null])), (aI G 38 (fun _ => 0))])) (RW_set0 (Nat.le_of_ble_eq_true rfl) rfl) ?_
  refine r_aload_n C dX7_init_12 rfl 0 rfl ?_
  refine r_sipush (v := nI 152) C dX7_init_13 (by decide) ?_
  refine r_newarrI C wA_int (by decide) (Nat.le_of_ble_eq_true rfl) (Nat.le_of_ble_eq_true rfl) dX7_init_16 ?_
  refine V.eq (σ2 := (hU (RW σ m0 [(.inr (7, [.ref (m0 + 1), .null, .null, .null, .int (nI 0), .null, .int (nI 0), .int (nI 0), .int (nI 0), .int (nI 0), .int (nI 0), .int (nI 0), .int (nI 0), .null, .null, .null, .null, .null, .null, .null, .null])), (aI G 38 (fun _ => 0))]) (m0 + 2) (aI G 152 (fun _ => 0)))) (n2 := m0 + 3) rfl rfl rfl rfl ?_
  refine V.hp (σ2 := (RW σ m0 [(.inr (7, [.ref (m0 + 1), .null, .null, .null, .int (nI 0), .null, .int (nI 0), .int (nI 0), .int (nI 0), .int (nI 0), .int (nI 0), .int (nI 0), .int (nI 0), .null, .null, .null, .null, .null, .null, .null, .null])), (aI G 38 (fun _ => 0)), (aI G 152 (fun _ => 0))])) (RW_snoc (m := 2) rfl rfl) ?_
  refine r_putF (Cn := RX7) (T := TX7) (N := 21) (fs2 := [.ref (m0 + 1), .ref (m0 + 2), .null, .null, .int (nI 0), .null, .int (nI 0), .int (nI 0), .int (nI 0), .int (nI 0), .int (nI 0), .int (nI 0), .int (nI 0), .null, .null, .null, .null, .null, .null, .null, .null]) C inlX7 tyX7 tyX7_ok nmX7 (RW_at0 rfl) rfl 1 (by decide) wF_X7_13 (fun _ h => h) rfl hname rfl (tyX7_ok 1 (by decide)) rfl rfl (Nat.le_of_ble_eq_true rfl) rfl dX7_init_18 ?_
  refine V.hp (σ2 := (RW σ m0 [(.inr (7, [.ref (m0 + 1), .ref (m0 + 2), .null, .null, .int (nI 0), .null, .int (nI 0), .int (nI 0), .int (nI 0), .int (nI 0), .int (nI 0), .int (nI 0), .int (nI 0), .null, .null, .null, .null, .null, .null, .null, .null])), (aI G 38 (fun _ => 0)), (aI G 152 (fun _ => 0))])) (RW_set0 (Nat.le_of_ble_eq_true rfl) rfl) ?_
  refine r_aload_n C dX7_init_21 rfl 0 rfl ?_
  refine r_bipush (v := nI 38) C dX7_init_22 (by decide) ?_
  refine r_newarrI C wA_int (by decide) (Nat.le_of_ble_eq_true rfl) (Nat.le_of_ble_eq_true rfl) dX7_init_24 ?_
  refine V.eq (σ2 := (hU (RW σ m0 [(.inr (7, [.ref (m0 + 1), .ref (m0 + 2), .null, .null, .int (nI 0), .null, .int (nI 0), .int (nI 0), .int (nI 0), .int (nI 0), .int (nI 0), .int (nI 0), .int (nI 0), .null, .null, .null, .null, .null, .null, .null, .null])), (aI G 38 (fun _ => 0)), (aI G 152 (fun _ => 0))]) (m0 + 3) (aI G 38 (fun _ => 0)))) (n2 := m0 + 4) rfl rfl rfl rfl ?_
  refine V.hp (σ2 := (RW σ m0 [(.inr (7, [.ref (m0 + 1), .ref (m0 + 2), .null, .null, .int (nI 0), .null, .int (nI 0), .int (nI 0), .int (nI 0), .int (nI 0), .int (nI 0), .int (nI 0), .int (nI 0), .null, .null, .null, .null, .null, .null, .null, .null])), (aI G 38 (fun _ => 0)), (aI G 152 (fun _ => 0)), (aI G 38 (fun _ => 0))])) (RW_snoc (m := 3) rfl rfl) ?_
  refine r_putF (Cn := RX7) (T := TX7) (N := 21) (fs2 := [.ref (m0 + 1), .ref (m0 + 2), .ref (m0 + 3), .null, .int (nI 0), .null, .int (nI 0), .int (nI 0), .int (nI 0), .int (nI 0), .int (nI 0), .int (nI 0), .int (nI 0), .null, .null, .null, .null, .null, .null, .null, .null]) C inlX7 tyX7 tyX7_ok nmX7 (RW_at0 rfl) rfl 2 (by decide) wF_X7_16 (fun _ h => h) rfl hname rfl (tyX7_ok 2 (by decide)) rfl rfl (Nat.le_of_ble_eq_true rfl) rfl dX7_init_26 ?_
  refine V.hp (σ2 := (RW σ m0 [(.inr (7, [.ref (m0 + 1), .ref (m0 + 2), .ref (m0 + 3), .null, .int (nI 0), .null, .int (nI 0), .int (nI 0), .int (nI 0), .int (nI 0), .int (nI 0), .int (nI 0), .int (nI 0), .null, .null, .null, .null, .null, .null, .null, .null])), (aI G 38 (fun _ => 0)), (aI G 152 (fun _ => 0)), (aI G 38 (fun _ => 0))])) (RW_set0 (Nat.le_of_ble_eq_true rfl) rfl) ?_
  refine r_aload_n C dX7_init_29 rfl 0 rfl ?_
  refine r_bipush (v := nI 38) C dX7_init_30 (by decide) ?_
  refine r_newarrI C wA_int (by decide) (Nat.le_of_ble_eq_true rfl) (Nat.le_of_ble_eq_true rfl) dX7_init_32 ?_
  refine V.eq (σ2 := (hU (RW σ m0 [(.inr (7, [.ref (m0 + 1), .ref (m0 + 2), .ref (m0 + 3), .null, .int (nI 0), .null, .int (nI 0), .int (nI 0), .int (nI 0), .int (nI 0), .int (nI 0), .int (nI 0), .int (nI 0), .null, .null, .null, .null, .null, .null, .null, .null])), (aI G 38 (fun _ => 0)), (aI G 152 (fun _ => 0)), (aI G 38 (fun _ => 0))]) (m0 + 4) (aI G 38 (fun _ => 0)))) (n2 := m0 + 5) rfl rfl rfl rfl ?_
  refine V.hp (σ2 := (RW σ m0 [(.inr (7, [.ref (m0 + 1), .ref (m0 + 2), .ref (m0 + 3), .null, .int (nI 0), .null, .int (nI 0), .int (nI 0), .int (nI 0), .int (nI 0), .int (nI 0), .int (nI 0), .int (nI 0), .null, .null, .null, .null, .null, .null, .null, .null])), (aI G 38 (fun _ => 0)), (aI G 152 (fun _ => 0)), (aI G 38 (fun _ => 0)), (aI G 38 (fun _ => 0))])) (RW_snoc (m := 4) rfl rfl) ?_
  refine r_putF (Cn := RX7) (T := TX7) (N := 21) (fs2 := [.ref (m0 + 1), .ref (m0 + 2), .ref (m0 + 3), .ref (m0 + 4), .int (nI 0), .null, .int (nI 0), .int (nI 0), .int (nI 0), .int (nI 0), .int (nI 0), .int (nI 0), .int (nI 0), .null, .null, .null, .null, .null, .null, .null, .null]) C inlX7 tyX7 tyX7_ok nmX7 (RW_at0 rfl) rfl 3 (by decide) wF_X7_19 (fun _ h => h) rfl hname rfl (tyX7_ok 3 (by decide)) rfl rfl (Nat.le_of_ble_eq_true rfl) rfl dX7_init_34 ?_
  refine V.hp (σ2 := (RW σ m0 [(.inr (7, [.ref (m0 + 1), .ref (m0 + 2), .ref (m0 + 3), .ref (m0 + 4), .int (nI 0), .null, .int (nI 0), .int (nI 0), .int (nI 0), .int (nI 0), .int (nI 0), .int (nI 0), .int (nI 0), .null, .null, .null, .null, .null, .null, .null, .null])), (aI G 38 (fun _ => 0)), (aI G 152 (fun _ => 0)), (aI G 38 (fun _ => 0)), (aI G 38 (fun _ => 0))])) (RW_set0 (Nat.le_of_ble_eq_true rfl) rfl) ?_
  refine r_aload_n C dX7_init_37 rfl 0 rfl ?_
  refine r_bipush (v := nI 50) C dX7_init_38 (by decide) ?_
  refine r_newarrC C wA_char (by decide) (Nat.le_of_ble_eq_true rfl) (Nat.le_of_ble_eq_true rfl) dX7_init_40 ?_
  refine V.eq (σ2 := (hU (RW σ m0 [(.inr (7, [.ref (m0 + 1), .ref (m0 + 2), .ref (m0 + 3), .ref (m0 + 4), .int (nI 0), .null, .int (nI 0), .int (nI 0), .int (nI 0), .int (nI 0), .int (nI 0), .int (nI 0), .int (nI 0), .null, .null, .null, .null, .null, .null, .null, .null])), (aI G 38 (fun _ => 0)), (aI G 152 (fun _ => 0)), (aI G 38 (fun _ => 0)), (aI G 38 (fun _ => 0))]) (m0 + 5) (aC G 50 (fun _ => 0)))) (n2 := m0 + 6) rfl rfl rfl rfl ?_
  refine V.hp (σ2 := (RW σ m0 [(.inr (7, [.ref (m0 + 1), .ref (m0 + 2), .ref (m0 + 3), .ref (m0 + 4), .int (nI 0), .null, .int (nI 0), .int (nI 0), .int (nI 0), .int (nI 0), .int (nI 0), .int (nI 0), .int (nI 0), .null, .null, .null, .null, .null, .null, .null, .null])), (aI G 38 (fun _ => 0)), (aI G 152 (fun _ => 0)), (aI G 38 (fun _ => 0)), (aI G 38 (fun _ => 0)), (aC G 50 (fun _ => 0))])) (RW_snoc (m := 5) rfl rfl) ?_
  refine r_putF (Cn := RX7) (T := TX7) (N := 21) (fs2 := [.ref (m0 + 1), .ref (m0 + 2), .ref (m0 + 3), .ref (m0 + 4), .int (nI 0), .ref (m0 + 5), .int (nI 0), .int (nI 0), .int (nI 0), .int (nI 0), .int (nI 0), .int (nI 0), .int (nI 0), .null, .null, .null, .null, .null, .null, .null, .null]) C inlX7 tyX7 tyX7_ok nmX7 (RW_at0 rfl) rfl 5 (by decide) wF_X7_22 (fun _ h => h) rfl hname rfl (tyX7_ok 5 (by decide)) rfl rfl (Nat.le_of_ble_eq_true rfl) rfl dX7_init_42 ?_
  refine V.hp (σ2 := (RW σ m0 [(.inr (7, [.ref (m0 + 1), .ref (m0 + 2), .ref (m0 + 3), .ref (m0 + 4), .int (nI 0), .ref (m0 + 5), .int (nI 0), .int (nI 0), .int (nI 0), .int (nI 0), .int (nI 0), .int (nI 0), .int (nI 0), .null, .null, .null, .null, .null, .null, .null, .null])), (aI G 38 (fun _ => 0)), (aI G 152 (fun _ => 0)), (aI G 38 (fun _ => 0)), (aI G 38 (fun _ => 0)), (aC G 50 (fun _ => 0))])) (RW_set0 (Nat.le_of_ble_eq_true rfl) rfl) ?_
  refine r_aload_n C dX7_init_45 rfl 0 rfl ?_
  refine r_bipush (v := nI 6) C dX7_init_46 (by decide) ?_
  refine r_newarrI C wA_int (by decide) (Nat.le_of_ble_eq_true rfl) (Nat.le_of_ble_eq_true rfl) dX7_init_48 ?_
  refine V.eq (σ2 := (hU (RW σ m0 [(.inr (7, [.ref (m0 + 1), .ref (m0 + 2), .ref (m0 + 3), .ref (m0 + 4), .int (nI 0), .ref (m0 + 5), .int (nI 0), .int (nI 0), .int (nI 0), .int (nI 0), .int (nI 0), .int (nI 0), .int (nI 0), .null, .null, .null, .null, .null, .null, .null, .null])), (aI G 38 (fun _ => 0)), (aI G 152 (fun _ => 0)), (aI G 38 (fun _ => 0)), (aI G 38 (fun _ => 0)), (aC G 50 (fun _ => 0))]) (m0 + 6) (aI G 6 (fun _ => 0)))) (n2 := m0 + 7) rfl rfl rfl rfl ?_
  refine V.hp (σ2 := (RW σ m0 [(.inr (7, [.ref (m0 + 1), .ref (m0 + 2), .ref (m0 + 3), .ref (m0 + 4), .int (nI 0), .ref (m0 + 5), .int (nI 0), .int (nI 0), .int (nI 0), .int (nI 0), .int (nI 0), .int (nI 0), .int (nI 0), .null, .null, .null, .null, .null, .null, .null, .null])), (aI G 38 (fun _ => 0)), (aI G 152 (fun _ => 0)), (aI G 38 (fun _ => 0)), (aI G 38 (fun _ => 0)), (aC G 50 (fun _ => 0)), (aI G 6 (fun _ => 0))])) (RW_snoc (m := 6) rfl rfl) ?_
  refine r_putF (Cn := RX7) (T := TX7) (N := 21) (fs2 := [.ref (m0 + 1), .ref (m0 + 2), .ref (m0 + 3), .ref (m0 + 4), .int (nI 0), .ref (m0 + 5), .int (nI 0), .int (nI 0), .int (nI 0), .int (nI 0), .int (nI 0), .int (nI 0), .int (nI 0), .ref (m0 + 6), .null, .null, .null, .null, .null, .null, .null]) C inlX7 tyX7 tyX7_ok nmX7 (RW_at0 rfl) rfl 13 (by decide) wF_X7_26 (fun _ h => h) rfl hname rfl (tyX7_ok 13 (by decide)) rfl rfl (Nat.le_of_ble_eq_true rfl) rfl dX7_init_50 ?_
  refine V.hp (σ2 := (RW σ m0 [(.inr (7, [.ref (m0 + 1), .ref (m0 + 2), .ref (m0 + 3), .ref (m0 + 4), .int (nI 0), .ref (m0 + 5), .int (nI 0), .int (nI 0), .int (nI 0), .int (nI 0), .int (nI 0), .int (nI 0), .int (nI 0), .ref (m0 + 6), .null, .null, .null, .null, .null, .null, .null])), (aI G 38 (fun _ => 0)), (aI G 152 (fun _ => 0)), (aI G 38 (fun _ => 0)), (aI G 38 (fun _ => 0)), (aC G 50 (fun _ => 0)), (aI G 6 (fun _ => 0))])) (RW_set0 (Nat.le_of_ble_eq_true rfl) rfl) ?_
  refine r_aload_n C dX7_init_53 rfl 0 rfl ?_
  refine r_bipush (v := nI 6) C dX7_init_54 (by decide) ?_
  refine r_newarrI C wA_int (by decide) (Nat.le_of_ble_eq_true rfl) (Nat.le_of_ble_eq_true rfl) dX7_init_56 ?_
  refine V.eq (σ2 := (hU (RW σ m0 [(.inr (7, [.ref (m0 + 1), .ref (m0 + 2), .ref (m0 + 3), .ref (m0 + 4), .int (nI 0), .ref (m0 + 5), .int (nI 0), .int (nI 0), .int (nI 0), .int (nI 0), .int (nI 0), .int (nI 0), .int (nI 0), .ref (m0 + 6), .null, .null, .null, .null, .null, .null, .null])), (aI G 38 (fun _ => 0)), (aI G 152 (fun _ => 0)), (aI G 38 (fun _ => 0)), (aI G 38 (fun _ => 0)), (aC G 50 (fun _ => 0)), (aI G 6 (fun _ => 0))]) (m0 + 7) (aI G 6 (fun _ => 0)))) (n2 := m0 + 8) rfl rfl rfl rfl ?_
  refine V.hp (σ2 := (RW σ m0 [(.inr (7, [.ref (m0 + 1), .ref (m0 + 2), .ref (m0 + 3), .ref (m0 + 4), .int (nI 0), .ref (m0 + 5), .int (nI 0), .int (nI 0), .int (nI 0), .int (nI 0), .int (nI 0), .int (nI 0), .int (nI 0), .ref (m0 + 6), .null, .null, .null, .null, .null, .null, .null])), (aI G 38 (fun _ => 0)), (aI G 152 (fun _ => 0)), (aI G 38 (fun _ => 0)), (aI G 38 (fun _ => 0)), (aC G 50 (fun _ => 0)), (aI G 6 (fun _ => 0)), (aI G 6 (fun _ => 0))])) (RW_snoc (m := 7) rfl rfl) ?_
  refine r_putF (Cn := RX7) (T := TX7) (N := 21) (fs2 := [.ref (m0 + 1), .ref (m0 + 2), .ref (m0 + 3), .ref (m0 + 4), .int (nI 0), .ref (m0 + 5), .int (nI 0), .int (nI 0), .int (nI 0), .int (nI 0), .int (nI 0), .int (nI 0), .int (nI 0), .ref (m0 + 6), .ref (m0 + 7), .null, .null, .null, .null, .null, .null]) C inlX7 tyX7 tyX7_ok nmX7 (RW_at0 rfl) rfl 14 (by decide) wF_X7_29 (fun _ h => h) rfl hname rfl (tyX7_ok 14 (by decide)) rfl rfl (Nat.le_of_ble_eq_true rfl) rfl dX7_init_58 ?_
  refine V.hp (σ2 := (RW σ m0 [(.inr (7, [.ref (m0 + 1), .ref (m0 + 2), .ref (m0 + 3), .ref (m0 + 4), .int (nI 0), .ref (m0 + 5), .int (nI 0), .int (nI 0), .int (nI 0), .int (nI 0), .int (nI 0), .int (nI 0), .int (nI 0), .ref (m0 + 6), .ref (m0 + 7), .null, .null, .null, .null, .null, .null])), (aI G 38 (fun _ => 0)), (aI G 152 (fun _ => 0)), (aI G 38 (fun _ => 0)), (aI G 38 (fun _ => 0)), (aC G 50 (fun _ => 0)), (aI G 6 (fun _ => 0)), (aI G 6 (fun _ => 0))])) (RW_set0 (Nat.le_of_ble_eq_true rfl) rfl) ?_
  refine r_aload_n C dX7_init_61 rfl 0 rfl ?_
  refine r_sipush (v := nI 23040) C dX7_init_62 (by decide) ?_
  refine r_newarrI C wA_int (by decide) (Nat.le_of_ble_eq_true rfl) (Nat.le_of_ble_eq_true rfl) dX7_init_65 ?_
  refine V.eq (σ2 := (hU (RW σ m0 [(.inr (7, [.ref (m0 + 1), .ref (m0 + 2), .ref (m0 + 3), .ref (m0 + 4), .int (nI 0), .ref (m0 + 5), .int (nI 0), .int (nI 0), .int (nI 0), .int (nI 0), .int (nI 0), .int (nI 0), .int (nI 0), .ref (m0 + 6), .ref (m0 + 7), .null, .null, .null, .null, .null, .null])), (aI G 38 (fun _ => 0)), (aI G 152 (fun _ => 0)), (aI G 38 (fun _ => 0)), (aI G 38 (fun _ => 0)), (aC G 50 (fun _ => 0)), (aI G 6 (fun _ => 0)), (aI G 6 (fun _ => 0))]) (m0 + 8) (aI G 23040 (fun _ => 0)))) (n2 := m0 + 9) rfl rfl rfl rfl ?_
  refine V.hp (σ2 := (RW σ m0 [(.inr (7, [.ref (m0 + 1), .ref (m0 + 2), .ref (m0 + 3), .ref (m0 + 4), .int (nI 0), .ref (m0 + 5), .int (nI 0), .int (nI 0), .int (nI 0), .int (nI 0), .int (nI 0), .int (nI 0), .int (nI 0), .ref (m0 + 6), .ref (m0 + 7), .null, .null, .null, .null, .null, .null])), (aI G 38 (fun _ => 0)), (aI G 152 (fun _ => 0)), (aI G 38 (fun _ => 0)), (aI G 38 (fun _ => 0)), (aC G 50 (fun _ => 0)), (aI G 6 (fun _ => 0)), (aI G 6 (fun _ => 0)), (aI G 23040 (fun _ => 0))])) (RW_snoc (m := 8) rfl rfl) ?_
  refine r_putF (Cn := RX7) (T := TX7) (N := 21) (fs2 := [.ref (m0 + 1), .ref (m0 + 2), .ref (m0 + 3), .ref (m0 + 4), .int (nI 0), .ref (m0 + 5), .int (nI 0), .int (nI 0), .int (nI 0), .int (nI 0), .int (nI 0), .int (nI 0), .int (nI 0), .ref (m0 + 6), .ref (m0 + 7), .ref (m0 + 8), .null, .null, .null, .null, .null]) C inlX7 tyX7 tyX7_ok nmX7 (RW_at0 rfl) rfl 15 (by decide) wF_X7_32 (fun _ h => h) rfl hname rfl (tyX7_ok 15 (by decide)) rfl rfl (Nat.le_of_ble_eq_true rfl) rfl dX7_init_67 ?_
  refine V.hp (σ2 := (RW σ m0 [(.inr (7, [.ref (m0 + 1), .ref (m0 + 2), .ref (m0 + 3), .ref (m0 + 4), .int (nI 0), .ref (m0 + 5), .int (nI 0), .int (nI 0), .int (nI 0), .int (nI 0), .int (nI 0), .int (nI 0), .int (nI 0), .ref (m0 + 6), .ref (m0 + 7), .ref (m0 + 8), .null, .null, .null, .null, .null])), (aI G 38 (fun _ => 0)), (aI G 152 (fun _ => 0)), (aI G 38 (fun _ => 0)), (aI G 38 (fun _ => 0)), (aC G 50 (fun _ => 0)), (aI G 6 (fun _ => 0)), (aI G 6 (fun _ => 0)), (aI G 23040 (fun _ => 0))])) (RW_set0 (Nat.le_of_ble_eq_true rfl) rfl) ?_
  refine r_aload_n C dX7_init_70 rfl 0 rfl ?_
  refine r_sipush (v := nI 3840) C dX7_init_71 (by decide) ?_
  refine r_newarrI C wA_int (by decide) (Nat.le_of_ble_eq_true rfl) (Nat.le_of_ble_eq_true rfl) dX7_init_74 ?_
  refine V.eq (σ2 := (hU (RW σ m0 [(.inr (7, [.ref (m0 + 1), .ref (m0 + 2), .ref (m0 + 3), .ref (m0 + 4), .int (nI 0), .ref (m0 + 5), .int (nI 0), .int (nI 0), .int (nI 0), .int (nI 0), .int (nI 0), .int (nI 0), .int (nI 0), .ref (m0 + 6), .ref (m0 + 7), .ref (m0 + 8), .null, .null, .null, .null, .null])), (aI G 38 (fun _ => 0)), (aI G 152 (fun _ => 0)), (aI G 38 (fun _ => 0)), (aI G 38 (fun _ => 0)), (aC G 50 (fun _ => 0)), (aI G 6 (fun _ => 0)), (aI G 6 (fun _ => 0)), (aI G 23040 (fun _ => 0))]) (m0 + 9) (aI G 3840 (fun _ => 0)))) (n2 := m0 + 10) rfl rfl rfl rfl ?_
  refine V.hp (σ2 := (RW σ m0 [(.inr (7, [.ref (m0 + 1), .ref (m0 + 2), .ref (m0 + 3), .ref (m0 + 4), .int (nI 0), .ref (m0 + 5), .int (nI 0), .int (nI 0), .int (nI 0), .int (nI 0), .int (nI 0), .int (nI 0), .int (nI 0), .ref (m0 + 6), .ref (m0 + 7), .ref (m0 + 8), .null, .null, .null, .null, .null])), (aI G 38 (fun _ => 0)), (aI G 152 (fun _ => 0)), (aI G 38 (fun _ => 0)), (aI G 38 (fun _ => 0)), (aC G 50 (fun _ => 0)), (aI G 6 (fun _ => 0)), (aI G 6 (fun _ => 0)), (aI G 23040 (fun _ => 0)), (aI G 3840 (fun _ => 0))])) (RW_snoc (m := 9) rfl rfl) ?_
  refine r_putF (Cn := RX7) (T := TX7) (N := 21) (fs2 := [.ref (m0 + 1), .ref (m0 + 2), .ref (m0 + 3), .ref (m0 + 4), .int (nI 0), .ref (m0 + 5), .int (nI 0), .int (nI 0), .int (nI 0), .int (nI 0), .int (nI 0), .int (nI 0), .int (nI 0), .ref (m0 + 6), .ref (m0 + 7), .ref (m0 + 8), .ref (m0 + 9), .null, .null, .null, .null]) C inlX7 tyX7 tyX7_ok nmX7 (RW_at0 rfl) rfl 16 (by decide) wF_X7_35 (fun _ h => h) rfl hname rfl (tyX7_ok 16 (by decide)) rfl rfl (Nat.le_of_ble_eq_true rfl) rfl dX7_init_76 ?_
  refine V.hp (σ2 := (RW σ m0 [(.inr (7, [.ref (m0 + 1), .ref (m0 + 2), .ref (m0 + 3), .ref (m0 + 4), .int (nI 0), .ref (m0 + 5), .int (nI 0), .int (nI 0), .int (nI 0), .int (nI 0), .int (nI 0), .int (nI 0), .int (nI 0), .ref (m0 + 6), .ref (m0 + 7), .ref (m0 + 8), .ref (m0 + 9), .null, .null, .null, .null])), (aI G 38 (fun _ => 0)), (aI G 152 (fun _ => 0)), (aI G 38 (fun _ => 0)), (aI G 38 (fun _ => 0)), (aC G 50 (fun _ => 0)), (aI G 6 (fun _ => 0)), (aI G 6 (fun _ => 0)), (aI G 23040 (fun _ => 0)), (aI G 3840 (fun _ => 0))])) (RW_set0 (Nat.le_of_ble_eq_true rfl) rfl) ?_
  refine r_aload_n C dX7_init_79 rfl 0 rfl ?_
  refine r_sipush (v := nI 3840) C dX7_init_80 (by decide) ?_
  refine r_newarrI C wA_int (by decide) (Nat.le_of_ble_eq_true rfl) (Nat.le_of_ble_eq_true rfl) dX7_init_83 ?_
  refine V.eq (σ2 := (hU (RW σ m0 [(.inr (7, [.ref (m0 + 1), .ref (m0 + 2), .ref (m0 + 3), .ref (m0 + 4), .int (nI 0), .ref (m0 + 5), .int (nI 0), .int (nI 0), .int (nI 0), .int (nI 0), .int (nI 0), .int (nI 0), .int (nI 0), .ref (m0 + 6), .ref (m0 + 7), .ref (m0 + 8), .ref (m0 + 9), .null, .null, .null, .null])), (aI G 38 (fun _ => 0)), (aI G 152 (fun _ => 0)), (aI G 38 (fun _ => 0)), (aI G 38 (fun _ => 0)), (aC G 50 (fun _ => 0)), (aI G 6 (fun _ => 0)), (aI G 6 (fun _ => 0)), (aI G 23040 (fun _ => 0)), (aI G 3840 (fun _ => 0))]) (m0 + 10) (aI G 3840 (fun _ => 0)))) (n2 := m0 + 11) rfl rfl rfl rfl ?_
  refine V.hp (σ2 := (RW σ m0 [(.inr (7, [.ref (m0 + 1), .ref (m0 + 2), .ref (m0 + 3), .ref (m0 + 4), .int (nI 0), .ref (m0 + 5), .int (nI 0), .int (nI 0), .int (nI 0), .int (nI 0), .int (nI 0), .int (nI 0), .int (nI 0), .ref (m0 + 6), .ref (m0 + 7), .ref (m0 + 8), .ref (m0 + 9), .null, .null, .null, .null])), (aI G 38 (fun _ => 0)), (aI G 152 (fun _ => 0)), (aI G 38 (fun _ => 0)), (aI G 38 (fun _ => 0)), (aC G 50 (fun _ => 0)), (aI G 6 (fun _ => 0)), (aI G 6 (fun _ => 0)), (aI G 23040 (fun _ => 0)), (aI G 3840 (fun _ => 0)), (aI G 3840 (fun _ => 0))])) (RW_snoc (m := 10) rfl rfl) ?_
  refine r_putF (Cn := RX7) (T := TX7) (N := 21) (fs2 := [.ref (m0 + 1), .ref (m0 + 2), .ref (m0 + 3), .ref (m0 + 4), .int (nI 0), .ref (m0 + 5), .int (nI 0), .int (nI 0), .int (nI 0), .int (nI 0), .int (nI 0), .int (nI 0), .int (nI 0), .ref (m0 + 6), .ref (m0 + 7), .ref (m0 + 8), .ref (m0 + 9), .ref (m0 + 10), .null, .null, .null]) C inlX7 tyX7 tyX7_ok nmX7 (RW_at0 rfl) rfl 17 (by decide) wF_X7_38 (fun _ h => h) rfl hname rfl (tyX7_ok 17 (by decide)) rfl rfl (Nat.le_of_ble_eq_true rfl) rfl dX7_init_85 ?_
  refine V.hp (σ2 := (RW σ m0 [(.inr (7, [.ref (m0 + 1), .ref (m0 + 2), .ref (m0 + 3), .ref (m0 + 4), .int (nI 0), .ref (m0 + 5), .int (nI 0), .int (nI 0), .int (nI 0), .int (nI 0), .int (nI 0), .int (nI 0), .int (nI 0), .ref (m0 + 6), .ref (m0 + 7), .ref (m0 + 8), .ref (m0 + 9), .ref (m0 + 10), .null, .null, .null])), (aI G 38 (fun _ => 0)), (aI G 152 (fun _ => 0)), (aI G 38 (fun _ => 0)), (aI G 38 (fun _ => 0)), (aC G 50 (fun _ => 0)), (aI G 6 (fun _ => 0)), (aI G 6 (fun _ => 0)), (aI G 23040 (fun _ => 0)), (aI G 3840 (fun _ => 0)), (aI G 3840 (fun _ => 0))])) (RW_set0 (Nat.le_of_ble_eq_true rfl) rfl) ?_
  refine r_aload_n C dX7_init_88 rfl 0 rfl ?_
  refine r_sipush (v := nI 3840) C dX7_init_89 (by decide) ?_
  refine r_newarrI C wA_int (by decide) (Nat.le_of_ble_eq_true rfl) (Nat.le_of_ble_eq_true rfl) dX7_init_92 ?_
  refine V.eq (σ2 := (hU (RW σ m0 [(.inr (7, [.ref (m0 + 1), .ref (m0 + 2), .ref (m0 + 3), .ref (m0 + 4), .int (nI 0), .ref (m0 + 5), .int (nI 0), .int (nI 0), .int (nI 0), .int (nI 0), .int (nI 0), .int (nI 0), .int (nI 0), .ref (m0 + 6), .ref (m0 + 7), .ref (m0 + 8), .ref (m0 + 9), .ref (m0 + 10), .null, .null, .null])), (aI G 38 (fun _ => 0)), (aI G 152 (fun _ => 0)), (aI G 38 (fun _ => 0)), (aI G 38 (fun _ => 0)), (aC G 50 (fun _ => 0)), (aI G 6 (fun _ => 0)), (aI G 6 (fun _ => 0)), (aI G 23040 (fun _ => 0)), (aI G 3840 (fun _ => 0)), (aI G 3840 (fun _ => 0))]) (m0 + 11) (aI G 3840 (fun _ => 0)))) (n2 := m0 + 12) rfl rfl rfl rfl ?_
  refine V.hp (σ2 := (RW σ m0 [(.inr (7, [.ref (m0 + 1), .ref (m0 + 2), .ref (m0 + 3), .ref (m0 + 4), .int (nI 0), .ref (m0 + 5), .int (nI 0), .int (nI 0), .int (nI 0), .int (nI 0), .int (nI 0), .int (nI 0), .int (nI 0), .ref (m0 + 6), .ref (m0 + 7), .ref (m0 + 8), .ref (m0 + 9), .ref (m0 + 10), .null, .null, .null])), (aI G 38 (fun _ => 0)), (aI G 152 (fun _ => 0)), (aI G 38 (fun _ => 0)), (aI G 38 (fun _ => 0)), (aC G 50 (fun _ => 0)), (aI G 6 (fun _ => 0)), (aI G 6 (fun _ => 0)), (aI G 23040 (fun _ => 0)), (aI G 3840 (fun _ => 0)), (aI G 3840 (fun _ => 0)), (aI G 3840 (fun _ => 0))])) (RW_snoc (m := 11) rfl rfl) ?_
  refine r_putF (Cn := RX7) (T := TX7) (N := 21) (fs2 := [.ref (m0 + 1), .ref (m0 + 2), .ref (m0 + 3), .ref (m0 + 4), .int (nI 0), .ref (m0 + 5), .int (nI 0), .int (nI 0), .int (nI 0), .int (nI 0), .int (nI 0), .int (nI 0), .int (nI 0), .ref (m0 + 6), .ref (m0 + 7), .ref (m0 + 8), .ref (m0 + 9), .ref (m0 + 10), .ref (m0 + 11), .null, .null]) C inlX7 tyX7 tyX7_ok nmX7 (RW_at0 rfl) rfl 18 (by decide) wF_X7_41 (fun _ h => h) rfl hname rfl (tyX7_ok 18 (by decide)) rfl rfl (Nat.le_of_ble_eq_true rfl) rfl dX7_init_94 ?_
  refine V.hp (σ2 := (RW σ m0 [(.inr (7, [.ref (m0 + 1), .ref (m0 + 2), .ref (m0 + 3), .ref (m0 + 4), .int (nI 0), .ref (m0 + 5), .int (nI 0), .int (nI 0), .int (nI 0), .int (nI 0), .int (nI 0), .int (nI 0), .int (nI 0), .ref (m0 + 6), .ref (m0 + 7), .ref (m0 + 8), .ref (m0 + 9), .ref (m0 + 10), .ref (m0 + 11), .null, .null])), (aI G 38 (fun _ => 0)), (aI G 152 (fun _ => 0)), (aI G 38 (fun _ => 0)), (aI G 38 (fun _ => 0)), (aC G 50 (fun _ => 0)), (aI G 6 (fun _ => 0)), (aI G 6 (fun _ => 0)), (aI G 23040 (fun _ => 0)), (aI G 3840 (fun _ => 0)), (aI G 3840 (fun _ => 0)), (aI G 3840 (fun _ => 0))])) (RW_set0 (Nat.le_of_ble_eq_true rfl) rfl) ?_
  refine r_aload_n C dX7_init_97 rfl 0 rfl ?_
  refine r_bipush (v := nI 8) C dX7_init_98 (by decide) ?_
  refine r_newarrI C wA_int (by decide) (Nat.le_of_ble_eq_true rfl) (Nat.le_of_ble_eq_true rfl) dX7_init_100 ?_
  refine V.eq (σ2 := (hU (RW σ m0 [(.inr (7, [.ref (m0 + 1), .ref (m0 + 2), .ref (m0 + 3), .ref (m0 + 4), .int (nI 0), .ref (m0 + 5), .int (nI 0), .int (nI 0), .int (nI 0), .int (nI 0), .int (nI 0), .int (nI 0), .int (nI 0), .ref (m0 + 6), .ref (m0 + 7), .ref (m0 + 8), .ref (m0 + 9), .ref (m0 + 10), .ref (m0 + 11), .null, .null])), (aI G 38 (fun _ => 0)), (aI G 152 (fun _ => 0)), (aI G 38 (fun _ => 0)), (aI G 38 (fun _ => 0)), (aC G 50 (fun _ => 0)), (aI G 6 (fun _ => 0)), (aI G 6 (fun _ => 0)), (aI G 23040 (fun _ => 0)), (aI G 3840 (fun _ => 0)), (aI G 3840 (fun _ => 0)), (aI G 3840 (fun _ => 0))]) (m0 + 12) (aI G 8 (fun _ => 0)))) (n2 := m0 + 13) rfl rfl rfl rfl ?_
  refine V.hp (σ2 := (RW σ m0 [(.inr (7, [.ref (m0 + 1), .ref (m0 + 2), .ref (m0 + 3), .ref (m0 + 4), .int (nI 0), .ref (m0 + 5), .int (nI 0), .int (nI 0), .int (nI 0), .int (nI 0), .int (nI 0), .int (nI 0), .int (nI 0), .ref (m0 + 6), .ref (m0 + 7), .ref (m0 + 8), .ref (m0 + 9), .ref (m0 + 10), .ref (m0 + 11), .null, .null])), (aI G 38 (fun _ => 0)), (aI G 152 (fun _ => 0)), (aI G 38 (fun _ => 0)), (aI G 38 (fun _ => 0)), (aC G 50 (fun _ => 0)), (aI G 6 (fun _ => 0)), (aI G 6 (fun _ => 0)), (aI G 23040 (fun _ => 0)), (aI G 3840 (fun _ => 0)), (aI G 3840 (fun _ => 0)), (aI G 3840 (fun _ => 0)), (aI G 8 (fun _ => 0))])) (RW_snoc (m := 12) rfl rfl) ?_
  refine r_putF (Cn := RX7) (T := TX7) (N := 21) (fs2 := [.ref (m0 + 1), .ref (m0 + 2), .ref (m0 + 3), .ref (m0 + 4), .int (nI 0), .ref (m0 + 5), .int (nI 0), .int (nI 0), .int (nI 0), .int (nI 0), .int (nI 0), .int (nI 0), .int (nI 0), .ref (m0 + 6), .ref (m0 + 7), .ref (m0 + 8), .ref (m0 + 9), .ref (m0 + 10), .ref (m0 + 11), .ref (m0 + 12), .null]) C inlX7 tyX7 tyX7_ok nmX7 (RW_at0 rfl) rfl 19 (by decide) wF_X7_44 (fun _ h => h) rfl hname rfl (tyX7_ok 19 (by decide)) rfl rfl (Nat.le_of_ble_eq_true rfl) rfl dX7_init_102 ?_
  refine V.hp (σ2 := (RW σ m0 [(.inr (7, [.ref (m0 + 1), .ref (m0 + 2), .ref (m0 + 3), .ref (m0 + 4), .int (nI 0), .ref (m0 + 5), .int (nI 0), .int (nI 0), .int (nI 0), .int (nI 0), .int (nI 0), .int (nI 0), .int (nI 0), .ref (m0 + 6), .ref (m0 + 7), .ref (m0 + 8), .ref (m0 + 9), .ref (m0 + 10), .ref (m0 + 11), .ref (m0 + 12), .null])), (aI G 38 (fun _ => 0)), (aI G 152 (fun _ => 0)), (aI G 38 (fun _ => 0)), (aI G 38 (fun _ => 0)), (aC G 50 (fun _ => 0)), (aI G 6 (fun _ => 0)), (aI G 6 (fun _ => 0)), (aI G 23040 (fun _ => 0)), (aI G 3840 (fun _ => 0)), (aI G 3840 (fun _ => 0)), (aI G 3840 (fun _ => 0)), (aI G 8 (fun _ => 0))])) (RW_set0 (Nat.le_of_ble_eq_true rfl) rfl) ?_
  refine r_aload_n C dX7_init_105 rfl 0 rfl ?_
  refine r_bipush (v := nI 8) C dX7_init_106 (by decide) ?_
  refine r_newarrI C wA_int (by decide) (Nat.le_of_ble_eq_true rfl) (Nat.le_of_ble_eq_true rfl) dX7_init_108 ?_
  refine V.eq (σ2 := (hU (RW σ m0 [(.inr (7, [.ref (m0 + 1), .ref (m0 + 2), .ref (m0 + 3), .ref (m0 + 4), .int (nI 0), .ref (m0 + 5), .int (nI 0), .int (nI 0), .int (nI 0), .int (nI 0), .int (nI 0), .int (nI 0), .int (nI 0), .ref (m0 + 6), .ref (m0 + 7), .ref (m0 + 8), .ref (m0 + 9), .ref (m0 + 10), .ref (m0 + 11), .ref (m0 + 12), .null])), (aI G 38 (fun _ => 0)), (aI G 152 (fun _ => 0)), (aI G 38 (fun _ => 0)), (aI G 38 (fun _ => 0)), (aC G 50 (fun _ => 0)), (aI G 6 (fun _ => 0)), (aI G 6 (fun _ => 0)), (aI G 23040 (fun _ => 0)), (aI G 3840 (fun _ => 0)), (aI G 3840 (fun _ => 0)), (aI G 3840 (fun _ => 0)), (aI G 8 (fun _ => 0))]) (m0 + 13) (aI G 8 (fun _ => 0)))) (n2 := m0 + 14) rfl rfl rfl rfl ?_
  refine V.hp (σ2 := (RW σ m0 [(.inr (7, [.ref (m0 + 1), .ref (m0 + 2), .ref (m0 + 3), .ref (m0 + 4), .int (nI 0), .ref (m0 + 5), .int (nI 0), .int (nI 0), .int (nI 0), .int (nI 0), .int (nI 0), .int (nI 0), .int (nI 0), .ref (m0 + 6), .ref (m0 + 7), .ref (m0 + 8), .ref (m0 + 9), .ref (m0 + 10), .ref (m0 + 11), .ref (m0 + 12), .null])), (aI G 38 (fun _ => 0)), (aI G 152 (fun _ => 0)), (aI G 38 (fun _ => 0)), (aI G 38 (fun _ => 0)), (aC G 50 (fun _ => 0)), (aI G 6 (fun _ => 0)), (aI G 6 (fun _ => 0)), (aI G 23040 (fun _ => 0)), (aI G 3840 (fun _ => 0)), (aI G 3840 (fun _ => 0)), (aI G 3840 (fun _ => 0)), (aI G 8 (fun _ => 0)), (aI G 8 (fun _ => 0))])) (RW_snoc (m := 13) rfl rfl) ?_
  refine r_putF (Cn := RX7) (T := TX7) (N := 21) (fs2 := [.ref (m0 + 1), .ref (m0 + 2), .ref (m0 + 3), .ref (m0 + 4), .int (nI 0), .ref (m0 + 5), .int (nI 0), .int (nI 0), .int (nI 0), .int (nI 0), .int (nI 0), .int (nI 0), .int (nI 0), .ref (m0 + 6), .ref (m0 + 7), .ref (m0 + 8), .ref (m0 + 9), .ref (m0 + 10), .ref (m0 + 11), .ref (m0 + 12), .ref (m0 + 13)]) C inlX7 tyX7 tyX7_ok nmX7 (RW_at0 rfl) rfl 20 (by decide) wF_X7_47 (fun _ h => h) rfl hname rfl (tyX7_ok 20 (by decide)) rfl rfl (Nat.le_of_ble_eq_true rfl) rfl dX7_init_110 ?_
  refine V.hp (σ2 := (RW σ m0 [(.inr (7, [.ref (m0 + 1), .ref (m0 + 2), .ref (m0 + 3), .ref (m0 + 4), .int (nI 0), .ref (m0 + 5), .int (nI 0), .int (nI 0), .int (nI 0), .int (nI 0), .int (nI 0), .int (nI 0), .int (nI 0), .ref (m0 + 6), .ref (m0 + 7), .ref (m0 + 8), .ref (m0 + 9), .ref (m0 + 10), .ref (m0 + 11), .ref (m0 + 12), .ref (m0 + 13)])), (aI G 38 (fun _ => 0)), (aI G 152 (fun _ => 0)), (aI G 38 (fun _ => 0)), (aI G 38 (fun _ => 0)), (aC G 50 (fun _ => 0)), (aI G 6 (fun _ => 0)), (aI G 6 (fun _ => 0)), (aI G 23040 (fun _ => 0)), (aI G 3840 (fun _ => 0)), (aI G 3840 (fun _ => 0)), (aI G 3840 (fun _ => 0)), (aI G 8 (fun _ => 0)), (aI G 8 (fun _ => 0))])) (RW_set0 (Nat.le_of_ble_eq_true rfl) rfl) ?_
  exact r_vret C hr hlocks (Nat.le_of_ble_eq_true rfl) (Nat.le_of_ble_eq_true rfl) dX7_init_113 (hpo _ _ _ ⟨rfl, rfl, rfl⟩)
/-! both sides: the kitchen, the history, how many states, the text, its length -/
abbrev ZT : Type := AK × (Nat → AK) × Nat × (Nat → Nat) × Nat
def zA (Z : ZT) : AK := Z.1
def zH (Z : ZT) : Nat → AK := Z.2.1
def zS (Z : ZT) : Nat := Z.2.2.1
def zX (Z : ZT) : Nat → Nat := Z.2.2.2.1
def zL (Z : ZT) : Nat := Z.2.2.2.2
def ZOK (Z : ZT) : Prop := AOK (zA Z) ∧ (∀ i, i < zS Z → AOK (zH Z i)) ∧ zS Z ≤ 4 ∧ zL Z ≤ 50 ∧ ∀ j, zX Z j < 128
def KTy (tau : Nat → Option Rl) (K : KT) (a : AK) : Prop := ∀ k, k < aN a → ∃ sa la, kS K k = some sa ∧ tau sa = some (rShp (aKd a k) (aCk a k) (aSr a k) la)
theorem KTy.mono {tau tau2 : Nat → Option Rl} {K : KT} {a : AK} (h : KTy tau K a) (hm : ∀ q r1, tau q = some r1 → tau2 q = some r1) : KTy tau2 K a := fun k hk => by
  obtain ⟨sa, la, h1, h2⟩ := h k hk
  exact ⟨sa, la, h1, hm _ _ h2⟩
theorem KTy.cg {tau : Nat → Option Rl} {K K2 : KT} {a a2 : AK} (h : KTy tau K a) (hS : kS K2 = kS K) (hn : aN a2 = aN a) (hs : a2.2.2.1 = a.2.2.1) : KTy tau K2 a2 := fun k hk => by
  obtain ⟨sa, la, h1, h2⟩ := h k (by omega)
  exact ⟨sa, la, by rw [hS]; exact h1, by rw [aKd, aCk, aSr, hs]; exact h2⟩
theorem KTy.sh {G : gG} {B n : Nat} {σ : gS} {tau : Nat → Option Rl} {K : KT} {a : AK} (h : KTy tau K a) (hD : DynI G B n σ tau) : ∀ k, k < aN a → ∃ sa, kS K k = some sa ∧ ShpAt G B σ sa (aKd a k) (aCk a k) (aSr a k) := fun k hk => by
  obtain ⟨sa, la, h1, h2⟩ := h k hk
  exact ⟨sa, h1, hD.shp h2⟩
def WCL (G : gG) (b0 ph st L : Nat) (fp fq fx : Nat → Option Nat) (rs fpl tn op dg : Int32) (ftx : Nat → Int32) (Kn Kt Ka Kb Kc Kd : KT) : List va_E := [(.inr (6, [.ref (b0 + 1), .ref (b0 + 5), .ref (b0 + 7), .ref (b0 + 13), .ref (b0 + 19), .int (nI st)])), (.inr (3, [.ref (b0 + 2), .ref (b0 + 3), .ref (b0 + 4)])), (aR 3 G 7 fp), (aR 3 G 6 fq), (aR 4 G 616 fx), (.inr (5, [.int (nI L), .int rs, .int fpl, .int tn, .ref (b0 + 6), .int op, .int dg])), (aI G 50 ftx), (.inr (0, [.int (nI (kN Kn)), .int (nI (kH Kn)), .ref (b0 + 8), .ref (b0 + 9), .ref (b0 + 10), .ref (b0 + 11), .ref (b0 + 12)])), (aI G 3 (kT Kn)), (aI G 3 (kW Kn)), (aR 4 G 5 (kS Kn)), (aI G 5 (kR Kn)), (aI G 5 (kM Kn)), (.inr (0, [.int (nI (kN Kt)), .int (nI (kH Kt)), .ref (b0 + 14), .ref (b0 + 15), .ref (b0 + 16), .ref (b0 + 17), .ref (b0 + 18)])), (aI G 3 (kT Kt)), (aI G 3 (kW Kt)), (aR 4 G 5 (kS Kt)), (aI G 5 (kR Kt)), (aI G 5 (kM Kt)), (aR 2 G 4 (hst4 ph b0)), (.inr (0, [.int (nI (kN Ka)), .int (nI (kH Ka)), .ref (b0 + 21), .ref (b0 + 22), .ref (b0 + 23), .ref (b0 + 24), .ref (b0 + 25)])), (aI G 3 (kT Ka)), (aI G 3 (kW Ka)), (aR 4 G 5 (kS Ka)), (aI G 5 (kR Ka)), (aI G 5 (kM Ka)), (.inr (0, [.int (nI (kN Kb)), .int (nI (kH Kb)), .ref (b0 + 27), .ref (b0 + 28), .ref (b0 + 29), .ref (b0 + 30), .ref (b0 + 31)])), (aI G 3 (kT Kb)), (aI G 3 (kW Kb)), (aR 4 G 5 (kS Kb)), (aI G 5 (kR Kb)), (aI G 5 (kM Kb)), (.inr (0, [.int (nI (kN Kc)), .int (nI (kH Kc)), .ref (b0 + 33), .ref (b0 + 34), .ref (b0 + 35), .ref (b0 + 36), .ref (b0 + 37)])), (aI G 3 (kT Kc)), (aI G 3 (kW Kc)), (aR 4 G 5 (kS Kc)), (aI G 5 (kR Kc)), (aI G 5 (kM Kc)), (.inr (0, [.int (nI (kN Kd)), .int (nI (kH Kd)), .ref (b0 + 39), .ref (b0 + 40), .ref (b0 + 41), .ref (b0 + 42), .ref (b0 + 43)])), (aI G 3 (kT Kd)), (aI G 3 (kW Kd)), (aR 4 G 5 (kS Kd)), (aI G 5 (kR Kd)), (aI G 5 (kM Kd))]
def WX (G : gG) (b0 n : Nat) (σ : gS) (Z : ZT) (mi : Nat) : Prop := ∃ (ph : Nat) (tau : Nat → Option Rl) (fp fq fx : Nat → Option Nat) (rs fpl tn op dg : Int32) (ftx : Nat → Int32) (Kn Kt Ka Kb Kc Kd : KT),
  ph < 4 ∧ RW σ b0 (WCL G b0 ph (zS Z) (zL Z) fp fq fx rs fpl tn op dg ftx Kn Kt Ka Kb Kc Kd) = σ ∧ DynI G (b0 + 58) n σ tau ∧ b0 + 58 ≤ n ∧ ShelfR tau fp fq fx ∧ mis fp fq ≤ mi ∧ (KSh tau Kn ∧ KSh tau Kt ∧ KSh tau Ka ∧ KSh tau Kb ∧ KSh tau Kc ∧ KSh tau Kd) ∧
  KA Kn (zA Z) ∧ KTy tau Kn (zA Z) ∧ (∀ i, i < zS Z → KA (hP ph Ka Kb Kc Kd i) (zH Z i) ∧ KTy tau (hP ph Ka Kb Kc Kd i) (zH Z i)) ∧ (∀ j, j < zL Z → ftx j = nI (zX Z j))
def WM (G : gG) (b0 : Nat) (σ : gS) (Z : ZT) : Prop := ∃ (xat xreason xdone xkind xn xstrength : Int32) (fs fwas fbegun faside ftext fsize fburnt fnext ffar fthen fqueue frankAt fturnAt : Nat → Int32),
  mW G σ (b0 + 44) [nI (zS Z), nI (zL Z), xat, xreason, xdone, xkind, xn, xstrength] [fs, fwas, fbegun, faside, ftext, fsize, fburnt, fnext, ffar, fthen, fqueue, frankAt, fturnAt] = σ ∧
  MR fs (zA Z) ∧ (∀ i, i < zS Z → MR (fun j => fwas (38 * i + j)) (zH Z i)) ∧ (∀ j, j < zL Z → ftext j = nI (zX Z j))
def PX (G : gG) (b0 n : Nat) (σ : gS) (mi : Nat) (Z2 : ZT) (ans : Int32) : Option Value → Nat → gS → Prop := fun rv n2 σ2 => rv = some (.int ans) ∧ n ≤ n2 ∧ WX G b0 n2 σ2 Z2 mi ∧ ∀ q, b0 + 44 ≤ q → q < b0 + 58 → σ2 q = σ q
def PM (G : gG) (b0 n : Nat) (σ : gS) (Z2 : ZT) (ans : Int32) : Option Value → Nat → gS → Prop := fun rv n2 σ2 => rv = some (.int ans) ∧ n2 = n ∧ WM G b0 σ2 Z2 ∧ ∀ q, q < b0 + 44 ∨ b0 + 58 ≤ q → σ2 q = σ q
abbrev rmC : Room := { frames := 40, cells := 7, slots := 7686, locals := 4000 }
abbrev rmS : Room := { frames := 40, cells := 7, slots := 31935, locals := 4000 }
abbrev rmM : Room := { frames := 40, cells := 0, slots := 0, locals := 4000 }
theorem wx_at {σ : gS} {b : Nat} {L : List va_E} {e : va_E} (h : RW σ b L = σ) (j : Nat) (hj : L[j]? = some e) : σ (b + j) = some e := by
  rw [← h]
  exact RW_at j hj
theorem wx_at0 {σ : gS} {b : Nat} {L : List va_E} {e : va_E} (h : RW σ b L = σ) (hj : L[0]? = some e) : σ b = some e := wx_at h 0 hj
theorem RW_fix {σ τ : gS} {b : Nat} {L : List va_E} (h : RW σ b L = σ) (hf : ∀ q, b ≤ q → q < b + L.length → τ q = σ q) : RW τ b L = τ := by
  funext q
  by_cases z : b ≤ q ∧ q < b + L.length
  · have h2 := congrFun h q
    rw [RW, if_pos z] at h2 ⊢
    rw [h2, hf q z.1 z.2]
  · rw [RW, if_neg z]
theorem mW_fix {G : gG} {σ τ : gS} {m0 : Nat} {S : List Int32} {A : List (Nat → Int32)} (h : mW G σ m0 S A = σ) (hf : ∀ q, m0 ≤ q → q < m0 + 14 → τ q = σ q) : mW G τ m0 S A = τ := by
  funext q
  have h2 := congrFun h q
  by_cases z : q = m0
  · rw [hf q (by omega) (by omega), ← h2]
    simp [mW, z]
  · by_cases y : m0 < q ∧ q ≤ m0 + 13
    · rw [hf q (by omega) (by omega), ← h2]
      simp [mW, z, y]
    · simp [mW, z, y]
theorem WX.fr {G : gG} {b0 n n2 mi : Nat} {σ τ : gS} {Z : ZT} (h : WX G b0 n σ Z mi) (hn : n ≤ n2) (hf : ∀ q, q < b0 + 44 ∨ b0 + 58 ≤ q → τ q = σ q) : WX G b0 n2 τ Z mi := by
  obtain ⟨ph, tau, fp, fq, fx, rs, fpl, tn, op, dg, ftx, Kn, Kt, Ka, Kb, Kc, Kd, hp4, hE, hD, hB, g⟩ := h
  exact ⟨ph, tau, fp, fq, fx, rs, fpl, tn, op, dg, ftx, Kn, Kt, Ka, Kb, Kc, Kd, hp4, RW_fix hE (fun q h1 h2 => hf q (Or.inl h2)), hD.fr hn (fun q h1 _ => hf q (Or.inr h1)), by omega, g⟩
theorem WX.mi {G : gG} {b0 n m1 m2 : Nat} {σ : gS} {Z : ZT} (h : WX G b0 n σ Z m1) (hm : m1 ≤ m2) : WX G b0 n σ Z m2 := by
  obtain ⟨ph, tau, fp, fq, fx, rs, fpl, tn, op, dg, ftx, Kn, Kt, Ka, Kb, Kc, Kd, hp4, hE, hD, hB, hS, hmi, g⟩ := h
  exact ⟨ph, tau, fp, fq, fx, rs, fpl, tn, op, dg, ftx, Kn, Kt, Ka, Kb, Kc, Kd, hp4, hE, hD, hB, hS, by omega, g⟩
theorem WM.fr {G : gG} {b0 : Nat} {σ τ : gS} {Z : ZT} (h : WM G b0 σ Z) (hf : ∀ q, b0 + 44 ≤ q → q < b0 + 58 → τ q = σ q) : WM G b0 τ Z := by
  obtain ⟨xat, xreason, xdone, xkind, xn, xstrength, fs, fwas, fbegun, faside, ftext, fsize, fburnt, fnext, ffar, fthen, fqueue, frankAt, fturnAt, hE, g⟩ := h
  exact ⟨xat, xreason, xdone, xkind, xn, xstrength, fs, fwas, fbegun, faside, ftext, fsize, fburnt, fnext, ffar, fthen, fqueue, frankAt, fturnAt, mW_fix hE (fun q h1 h2 => hf q (by omega) (by omega)), g⟩
theorem px_read {G : gG} {b0 n mi : Nat} {σ : gS} {Z : ZT} {ans : Int32} (hW : WX G b0 n σ Z mi) {v : Option Value} {n' : Nat} {σ' : gS} (e1 : some (.int ans) = v) (e2 : n = n') (e3 : σ = σ') : PX G b0 n σ mi Z ans v n' σ' := by
  subst e2; subst e3
  exact ⟨e1.symm, Nat.le_refl _, hW, fun _ _ _ => rfl⟩
/-- a world of the class, by its parts -/
theorem px_mk {G : gG} {b0 n n' mi : Nat} {σ σ0 σ' : gS} {Z2 : ZT} {ans : Int32} {v : Option Value} {ph : Nat} {tau : Nat → Option Rl} {st L : Nat} {fp fq fx : Nat → Option Nat} {rs fpl tn op dg : Int32} {ftx : Nat → Int32} {Kn Kt Ka Kb Kc Kd : KT}
    (e1 : some (.int ans) = v) (hn : n ≤ n') (e3 : RW σ0 b0 (WCL G b0 ph st L fp fq fx rs fpl tn op dg ftx Kn Kt Ka Kb Kc Kd) = σ') (hst : zS Z2 = st) (hL : zL Z2 = L) (hfr : ∀ q, b0 + 44 ≤ q → q < b0 + 58 → σ0 q = σ q) (hD : DynI G (b0 + 58) n' σ0 tau) (hB : b0 + 58 ≤ n') (hS : ShelfR tau fp fq fx) (hm : mis fp fq ≤ mi)
    (hK : KSh tau Kn ∧ KSh tau Kt ∧ KSh tau Ka ∧ KSh tau Kb ∧ KSh tau Kc ∧ KSh tau Kd) (hA : KA Kn (zA Z2)) (hT : KTy tau Kn (zA Z2)) (hH : ∀ i, i < st → KA (hP ph Ka Kb Kc Kd i) (zH Z2 i) ∧ KTy tau (hP ph Ka Kb Kc Kd i) (zH Z2 i)) (hX : ∀ j, j < L → ftx j = nI (zX Z2 j)) (hp4 : ph < 4 := by assumption) : PX G b0 n σ mi Z2 ans v n' σ' := by
  subst hst; subst hL
  have hlen : (WCL G b0 ph (zS Z2) (zL Z2) fp fq fx rs fpl tn op dg ftx Kn Kt Ka Kb Kc Kd).length = 44 := rfl
  have hhi : ∀ q, b0 + 44 ≤ q → σ' q = σ0 q := fun q hq => by rw [← e3, RW_ne hlen (by omega)]
  refine ⟨e1.symm, hn, ⟨ph, tau, fp, fq, fx, rs, fpl, tn, op, dg, ftx, Kn, Kt, Ka, Kb, Kc, Kd, hp4, ?_, hD.fr (Nat.le_refl _) (fun q h1 _ => hhi q (by omega)), hB, hS, hm, hK, hA, hT, hH, hX⟩, fun q h1 h2 => (hhi q h1).trans (hfr q h1 h2)⟩
  rw [← e3]
  exact RW_over (Nat.le_refl _)
/-- a world of the reference, by its parts -/
theorem pm_mk {G : gG} {b0 n n' : Nat} {σ σ' : gS} {Z2 : ZT} {ans : Int32} {v : Option Value} {st L : Nat} {xat xreason xdone xkind xn xstrength : Int32} {fs fwas fbegun faside ftext fsize fburnt fnext ffar fthen fqueue frankAt fturnAt : Nat → Int32}
    (e1 : some (.int ans) = v) (hn : n = n') (e3 : mW G σ (b0 + 44) [nI st, nI L, xat, xreason, xdone, xkind, xn, xstrength] [fs, fwas, fbegun, faside, ftext, fsize, fburnt, fnext, ffar, fthen, fqueue, frankAt, fturnAt] = σ') (hst : zS Z2 = st) (hL : zL Z2 = L)
    (hR : MR fs (zA Z2)) (hW : ∀ i, i < st → MR (fun j => fwas (38 * i + j)) (zH Z2 i)) (hT : ∀ j, j < L → ftext j = nI (zX Z2 j)) : PM G b0 n σ Z2 ans v n' σ' := by
  subst hst; subst hL
  refine ⟨e1.symm, hn.symm, ⟨xat, xreason, xdone, xkind, xn, xstrength, fs, fwas, fbegun, faside, ftext, fsize, fburnt, fnext, ffar, fthen, fqueue, frankAt, fturnAt, ?_, hR, hW, hT⟩, fun q hq => ?_⟩
  · rw [← e3, mW_mW]
  · rw [← e3]
    have h1 : ¬ q = b0 + 44 := by omega
    have h2 : ¬ (b0 + 44 < q ∧ q ≤ b0 + 44 + 13) := by omega
    simp only [mW, if_neg h1, if_neg h2]
/-- the history with one more state -/
def zP (Z : ZT) (a2 : AK) : ZT := (a2, (fun i => if zS Z < 4 then (if i = zS Z then zA Z else zH Z i) else (if i = 3 then zA Z else zH Z (i + 1))), (if zS Z < 4 then zS Z + 1 else 4), zX Z, zL Z)
theorem zP_ok {Z : ZT} {a2 : AK} (h : ZOK Z) (h2 : AOK a2) : ZOK (zP Z a2) := by
  obtain ⟨g1, g2, g3, g4, g5⟩ := h
  refine ⟨h2, fun i hi => ?_, ?_, g4, g5⟩
  · show AOK (if zS Z < 4 then (if i = zS Z then zA Z else zH Z i) else (if i = 3 then zA Z else zH Z (i + 1)))
    have hi : i < (if zS Z < 4 then zS Z + 1 else 4) := hi
    by_cases c : zS Z < 4
    · rw [if_pos c] at hi ⊢
      by_cases d : i = zS Z
      · rw [if_pos d]; exact g1
      · rw [if_neg d]; exact g2 i (by omega)
    · rw [if_neg c] at hi ⊢
      by_cases d : i = 3
      · rw [if_pos d]; exact g1
      · rw [if_neg d]; exact g2 (i + 1) (by omega)
  · show (if zS Z < 4 then zS Z + 1 else 4) ≤ 4
    split <;> omega
theorem zP_s {Z : ZT} {a2 : AK} {s2 : Nat} (h : (zS Z < 4 ∧ s2 = zS Z) ∨ (zS Z = 4 ∧ s2 = 3)) : zS (zP Z a2) = s2 + 1 := by
  show (if zS Z < 4 then zS Z + 1 else 4) = s2 + 1
  rcases h with ⟨c, d⟩ | ⟨c, d⟩
  · rw [if_pos c, d]
  · rw [if_neg (by omega), d]
/-- what holds of the new history, by what holds of the old one and the kitchen -/
theorem zP_h {Z : ZT} {a2 : AK} {s2 : Nat} {P : Nat → AK → Prop} {P0 : AK → Prop} {P1 : Nat → AK → Prop} (h0 : P0 (zA Z)) (h1 : ∀ i, i < zS Z → P1 i (zH Z i)) (hk : ∀ a, P0 a → P s2 a) (h : (zS Z < 4 ∧ s2 = zS Z ∧ ∀ i a, i < s2 → P1 i a → P i a) ∨ (zS Z = 4 ∧ s2 = 3 ∧ ∀ i a, i < 3 → P1 (i + 1) a → P i a)) : ∀ i, i < s2 + 1 → P i (zH (zP Z a2) i) := fun i hi => by
  show P i (if zS Z < 4 then (if i = zS Z then zA Z else zH Z i) else (if i = 3 then zA Z else zH Z (i + 1)))
  rcases h with ⟨c, d, f⟩ | ⟨c, d, f⟩
  · rw [if_pos c]
    by_cases g : i = zS Z
    · rw [if_pos g, g, ← d]; exact hk _ h0
    · rw [if_neg g]; exact f i _ (by omega) (h1 i (by omega))
  · rw [if_neg (by omega)]
    by_cases g : i = 3
    · rw [if_pos g, g, ← d]; exact hk _ h0
    · rw [if_neg g]; exact f i _ (by omega) (h1 (i + 1) (by omega))
