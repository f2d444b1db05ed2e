abbrev rm_L_cell : Room := { frames := 0, cells := 0, slots := 0, locals := 0 }
set_option maxRecDepth 100000 in
set_option maxHeartbeats 4000000 in
theorem c_L_cell {l : Launch} {G : gG} {n : Nat} {σ : gS} {b L k : Nat} {xs : Nat → Int32}  (hL : L ≤ 260) (hk : k < 100) (hbG : ¬ G.2.2 ≤ b)   : CM l G yL_cell cL_cell 2 (some .int) rm_L_cell n σ [.ref b, .int (nI k)] b L xs (fun rv n2 σ2 => ∃ (y9 : Nat), some (.int (nI y9)) = rv ∧ n = n2 ∧ σ = σ2 ∧ (y9 < 2 ^ 31)) := by
  refine CM.intro (by decide +kernel) (Nat.le_of_ble_eq_true rfl) (fun p e s m args below meth c C hX hbl hr hlocks hname po hpo => ?_)
  have C : Cx p s m args c cL_cell 2 RL G := C
  refine r_iload_n C dL_cell_0 rfl 1 rfl ?_
  refine r_aload_n C dL_cell_1 rfl 0 rfl ?_
  refine r_slen2 C hX hbl hbG dL_cell_2 ?_
  refine r_icmp_geN (tgt := 12) C dL_cell_3 (by decide) (by omega) (by omega) (fun c3 => ?_) (fun c3 => ?_)
  · refine r_ldc C wQ_L_7 dL_cell_12 ?_
    refine V.top (y := nI 48271) (by decide) ?_
    refine r_iload_n C dL_cell_14 rfl 1 rfl ?_
    refine r_bipush (v := nI 53) C dL_cell_15 (by decide) ?_
    refine r_iaddN C dL_cell_17 ?_
    refine r_imulN C dL_cell_18 ?_
    refine r_ldc C wQ_L_8 dL_cell_19 ?_
    refine V.top (y := nI 2147483647) (by decide) ?_
    refine r_iandN C dL_cell_21 ?_
    obtain ⟨y9, hy9, hye⟩ := msk (nI (48271 * (k + 53)))
    refine V.top (y := nI y9) (by rw [← nI_and]; exact hye) ?_
    exact r_iret C hr hlocks (Nat.le_of_ble_eq_true rfl) (Nat.le_of_ble_eq_true rfl) dL_cell_22 (hpo _ _ _ ⟨y9, rfl, rfl, rfl, hy9⟩)
  · refine r_aload_n C dL_cell_6 rfl 0 rfl ?_
    refine r_iload_n C dL_cell_7 rfl 1 rfl ?_
    refine r_sld2 C hX hbl hbG (i := k) (by omega) (by omega) dL_cell_8 ?_
    refine r_goto (tgt := 19) C dL_cell_9 (by decide) ?_
    refine r_ldc C wQ_L_8 dL_cell_19 ?_
    refine V.top (y := nI 2147483647) (by decide) ?_
    refine r_iand C dL_cell_21 ?_
    obtain ⟨y9, hy9, hye⟩ := msk (xs k)
    refine V.top (y := nI y9) (hye) ?_
    exact r_iret C hr hlocks (Nat.le_of_ble_eq_true rfl) (Nat.le_of_ble_eq_true rfl) dL_cell_22 (hpo _ _ _ ⟨y9, rfl, rfl, rfl, hy9⟩)
