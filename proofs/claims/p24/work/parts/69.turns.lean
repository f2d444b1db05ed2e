abbrev rm_L_turns : Room := { frames := 41, cells := 0, slots := 0, locals := 4025 }
set_option maxRecDepth 100000 in
set_option maxHeartbeats 4000000 in
theorem c_L_turns {l : Launch} {G : gG} {n : Nat} {σ : gS} {b0 : Nat} {Z : ZT} {k m1 : Nat}  (hZ : ZOK Z) (hS : SUMI (zA Z)) (hk : k < aN (zA Z)) (hm : 1 ≤ m1 ∧ m1 ≤ aCk (zA Z) k) (hW : WX G b0 n σ Z 13) : GM l G yL_turns cL_turns 13 (some .boolean) rm_L_turns n σ [.ref b0, .int (nI k), .int (nI m1)] (fun rv n2 σ2 => ∃ (n9 : Nat) (σ9 : gS) (Z9 : ZT), some (.int (nI 1)) = rv ∧ n9 = n2 ∧ σ9 = σ2 ∧ (ZOK Z9) ∧ (SUMI (zA Z9)) ∧ (SHP (zA Z) (zA Z9)) ∧ (WX G b0 n9 σ9 Z9 13)) := by
  refine GM.intro (by decide +kernel) (Nat.le_of_ble_eq_true rfl) (fun p e s m args below meth c C hr hlocks hname po hpo => ?_)
  have C : Cx p s m args c cL_turns 13 RL G := C
  obtain ⟨hA, -, -, -, -⟩ := id hZ
  have hH3 := hA.2.1
  have hN5 := hA.1
  obtain ⟨fo, hob⟩ := hW.obj
  have hv := hA.2.2 k hk
  have hN6 := hv.1.N
  have hps := psA_lt hA hk
  have hgp := gpA_le (zA Z) k
  have hgb := gb_near hA hk hm.1 hm.2
  have hcd : cdA (zA Z) k < 1000000 := cd_lt hN6 hv.2.1
  have hsd64 : aSd (zA Z) k < 64 := Nat.lt_of_lt_of_le hv.2.2 (sm_le hN6)
  have hkd4 := hv.1.1
  refine r_aload_n C dL_turns_0 rfl 0 rfl ?_
  refine r_iload_n C dL_turns_1 rfl 1 rfl ?_
  refine r_iconst (v := nI 5) C dL_turns_2 (by decide) ?_
  refine r_callV (As := [.int (nI k), .int (nI 5)]) C (c_X6_stackOf_p5 (b0 := b0) (Z := Z) (k := k)  (by first | assumption | omega) (by first | assumption | omega) (by first | assumption | omega)) wM_L_15 wI_X6_stackOf wN_X6 wC_X6_stackOf wV_X6_stackOf hd_X6_stackOf ⟨Nat.le_of_ble_eq_true rfl, Nat.le_of_ble_eq_true rfl⟩ rfl hob rfl rfl (Nat.le_of_ble_eq_true rfl) dL_turns_3 ⟨(Nat.le_of_ble_eq_true rfl), (Nat.le_of_ble_eq_true rfl)⟩ (fun rv n2 σ2 hp => ?_)
  obtain ⟨rfl, rfl, rfl⟩ := hp
  refine V.eq (σ2 := σ) (n2 := n) (st2 := [.int (nI (gpA (zA Z) k))]) rfl rfl rfl rfl ?_
  refine r_istore_n (lv2 := [(3, .int (nI (gpA (zA Z) k))), (0, .ref b0), (1, .int (nI k)), (2, .int (nI m1))]) C dL_turns_6 rfl (by decide) rfl ?_
  refine r_aload_n C dL_turns_7 rfl 1 rfl ?_
  refine r_iload_n C dL_turns_8 rfl 2 rfl ?_
  refine r_iconst (v := nI 3) C dL_turns_9 (by decide) ?_
  refine r_callV (As := [.int (nI k), .int (nI 3)]) C (c_X6_stackOf_p3 (b0 := b0) (Z := Z) (k := k)  (by first | assumption | omega) (by first | assumption | omega) (by first | assumption | omega)) wM_L_15 wI_X6_stackOf wN_X6 wC_X6_stackOf wV_X6_stackOf hd_X6_stackOf ⟨Nat.le_of_ble_eq_true rfl, Nat.le_of_ble_eq_true rfl⟩ rfl hob rfl rfl (Nat.le_of_ble_eq_true rfl) dL_turns_10 ⟨(Nat.le_of_ble_eq_true rfl), (Nat.le_of_ble_eq_true rfl)⟩ (fun rv n2 σ2 hp => ?_)
  obtain ⟨rfl, rfl, rfl⟩ := hp
  refine V.eq (σ2 := σ) (n2 := n) (st2 := [.int (nI (cdA (zA Z) k))]) rfl rfl rfl rfl ?_
  refine r_istore (lv2 := [(4, .int (nI (cdA (zA Z) k))), (3, .int (nI (gpA (zA Z) k))), (0, .ref b0), (1, .int (nI k)), (2, .int (nI m1))]) C dL_turns_13 (by decide) rfl ?_
  refine r_aload_n C dL_turns_15 rfl 2 rfl ?_
  refine r_iload_n C dL_turns_16 rfl 3 rfl ?_
  refine r_iconst (v := nI 4) C dL_turns_17 (by decide) ?_
  refine r_callV (As := [.int (nI k), .int (nI 4)]) C (c_X6_stackOf_p4 (b0 := b0) (Z := Z) (k := k)  (by first | assumption | omega) (by first | assumption | omega) (by first | assumption | omega)) wM_L_15 wI_X6_stackOf wN_X6 wC_X6_stackOf wV_X6_stackOf hd_X6_stackOf ⟨Nat.le_of_ble_eq_true rfl, Nat.le_of_ble_eq_true rfl⟩ rfl hob rfl rfl (Nat.le_of_ble_eq_true rfl) dL_turns_18 ⟨(Nat.le_of_ble_eq_true rfl), (Nat.le_of_ble_eq_true rfl)⟩ (fun rv n2 σ2 hp => ?_)
  obtain ⟨rfl, rfl, rfl⟩ := hp
  refine V.eq (σ2 := σ) (n2 := n) (st2 := [.int (nI (aSd (zA Z) k))]) rfl rfl rfl rfl ?_
  refine r_istore (lv2 := [(5, .int (nI (aSd (zA Z) k))), (4, .int (nI (cdA (zA Z) k))), (3, .int (nI (gpA (zA Z) k))), (0, .ref b0), (1, .int (nI k)), (2, .int (nI m1))]) C dL_turns_21 (by decide) rfl ?_
  refine r_aload_n C dL_turns_23 rfl 3 rfl ?_
  refine r_iconst (v := nI 3) C dL_turns_24 (by decide) ?_
  refine r_callV (As := [.int (nI 3)]) C (c_X6_count_p3 (b0 := b0) (Z := Z)  (by first | assumption | omega) (by first | assumption | omega)) wM_L_9 wI_X6_count wN_X6 wC_X6_count wV_X6_count hd_X6_count ⟨Nat.le_of_ble_eq_true rfl, Nat.le_of_ble_eq_true rfl⟩ rfl hob rfl rfl (Nat.le_of_ble_eq_true rfl) dL_turns_25 ⟨(Nat.le_of_ble_eq_true rfl), (Nat.le_of_ble_eq_true rfl)⟩ (fun rv n2 σ2 hp => ?_)
  obtain ⟨rfl, rfl, rfl⟩ := hp
  refine V.eq (σ2 := σ) (n2 := n) (st2 := [.int (nI (aH (zA Z)))]) rfl rfl rfl rfl ?_
  refine r_istore (lv2 := [(6, .int (nI (aH (zA Z)))), (5, .int (nI (aSd (zA Z) k))), (4, .int (nI (cdA (zA Z) k))), (3, .int (nI (gpA (zA Z) k))), (0, .ref b0), (1, .int (nI k)), (2, .int (nI m1))]) C dL_turns_28 (by decide) rfl ?_
  refine r_aload_n C dL_turns_30 rfl 4 rfl ?_
  refine r_iconst (v := nI 4) C dL_turns_31 (by decide) ?_
  refine r_iload C dL_turns_32 0 rfl ?_
  refine r_iaddN C dL_turns_34 ?_
  refine r_callV (As := [.int (nI (4 + (aH (zA Z))))]) C (c_X6_count_t (b0 := b0) (Z := Z) (h := aH (zA Z))  (by first | assumption | omega) (by first | assumption | omega) (by first | assumption | omega)) wM_L_9 wI_X6_count wN_X6 wC_X6_count wV_X6_count hd_X6_count ⟨Nat.le_of_ble_eq_true rfl, Nat.le_of_ble_eq_true rfl⟩ rfl hob rfl rfl (Nat.le_of_ble_eq_true rfl) dL_turns_35 ⟨(Nat.le_of_ble_eq_true rfl), (Nat.le_of_ble_eq_true rfl)⟩ (fun rv n2 σ2 hp => ?_)
  obtain ⟨rfl, rfl, rfl⟩ := hp
  refine V.eq (σ2 := σ) (n2 := n) (st2 := [.int (aTu (zA Z) (aH (zA Z)))]) rfl rfl rfl rfl ?_
  refine r_istore (lv2 := [(7, .int (aTu (zA Z) (aH (zA Z)))), (6, .int (nI (aH (zA Z)))), (5, .int (nI (aSd (zA Z) k))), (4, .int (nI (cdA (zA Z) k))), (3, .int (nI (gpA (zA Z) k))), (0, .ref b0), (1, .int (nI k)), (2, .int (nI m1))]) C dL_turns_38 (by decide) rfl ?_
  refine r_aload_n C dL_turns_40 rfl 5 rfl ?_
  refine r_bipush (v := nI 7) C dL_turns_41 (by decide) ?_
  refine r_iload C dL_turns_43 1 rfl ?_
  refine r_iaddN C dL_turns_45 ?_
  refine r_callV (As := [.int (nI (7 + (aH (zA Z))))]) C (c_X6_count_w (b0 := b0) (Z := Z) (h := aH (zA Z))  (by first | assumption | omega) (by first | assumption | omega) (by first | assumption | omega)) wM_L_9 wI_X6_count wN_X6 wC_X6_count wV_X6_count hd_X6_count ⟨Nat.le_of_ble_eq_true rfl, Nat.le_of_ble_eq_true rfl⟩ rfl hob rfl rfl (Nat.le_of_ble_eq_true rfl) dL_turns_46 ⟨(Nat.le_of_ble_eq_true rfl), (Nat.le_of_ble_eq_true rfl)⟩ (fun rv n2 σ2 hp => ?_)
  obtain ⟨rfl, rfl, rfl⟩ := hp
  refine V.eq (σ2 := σ) (n2 := n) (st2 := [.int (aWo (zA Z) (aH (zA Z)))]) rfl rfl rfl rfl ?_
  refine r_istore (lv2 := [(8, .int (aWo (zA Z) (aH (zA Z)))), (7, .int (aTu (zA Z) (aH (zA Z)))), (6, .int (nI (aH (zA Z)))), (5, .int (nI (aSd (zA Z) k))), (4, .int (nI (cdA (zA Z) k))), (3, .int (nI (gpA (zA Z) k))), (0, .ref b0), (1, .int (nI k)), (2, .int (nI m1))]) C dL_turns_49 (by decide) rfl ?_
  refine r_aload_n C dL_turns_51 rfl 6 rfl ?_
  refine r_iload_n C dL_turns_52 rfl 7 rfl ?_
  refine r_bipush (v := nI 8) C dL_turns_53 (by decide) ?_
  refine r_callV (As := [.int (nI k), .int (nI 8)]) C (c_X6_stackOf_p8 (b0 := b0) (Z := Z) (k := k)  (by first | assumption | omega) (by first | assumption | omega) (by first | assumption | omega)) wM_L_15 wI_X6_stackOf wN_X6 wC_X6_stackOf wV_X6_stackOf hd_X6_stackOf ⟨Nat.le_of_ble_eq_true rfl, Nat.le_of_ble_eq_true rfl⟩ rfl hob rfl rfl (Nat.le_of_ble_eq_true rfl) dL_turns_55 ⟨(Nat.le_of_ble_eq_true rfl), (Nat.le_of_ble_eq_true rfl)⟩ (fun rv n2 σ2 hp => ?_)
  obtain ⟨rfl, rfl, rfl⟩ := hp
  refine V.eq (σ2 := σ) (n2 := n) (st2 := [.int (nI (psA (zA Z) k))]) rfl rfl rfl rfl ?_
  refine r_iload_n C dL_turns_58 rfl 8 rfl ?_
  refine r_ishrN C dL_turns_59 (by omega) (by omega) ?_
  refine r_iconst (v := nI 1) C dL_turns_60 (by decide) ?_
  refine r_iandN C dL_turns_61 ?_
  refine V.top (y := bI (okA (zA Z) k m1)) (by rw [bI_n, ps_bit hm.1 hm.2]) ?_
  refine r_istore (lv2 := [(9, .int (bI (okA (zA Z) k m1))), (8, .int (aWo (zA Z) (aH (zA Z)))), (7, .int (aTu (zA Z) (aH (zA Z)))), (6, .int (nI (aH (zA Z)))), (5, .int (nI (aSd (zA Z) k))), (4, .int (nI (cdA (zA Z) k))), (3, .int (nI (gpA (zA Z) k))), (0, .ref b0), (1, .int (nI k)), (2, .int (nI m1))]) C dL_turns_62 (by decide) rfl ?_
  refine r_aload_n C dL_turns_64 rfl 7 rfl ?_
  refine r_iload_n C dL_turns_65 rfl 8 rfl ?_
  refine r_iload_n C dL_turns_66 rfl 9 rfl ?_
  refine r_callV (As := [.int (nI k), .int (nI m1)]) C (c_X6_gapsBehind_p (b0 := b0) (Z := Z) (k := k) (w := m1)  (by first | assumption | omega) (by first | assumption | omega) (hm) (by first | assumption | omega)) wM_L_22 wI_X6_gapsBehind wN_X6 wC_X6_gapsBehind wV_X6_gapsBehind hd_X6_gapsBehind ⟨Nat.le_of_ble_eq_true rfl, Nat.le_of_ble_eq_true rfl⟩ rfl hob rfl rfl (Nat.le_of_ble_eq_true rfl) dL_turns_67 ⟨(Nat.le_of_ble_eq_true rfl), (Nat.le_of_ble_eq_true rfl)⟩ (fun rv n2 σ2 hp => ?_)
  obtain ⟨rfl, rfl, rfl⟩ := hp
  refine V.eq (σ2 := σ) (n2 := n) (st2 := [.int (nI (gbA (zA Z) k m1))]) rfl rfl rfl rfl ?_
  refine r_istore (lv2 := [(10, .int (nI (gbA (zA Z) k m1))), (9, .int (bI (okA (zA Z) k m1))), (8, .int (aWo (zA Z) (aH (zA Z)))), (7, .int (aTu (zA Z) (aH (zA Z)))), (6, .int (nI (aH (zA Z)))), (5, .int (nI (aSd (zA Z) k))), (4, .int (nI (cdA (zA Z) k))), (3, .int (nI (gpA (zA Z) k))), (0, .ref b0), (1, .int (nI k)), (2, .int (nI m1))]) C dL_turns_70 (by decide) rfl ?_
  rcases Bool.eq_false_or_eq_true (okA (zA Z) k m1) with hok | hok
  · refine V.eq (lv2 := [(10, .int (nI (gbA (zA Z) k m1))), (9, .int (nI 1)), (8, .int (aWo (zA Z) (aH (zA Z)))), (7, .int (aTu (zA Z) (aH (zA Z)))), (6, .int (nI (aH (zA Z)))), (5, .int (nI (aSd (zA Z) k))), (4, .int (nI (cdA (zA Z) k))), (3, .int (nI (gpA (zA Z) k))), (0, .ref b0), (1, .int (nI k)), (2, .int (nI m1))]) rfl rfl (by rw [(show bI (okA (zA Z) k m1) = nI 1 from by rw [hok]; rfl)]) rfl ?_
    refine r_aload_n C dL_turns_72 rfl 8 rfl ?_
    refine r_iload_n C dL_turns_73 rfl 9 rfl ?_
    refine r_iload_n C dL_turns_74 rfl 10 rfl ?_
    refine r_callV (As := [.int (nI k), .int (nI m1)]) C (c_X6_turn_py (b0 := b0) (Z := Z) (k := k) (w := m1)  (by first | assumption | omega) (by first | assumption | omega) (hm) (hok) (by first | assumption | omega)) wM_L_25 wI_X6_turn wN_X6 wC_X6_turn wV_X6_turn hd_X6_turn ⟨Nat.le_of_ble_eq_true rfl, Nat.le_of_ble_eq_true rfl⟩ rfl hob rfl rfl (Nat.le_of_ble_eq_true rfl) dL_turns_75 ⟨(Nat.le_of_ble_eq_true rfl), (Nat.le_of_ble_eq_true rfl)⟩ (fun rv n2 σ2 hp => ?_)
    obtain ⟨nw1, σw1, rfl, rfl, rfl, hWw1⟩ := hp
    refine V.eq (σ2 := σw1) (n2 := nw1) (st2 := [.int (nI (gbA (zA Z) k m1))]) rfl rfl rfl rfl ?_
    obtain ⟨Z1, hZe1⟩ : ∃ z, z = zP Z (tnA (zA Z) k m1) := ⟨_, rfl⟩
    rw [← hZe1] at hWw1
    have hz1 : zA Z1 = tnA (zA Z) k m1 := by rw [hZe1]; rfl
    have hZ1 : ZOK Z1 := by rw [hZe1]; exact zP_ok hZ (tnA_ok hA hk hok)
    have hA1 := hZ1.1
    obtain ⟨t1, t2, t3, t4, t5, t6, t7, t8, t9, t10⟩ := tnA_f (zA Z) k m1
    have e5 : gpA (zA Z1) k = gbA (zA Z) k m1 := by rw [hz1]; exact gpA_tn _ _ _
    have eb : gbA (zA Z1) k m1 = gpA (zA Z) k := by rw [hz1]; exact gbA_tn hA hk hm.2
    have hk1 : k < aN (zA Z1) := by rw [hz1]; exact hk
    have hc1 : aCk (zA Z1) k = aCk (zA Z) k := by rw [hz1]; exact t4 k
    have hd1 : aKd (zA Z1) k = aKd (zA Z) k := by rw [hz1]; exact t3 k
    have hh1 : aH (zA Z1) = (aH (zA Z) + 1) % 3 := by rw [hz1]; exact t6
    have ht1 : aTu (zA Z1) (aH (zA Z)) = aTu (zA Z) (aH (zA Z)) + nI 1 := by rw [hz1]; exact t9
    have hw1 : aWo (zA Z1) (aH (zA Z)) = aWo (zA Z) (aH (zA Z)) + nI m1 := by rw [hz1]; exact t10
    have hS1 : SUMI (zA Z1) := by rw [hz1]; exact hS.tn hA.2.1 hk
    have hP1 : SHP (zA Z) (zA Z1) := by rw [hz1]; exact ⟨rfl, rfl⟩
    have hv1 := hA1.2.2 k hk1
    have hN61 := hv1.1.N
    have hps1 := psA_lt hA1 hk1
    have hH31 := hA1.2.1
    obtain ⟨fo1, hob1⟩ := hWw1.obj
    refine r_istore (lv2 := [(11, .int (nI (gbA (zA Z) k m1))), (10, .int (nI (gbA (zA Z) k m1))), (9, .int (nI 1)), (8, .int (aWo (zA Z) (aH (zA Z)))), (7, .int (aTu (zA Z) (aH (zA Z)))), (6, .int (nI (aH (zA Z)))), (5, .int (nI (aSd (zA Z) k))), (4, .int (nI (cdA (zA Z) k))), (3, .int (nI (gpA (zA Z) k))), (0, .ref b0), (1, .int (nI k)), (2, .int (nI m1))]) C dL_turns_78 (by decide) rfl ?_
    refine r_iload C dL_turns_80 2 rfl ?_
    refine r_if_neN (tgt := 129) C dL_turns_82 (by decide) (by decide) (fun _ => ?_) (fun z => absurd z (by decide))
    refine r_iload C dL_turns_129 0 rfl ?_
    refine r_iload C dL_turns_131 1 rfl ?_
    refine r_icmp_neN (tgt := 212) C dL_turns_133 (by decide) (by omega) (by omega) (fun c133 => ?_) (fun c133 => ?_)
    · exact absurd rfl c133
    · refine r_iload C dL_turns_136 0 rfl ?_
      refine r_iload_n C dL_turns_138 rfl 8 rfl ?_
      refine r_iconst (v := nI 1) C dL_turns_139 (by decide) ?_
      refine r_isub C dL_turns_140 ?_
      refine r_icmp_lt (tgt := 212) C dL_turns_141 (by decide) (fun c141 => ?_) (fun c141 => ?_)
      · exact absurd c141 (k_m1 _ (by omega) _ (by omega) (by omega))
      · refine r_iload C dL_turns_144 0 rfl ?_
        refine r_iload_n C dL_turns_146 rfl 8 rfl ?_
        refine r_iconst (v := nI 1) C dL_turns_147 (by decide) ?_
        refine r_iaddN C dL_turns_148 ?_
        refine r_icmp_gtN (tgt := 212) C dL_turns_149 (by decide) (by omega) (by omega) (fun c149 => ?_) (fun c149 => ?_)
        · exact absurd c149 (by omega)
        · refine r_aload_n C dL_turns_152 rfl 9 rfl ?_
          refine r_iload_n C dL_turns_153 rfl 10 rfl ?_
          refine r_iconst (v := nI 5) C dL_turns_154 (by decide) ?_
          refine r_callV (As := [.int (nI k), .int (nI 5)]) C (c_X6_stackOf_p5 (b0 := b0) (Z := Z1) (k := k)  (by first | assumption | omega) (by first | assumption | omega) (by first | assumption | omega)) wM_L_15 wI_X6_stackOf wN_X6 wC_X6_stackOf wV_X6_stackOf hd_X6_stackOf ⟨Nat.le_of_ble_eq_true rfl, Nat.le_of_ble_eq_true rfl⟩ rfl hob1 rfl rfl (Nat.le_of_ble_eq_true rfl) dL_turns_155 ⟨(Nat.le_of_ble_eq_true rfl), (Nat.le_of_ble_eq_true rfl)⟩ (fun rv n2 σ2 hp => ?_)
          obtain ⟨rfl, rfl, rfl⟩ := hp
          refine V.eq (σ2 := σw1) (n2 := nw1) (st2 := [.int (nI (gpA (zA Z1) k))]) rfl rfl rfl rfl ?_
          refine r_iload C dL_turns_158 0 rfl ?_
          refine r_icmp_neN (tgt := 212) C dL_turns_160 (by decide) (by omega) (by omega) (fun c160 => ?_) (fun c160 => ?_)
          · exact absurd c160 (by omega)
          · refine r_aload_n C dL_turns_163 rfl 9 rfl ?_
            refine r_iconst (v := nI 3) C dL_turns_164 (by decide) ?_
            refine r_callV (As := [.int (nI 3)]) C (c_X6_count_p3 (b0 := b0) (Z := Z1)  (by first | assumption | omega) (by first | assumption | omega)) wM_L_9 wI_X6_count wN_X6 wC_X6_count wV_X6_count hd_X6_count ⟨Nat.le_of_ble_eq_true rfl, Nat.le_of_ble_eq_true rfl⟩ rfl hob1 rfl rfl (Nat.le_of_ble_eq_true rfl) dL_turns_165 ⟨(Nat.le_of_ble_eq_true rfl), (Nat.le_of_ble_eq_true rfl)⟩ (fun rv n2 σ2 hp => ?_)
            obtain ⟨rfl, rfl, rfl⟩ := hp
            refine V.eq (σ2 := σw1) (n2 := nw1) (st2 := [.int (nI (aH (zA Z1)))]) rfl rfl rfl rfl ?_
            refine r_iload C dL_turns_168 5 rfl ?_
            refine r_iconst (v := nI 1) C dL_turns_170 (by decide) ?_
            refine r_iaddN C dL_turns_171 ?_
            refine r_iconst (v := nI 3) C dL_turns_172 (by decide) ?_
            refine r_iremN C dL_turns_173 (by omega) (by decide) (by decide) ?_
            refine r_icmp_neN (tgt := 212) C dL_turns_174 (by decide) (by omega) (by omega) (fun c174 => ?_) (fun c174 => ?_)
            · exact absurd c174 (by omega)
            · refine r_aload_n C dL_turns_177 rfl 9 rfl ?_
              refine r_iconst (v := nI 4) C dL_turns_178 (by decide) ?_
              refine r_iload C dL_turns_179 5 rfl ?_
              refine r_iaddN C dL_turns_181 ?_
              refine r_callV (As := [.int (nI (4 + (aH (zA Z))))]) C (c_X6_count_t (b0 := b0) (Z := Z1) (h := aH (zA Z))  (by first | assumption | omega) (by first | assumption | omega) (by first | assumption | omega)) wM_L_9 wI_X6_count wN_X6 wC_X6_count wV_X6_count hd_X6_count ⟨Nat.le_of_ble_eq_true rfl, Nat.le_of_ble_eq_true rfl⟩ rfl hob1 rfl rfl (Nat.le_of_ble_eq_true rfl) dL_turns_182 ⟨(Nat.le_of_ble_eq_true rfl), (Nat.le_of_ble_eq_true rfl)⟩ (fun rv n2 σ2 hp => ?_)
              obtain ⟨rfl, rfl, rfl⟩ := hp
              refine V.eq (σ2 := σw1) (n2 := nw1) (st2 := [.int (aTu (zA Z1) (aH (zA Z)))]) rfl rfl rfl rfl ?_
              refine r_iload C dL_turns_185 4 rfl ?_
              refine r_iconst (v := nI 1) C dL_turns_187 (by decide) ?_
              refine r_iadd C dL_turns_188 ?_
              refine r_icmp_ne (tgt := 212) C dL_turns_189 (by decide) (fun c189 => ?_) (fun c189 => ?_)
              · exact absurd ht1 c189
              · refine r_aload_n C dL_turns_192 rfl 9 rfl ?_
                refine r_bipush (v := nI 7) C dL_turns_193 (by decide) ?_
                refine r_iload C dL_turns_195 5 rfl ?_
                refine r_iaddN C dL_turns_197 ?_
                refine r_callV (As := [.int (nI (7 + (aH (zA Z))))]) C (c_X6_count_w (b0 := b0) (Z := Z1) (h := aH (zA Z))  (by first | assumption | omega) (by first | assumption | omega) (by first | assumption | omega)) wM_L_9 wI_X6_count wN_X6 wC_X6_count wV_X6_count hd_X6_count ⟨Nat.le_of_ble_eq_true rfl, Nat.le_of_ble_eq_true rfl⟩ rfl hob1 rfl rfl (Nat.le_of_ble_eq_true rfl) dL_turns_198 ⟨(Nat.le_of_ble_eq_true rfl), (Nat.le_of_ble_eq_true rfl)⟩ (fun rv n2 σ2 hp => ?_)
                obtain ⟨rfl, rfl, rfl⟩ := hp
                refine V.eq (σ2 := σw1) (n2 := nw1) (st2 := [.int (aWo (zA Z1) (aH (zA Z)))]) rfl rfl rfl rfl ?_
                refine r_iload C dL_turns_201 3 rfl ?_
                refine r_iload_n C dL_turns_203 rfl 11 rfl ?_
                refine r_iadd C dL_turns_204 ?_
                refine r_icmp_ne (tgt := 212) C dL_turns_205 (by decide) (fun c205 => ?_) (fun c205 => ?_)
                · exact absurd hw1 c205
                · refine r_iconst (v := nI 1) C dL_turns_208 (by decide) ?_
                  refine r_goto (tgt := 213) C dL_turns_209 (by decide) ?_
                  refine r_istore (lv2 := [(12, .int (nI 1)), (11, .int (nI (gbA (zA Z) k m1))), (10, .int (nI (gbA (zA Z) k m1))), (9, .int (nI 1)), (8, .int (aWo (zA Z) (aH (zA Z)))), (7, .int (aTu (zA Z) (aH (zA Z)))), (6, .int (nI (aH (zA Z)))), (5, .int (nI (aSd (zA Z) k))), (4, .int (nI (cdA (zA Z) k))), (3, .int (nI (gpA (zA Z) k))), (0, .ref b0), (1, .int (nI k)), (2, .int (nI m1))]) C dL_turns_213 (by decide) rfl ?_
                  refine r_iload C dL_turns_215 0 rfl ?_
                  refine r_if_eqN (tgt := 245) C dL_turns_217 (by decide) (by decide) (fun z => absurd z (by decide)) (fun _ => ?_)
                  refine r_aload_n C dL_turns_220 rfl 10 rfl ?_
                  refine r_iload_n C dL_turns_221 rfl 11 rfl ?_
                  refine r_iload_n C dL_turns_222 rfl 12 rfl ?_
                  refine r_callV (As := [.int (nI k), .int (nI m1)]) C (c_X6_gapsBehind_p (b0 := b0) (Z := Z1) (k := k) (w := m1)  (by first | assumption | omega) (by first | assumption | omega) (⟨hm.1, by omega⟩) (by first | assumption | omega)) wM_L_22 wI_X6_gapsBehind wN_X6 wC_X6_gapsBehind wV_X6_gapsBehind hd_X6_gapsBehind ⟨Nat.le_of_ble_eq_true rfl, Nat.le_of_ble_eq_true rfl⟩ rfl hob1 rfl rfl (Nat.le_of_ble_eq_true rfl) dL_turns_223 ⟨(Nat.le_of_ble_eq_true rfl), (Nat.le_of_ble_eq_true rfl)⟩ (fun rv n2 σ2 hp => ?_)
                  obtain ⟨rfl, rfl, rfl⟩ := hp
                  refine V.eq (σ2 := σw1) (n2 := nw1) (st2 := [.int (nI (gbA (zA Z1) k m1))]) rfl rfl rfl rfl ?_
                  refine r_iload_n C dL_turns_226 rfl 9 rfl ?_
                  refine r_icmp_neN (tgt := 245) C dL_turns_227 (by decide) (by omega) (by omega) (fun c227 => ?_) (fun c227 => ?_)
                  · exact absurd c227 (by omega)
                  · refine r_aload_n C dL_turns_230 rfl 10 rfl ?_
                    refine r_iload_n C dL_turns_231 rfl 11 rfl ?_
                    refine r_iload_n C dL_turns_232 rfl 12 rfl ?_
                    refine r_iconst (v := nI 1) C dL_turns_233 (by decide) ?_
                    refine r_isubN C dL_turns_234 (by omega) ?_
                    refine r_callV (As := [.int (nI k), .int (nI (m1 - 1))]) C (c_X6_cakeAt_p (b0 := b0) (Z := Z1) (k := k) (q := m1 - 1)  (by first | assumption | omega) (by first | assumption | omega) (by first | assumption | omega) (by first | assumption | omega)) wM_L_19 wI_X6_cakeAt wN_X6 wC_X6_cakeAt wV_X6_cakeAt hd_X6_cakeAt ⟨Nat.le_of_ble_eq_true rfl, Nat.le_of_ble_eq_true rfl⟩ rfl hob1 rfl rfl (Nat.le_of_ble_eq_true rfl) dL_turns_235 ⟨(Nat.le_of_ble_eq_true rfl), (Nat.le_of_ble_eq_true rfl)⟩ (fun rv n2 σ2 hp => ?_)
                    obtain ⟨rfl, rfl, rfl⟩ := hp
                    refine V.eq (σ2 := σw1) (n2 := nw1) (st2 := [.int ((nI (sz (aCk (zA Z1) k) (aO (zA Z1) k) (m1 - 1))) - (nI (10 * (bt (aSd (zA Z1) k) (m1 - 1)))))]) rfl rfl rfl rfl ?_
                    refine r_if_eq (tgt := 245) C dL_turns_238 (by decide) (fun c238 => ?_) (fun c238 => ?_)
                    · exact absurd c238 (sz_n0 hN61 hv1.2.1 (by omega) (bt_le _ _))
                    · refine r_iconst (v := nI 1) C dL_turns_241 (by decide) ?_
                      refine r_goto (tgt := 246) C dL_turns_242 (by decide) ?_
                      refine r_istore (lv2 := [(12, .int (nI 1)), (11, .int (nI (gbA (zA Z) k m1))), (10, .int (nI (gbA (zA Z) k m1))), (9, .int (nI 1)), (8, .int (aWo (zA Z) (aH (zA Z)))), (7, .int (aTu (zA Z) (aH (zA Z)))), (6, .int (nI (aH (zA Z)))), (5, .int (nI (aSd (zA Z) k))), (4, .int (nI (cdA (zA Z) k))), (3, .int (nI (gpA (zA Z) k))), (0, .ref b0), (1, .int (nI k)), (2, .int (nI m1))]) C dL_turns_246 (by decide) rfl ?_
                      refine r_aload_n C dL_turns_248 rfl 10 rfl ?_
                      refine r_iload_n C dL_turns_249 rfl 11 rfl ?_
                      refine r_iconst (v := nI 0) C dL_turns_250 (by decide) ?_
                      refine r_callV (As := [.int (nI k), .int (nI 0)]) C (c_X6_stackOf_p0 (b0 := b0) (Z := Z1) (k := k)  (by first | assumption | omega) (by first | assumption | omega) (by first | assumption | omega)) wM_L_15 wI_X6_stackOf wN_X6 wC_X6_stackOf wV_X6_stackOf hd_X6_stackOf ⟨Nat.le_of_ble_eq_true rfl, Nat.le_of_ble_eq_true rfl⟩ rfl hob1 rfl rfl (Nat.le_of_ble_eq_true rfl) dL_turns_251 ⟨(Nat.le_of_ble_eq_true rfl), (Nat.le_of_ble_eq_true rfl)⟩ (fun rv n2 σ2 hp => ?_)
                      obtain ⟨rfl, rfl, rfl⟩ := hp
                      refine V.eq (σ2 := σw1) (n2 := nw1) (st2 := [.int (nI (aKd (zA Z1) k))]) rfl rfl rfl rfl ?_
                      refine r_iconst (v := nI 2) C dL_turns_254 (by decide) ?_
                      refine r_icmp_eqN (tgt := 324) C dL_turns_255 (by decide) (by omega) (by decide) (fun c255 => ?_) (fun c255 => ?_)
                      · refine r_iload C dL_turns_324 0 rfl ?_
                        exact r_zret C (by decide) hr hlocks (Nat.le_of_ble_eq_true rfl) (Nat.le_of_ble_eq_true rfl) dL_turns_326 (hpo _ _ _ ⟨nw1, σw1, Z1, rfl, rfl, rfl, hZ1, hS1, hP1, hWw1⟩)
                      · have hok1 : okA (zA Z1) k m1 = true := by rw [hz1]; exact okA_tn hA hk hok (by omega)
                        refine r_iload C dL_turns_258 0 rfl ?_
                        refine r_if_eqN (tgt := 321) C dL_turns_260 (by decide) (by decide) (fun z => absurd z (by decide)) (fun _ => ?_)
                        refine r_aload_n C dL_turns_263 rfl 10 rfl ?_
                        refine r_iload_n C dL_turns_264 rfl 11 rfl ?_
                        refine r_bipush (v := nI 8) C dL_turns_265 (by decide) ?_
                        refine r_callV (As := [.int (nI k), .int (nI 8)]) C (c_X6_stackOf_p8 (b0 := b0) (Z := Z1) (k := k)  (by first | assumption | omega) (by first | assumption | omega) (by first | assumption | omega)) wM_L_15 wI_X6_stackOf wN_X6 wC_X6_stackOf wV_X6_stackOf hd_X6_stackOf ⟨Nat.le_of_ble_eq_true rfl, Nat.le_of_ble_eq_true rfl⟩ rfl hob1 rfl rfl (Nat.le_of_ble_eq_true rfl) dL_turns_267 ⟨(Nat.le_of_ble_eq_true rfl), (Nat.le_of_ble_eq_true rfl)⟩ (fun rv n2 σ2 hp => ?_)
                        obtain ⟨rfl, rfl, rfl⟩ := hp
                        refine V.eq (σ2 := σw1) (n2 := nw1) (st2 := [.int (nI (psA (zA Z1) k))]) rfl rfl rfl rfl ?_
                        refine r_iload_n C dL_turns_270 rfl 12 rfl ?_
                        refine r_ishrN C dL_turns_271 (by omega) (by omega) ?_
                        refine r_iconst (v := nI 1) C dL_turns_272 (by decide) ?_
                        refine r_iandN C dL_turns_273 ?_
                        refine V.top (y := nI 1) (by rw [ps_bit hm.1 (by omega), hok1]; rfl) ?_
                        refine r_iconst (v := nI 1) C dL_turns_274 (by decide) ?_
                        refine r_icmp_neN (tgt := 321) C dL_turns_275 (by decide) (by decide) (by decide) (fun z => absurd z (by decide)) (fun _ => ?_)
                        refine r_aload_n C dL_turns_278 rfl 10 rfl ?_
                        refine r_iload_n C dL_turns_279 rfl 11 rfl ?_
                        refine r_iload_n C dL_turns_280 rfl 12 rfl ?_
                        refine r_callV (As := [.int (nI k), .int (nI m1)]) C (c_X6_turn_py (b0 := b0) (Z := Z1) (k := k) (w := m1)  (by first | assumption | omega) (by first | assumption | omega) (⟨hm.1, by omega⟩) (hok1) (by first | assumption | omega)) wM_L_25 wI_X6_turn wN_X6 wC_X6_turn wV_X6_turn hd_X6_turn ⟨Nat.le_of_ble_eq_true rfl, Nat.le_of_ble_eq_true rfl⟩ rfl hob1 rfl rfl (Nat.le_of_ble_eq_true rfl) dL_turns_281 ⟨(Nat.le_of_ble_eq_true rfl), (Nat.le_of_ble_eq_true rfl)⟩ (fun rv n2 σ2 hp => ?_)
                        obtain ⟨nw2, σw2, rfl, rfl, rfl, hWw2⟩ := hp
                        refine V.eq (σ2 := σw2) (n2 := nw2) (st2 := [.int (nI (gbA (zA Z1) k m1))]) rfl rfl rfl rfl ?_
                        obtain ⟨Z2, hZe2⟩ : ∃ z, z = zP Z1 (tnA (zA Z1) k m1) := ⟨_, rfl⟩
                        rw [← hZe2] at hWw2
                        have hz2 : zA Z2 = tnA (tnA (zA Z) k m1) k m1 := by rw [hZe2, ← hz1]; rfl
                        have hZ2 : ZOK Z2 := by rw [hZe2]; exact zP_ok hZ1 (tnA_ok hA1 hk1 hok1)
                        have e2 := tn2 hA hk hm.2
                        rw [← hz2] at e2
                        have hk2 : k < aN (zA Z2) := by rw [hz2]; exact hk
                        have hs4 := hZ2.2.2.1
                        have hu1 : 1 ≤ zS Z2 := by rw [hZe2]; exact (zP_top _ _).2
                        have hu2 : zH Z2 (zS Z2 - 1) = zA Z1 := by rw [hZe2]; exact (zP_top _ _).1
                        obtain ⟨fo2, hob2⟩ := hWw2.obj
                        refine r_iload_n C dL_turns_284 rfl 9 rfl ?_
                        refine r_icmp_neN (tgt := 321) C dL_turns_285 (by decide) (by omega) (by omega) (fun c285 => ?_) (fun c285 => ?_)
                        · exact absurd c285 (by omega)
                        · refine r_aload_n C dL_turns_288 rfl 10 rfl ?_
                          refine r_iload_n C dL_turns_289 rfl 11 rfl ?_
                          refine r_iconst (v := nI 3) C dL_turns_290 (by decide) ?_
                          refine r_callV (As := [.int (nI k), .int (nI 3)]) C (c_X6_stackOf_p3 (b0 := b0) (Z := Z2) (k := k)  (by first | assumption | omega) (by first | assumption | omega) (by first | assumption | omega)) wM_L_15 wI_X6_stackOf wN_X6 wC_X6_stackOf wV_X6_stackOf hd_X6_stackOf ⟨Nat.le_of_ble_eq_true rfl, Nat.le_of_ble_eq_true rfl⟩ rfl hob2 rfl rfl (Nat.le_of_ble_eq_true rfl) dL_turns_291 ⟨(Nat.le_of_ble_eq_true rfl), (Nat.le_of_ble_eq_true rfl)⟩ (fun rv n2 σ2 hp => ?_)
                          obtain ⟨rfl, rfl, rfl⟩ := hp
                          refine V.eq (σ2 := σw2) (n2 := nw2) (st2 := [.int (nI (cdA (zA Z2) k))]) rfl rfl rfl rfl ?_
                          refine r_iload C dL_turns_294 8 rfl ?_
                          refine r_icmp_neN (tgt := 321) C dL_turns_296 (by decide) (by omega) (by omega) (fun c296 => ?_) (fun c296 => ?_)
                          · exact absurd c296 (by omega)
                          · refine r_aload_n C dL_turns_299 rfl 10 rfl ?_
                            refine r_iload_n C dL_turns_300 rfl 11 rfl ?_
                            refine r_iconst (v := nI 4) C dL_turns_301 (by decide) ?_
                            refine r_callV (As := [.int (nI k), .int (nI 4)]) C (c_X6_stackOf_p4 (b0 := b0) (Z := Z2) (k := k)  (by first | assumption | omega) (by first | assumption | omega) (by first | assumption | omega)) wM_L_15 wI_X6_stackOf wN_X6 wC_X6_stackOf wV_X6_stackOf hd_X6_stackOf ⟨Nat.le_of_ble_eq_true rfl, Nat.le_of_ble_eq_true rfl⟩ rfl hob2 rfl rfl (Nat.le_of_ble_eq_true rfl) dL_turns_302 ⟨(Nat.le_of_ble_eq_true rfl), (Nat.le_of_ble_eq_true rfl)⟩ (fun rv n2 σ2 hp => ?_)
                            obtain ⟨rfl, rfl, rfl⟩ := hp
                            refine V.eq (σ2 := σw2) (n2 := nw2) (st2 := [.int (nI (aSd (zA Z2) k))]) rfl rfl rfl rfl ?_
                            refine r_iload C dL_turns_305 7 rfl ?_
                            refine r_icmp_neN (tgt := 321) C dL_turns_307 (by decide) (by omega) (by omega) (fun c307 => ?_) (fun c307 => ?_)
                            · exact absurd c307 (by omega)
                            · refine r_aload_n C dL_turns_310 rfl 10 rfl ?_
                              refine r_callV (As := []) C (c_X6_undo_p (b0 := b0) (Z := Z2)  (by first | assumption | omega) (by first | assumption | omega) (by first | assumption | omega)) wM_L_29 wI_X6_undo wN_X6 wC_X6_undo wV_X6_undo hd_X6_undo ⟨Nat.le_of_ble_eq_true rfl, Nat.le_of_ble_eq_true rfl⟩ rfl hob2 rfl rfl (Nat.le_of_ble_eq_true rfl) dL_turns_311 ⟨(Nat.le_of_ble_eq_true rfl), (Nat.le_of_ble_eq_true rfl)⟩ (fun rv n2 σ2 hp => ?_)
                              obtain ⟨nw3, σw3, rfl, rfl, rfl, hWw3⟩ := hp
                              refine V.eq (σ2 := σw3) (n2 := nw3) (st2 := [.int (nI (zS Z2 - 1))]) rfl rfl rfl rfl ?_
                              obtain ⟨Z3, hZe3⟩ : ∃ z, z = ((zH Z2 (zS Z2 - 1), zH Z2, zS Z2 - 1, zX Z2, zL Z2) : ZT) := ⟨_, rfl⟩
                              rw [← hZe3] at hWw3
                              have hz3 : zA Z3 = zA Z1 := by rw [hZe3]; exact hu2
                              have hZ3 : ZOK Z3 := by rw [hZe3]; exact zU_ok hZ2 hu1
                              have hS3 : SUMI (zA Z3) := by rw [hz3]; exact hS1
                              have hP3 : SHP (zA Z) (zA Z3) := by rw [hz3]; exact hP1
                              obtain ⟨fo3, hob3⟩ := hWw3.obj
                              refine r_if_ltN C dL_turns_314 (tgt := 321) (by decide) (by omega) ?_
                              refine r_iconst (v := nI 1) C dL_turns_317 (by decide) ?_
                              refine r_goto (tgt := 322) C dL_turns_318 (by decide) ?_
                              refine r_istore (lv2 := [(12, .int (nI 1)), (11, .int (nI (gbA (zA Z) k m1))), (10, .int (nI (gbA (zA Z) k m1))), (9, .int (nI 1)), (8, .int (aWo (zA Z) (aH (zA Z)))), (7, .int (aTu (zA Z) (aH (zA Z)))), (6, .int (nI (aH (zA Z)))), (5, .int (nI (aSd (zA Z) k))), (4, .int (nI (cdA (zA Z) k))), (3, .int (nI (gpA (zA Z) k))), (0, .ref b0), (1, .int (nI k)), (2, .int (nI m1))]) C dL_turns_322 (by decide) rfl ?_
                              refine r_iload C dL_turns_324 0 rfl ?_
                              exact r_zret C (by decide) hr hlocks (Nat.le_of_ble_eq_true rfl) (Nat.le_of_ble_eq_true rfl) dL_turns_326 (hpo _ _ _ ⟨nw3, σw3, Z3, rfl, rfl, rfl, hZ3, hS3, hP3, hWw3⟩)
  · have hkk := okA_f hok hm.1 hm.2
    refine V.eq (lv2 := [(10, .int (nI (gbA (zA Z) k m1))), (9, .int (nI 0)), (8, .int (aWo (zA Z) (aH (zA Z)))), (7, .int (aTu (zA Z) (aH (zA Z)))), (6, .int (nI (aH (zA Z)))), (5, .int (nI (aSd (zA Z) k))), (4, .int (nI (cdA (zA Z) k))), (3, .int (nI (gpA (zA Z) k))), (0, .ref b0), (1, .int (nI k)), (2, .int (nI m1))]) rfl rfl (by rw [(show bI (okA (zA Z) k m1) = nI 0 from by rw [hok]; rfl)]) rfl ?_
    refine r_aload_n C dL_turns_72 rfl 8 rfl ?_
    refine r_iload_n C dL_turns_73 rfl 9 rfl ?_
    refine r_iload_n C dL_turns_74 rfl 10 rfl ?_
    refine r_callV (As := [.int (nI k), .int (nI m1)]) C (c_X6_turn_pn (b0 := b0) (Z := Z) (k := k) (w := m1)  (by first | assumption | omega) (by first | assumption | omega) (hm) (hok) (by first | assumption | omega)) wM_L_25 wI_X6_turn wN_X6 wC_X6_turn wV_X6_turn hd_X6_turn ⟨Nat.le_of_ble_eq_true rfl, Nat.le_of_ble_eq_true rfl⟩ rfl hob rfl rfl (Nat.le_of_ble_eq_true rfl) dL_turns_75 ⟨(Nat.le_of_ble_eq_true rfl), (Nat.le_of_ble_eq_true rfl)⟩ (fun rv n2 σ2 hp => ?_)
    obtain ⟨nw1, σw1, rfl, rfl, rfl, hWw1⟩ := hp
    refine V.eq (σ2 := σw1) (n2 := nw1) (st2 := [.int (-1000002)]) rfl rfl rfl rfl ?_
    obtain ⟨fo1, hob1⟩ := hWw1.obj
    refine r_istore (lv2 := [(11, .int (-1000002)), (10, .int (nI (gbA (zA Z) k m1))), (9, .int (nI 0)), (8, .int (aWo (zA Z) (aH (zA Z)))), (7, .int (aTu (zA Z) (aH (zA Z)))), (6, .int (nI (aH (zA Z)))), (5, .int (nI (aSd (zA Z) k))), (4, .int (nI (cdA (zA Z) k))), (3, .int (nI (gpA (zA Z) k))), (0, .ref b0), (1, .int (nI k)), (2, .int (nI m1))]) C dL_turns_78 (by decide) rfl ?_
    refine r_iload C dL_turns_80 2 rfl ?_
    refine r_if_neN (tgt := 129) C dL_turns_82 (by decide) (by decide) (fun z => absurd z (by decide)) (fun _ => ?_)
    refine r_iload C dL_turns_85 0 rfl ?_
    refine r_ldc C wQ_L_28 dL_turns_87 ?_
    refine r_icmp_ne (tgt := 127) C dL_turns_89 (by decide) (fun c89 => ?_) (fun c89 => ?_)
    · exact absurd rfl c89
    · refine r_aload_n C dL_turns_92 rfl 9 rfl ?_
      refine r_iload_n C dL_turns_93 rfl 10 rfl ?_
      refine r_iconst (v := nI 3) C dL_turns_94 (by decide) ?_
      refine r_callV (As := [.int (nI k), .int (nI 3)]) C (c_X6_stackOf_p3 (b0 := b0) (Z := Z) (k := k)  (by first | assumption | omega) (by first | assumption | omega) (by first | assumption | omega)) wM_L_15 wI_X6_stackOf wN_X6 wC_X6_stackOf wV_X6_stackOf hd_X6_stackOf ⟨Nat.le_of_ble_eq_true rfl, Nat.le_of_ble_eq_true rfl⟩ rfl hob1 rfl rfl (Nat.le_of_ble_eq_true rfl) dL_turns_95 ⟨(Nat.le_of_ble_eq_true rfl), (Nat.le_of_ble_eq_true rfl)⟩ (fun rv n2 σ2 hp => ?_)
      obtain ⟨rfl, rfl, rfl⟩ := hp
      refine V.eq (σ2 := σw1) (n2 := nw1) (st2 := [.int (nI (cdA (zA Z) k))]) rfl rfl rfl rfl ?_
      refine r_iload C dL_turns_98 7 rfl ?_
      refine r_icmp_neN (tgt := 127) C dL_turns_100 (by decide) (by omega) (by omega) (fun c100 => ?_) (fun c100 => ?_)
      · exact absurd rfl c100
      · refine r_aload_n C dL_turns_103 rfl 9 rfl ?_
        refine r_iconst (v := nI 3) C dL_turns_104 (by decide) ?_
        refine r_callV (As := [.int (nI 3)]) C (c_X6_count_p3 (b0 := b0) (Z := Z)  (by first | assumption | omega) (by first | assumption | omega)) wM_L_9 wI_X6_count wN_X6 wC_X6_count wV_X6_count hd_X6_count ⟨Nat.le_of_ble_eq_true rfl, Nat.le_of_ble_eq_true rfl⟩ rfl hob1 rfl rfl (Nat.le_of_ble_eq_true rfl) dL_turns_105 ⟨(Nat.le_of_ble_eq_true rfl), (Nat.le_of_ble_eq_true rfl)⟩ (fun rv n2 σ2 hp => ?_)
        obtain ⟨rfl, rfl, rfl⟩ := hp
        refine V.eq (σ2 := σw1) (n2 := nw1) (st2 := [.int (nI (aH (zA Z)))]) rfl rfl rfl rfl ?_
        refine r_iload C dL_turns_108 5 rfl ?_
        refine r_icmp_neN (tgt := 127) C dL_turns_110 (by decide) (by omega) (by omega) (fun c110 => ?_) (fun c110 => ?_)
        · exact absurd rfl c110
        · refine r_aload_n C dL_turns_113 rfl 9 rfl ?_
          refine r_iload_n C dL_turns_114 rfl 10 rfl ?_
          refine r_iconst (v := nI 0) C dL_turns_115 (by decide) ?_
          refine r_callV (As := [.int (nI k), .int (nI 0)]) C (c_X6_stackOf_p0 (b0 := b0) (Z := Z) (k := k)  (by first | assumption | omega) (by first | assumption | omega) (by first | assumption | omega)) wM_L_15 wI_X6_stackOf wN_X6 wC_X6_stackOf wV_X6_stackOf hd_X6_stackOf ⟨Nat.le_of_ble_eq_true rfl, Nat.le_of_ble_eq_true rfl⟩ rfl hob1 rfl rfl (Nat.le_of_ble_eq_true rfl) dL_turns_116 ⟨(Nat.le_of_ble_eq_true rfl), (Nat.le_of_ble_eq_true rfl)⟩ (fun rv n2 σ2 hp => ?_)
          obtain ⟨rfl, rfl, rfl⟩ := hp
          refine V.eq (σ2 := σw1) (n2 := nw1) (st2 := [.int (nI (aKd (zA Z) k))]) rfl rfl rfl rfl ?_
          refine r_iconst (v := nI 1) C dL_turns_119 (by decide) ?_
          refine r_icmp_leN (tgt := 127) C dL_turns_120 (by decide) (by omega) (by decide) (fun c120 => ?_) (fun c120 => ?_)
          · exact absurd c120 (by omega)
          · refine r_iconst (v := nI 1) C dL_turns_123 (by decide) ?_
            refine r_goto (tgt := 128) C dL_turns_124 (by decide) ?_
            exact r_zret C (by decide) hr hlocks (Nat.le_of_ble_eq_true rfl) (Nat.le_of_ble_eq_true rfl) dL_turns_128 (hpo _ _ _ ⟨nw1, σw1, Z, rfl, rfl, rfl, hZ, hS, SHP.rf _, hWw1⟩)
