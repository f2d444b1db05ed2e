abbrev rm_L_holds : Room := { frames := 41, cells := 0, slots := 0, locals := 4025 }
set_option maxRecDepth 100000 in
set_option maxHeartbeats 4000000 in
theorem c_L_holds {l : Launch} {G : gG} {n : Nat} {σ : gS} {b0 : Nat} {Z : ZT}  (hZ : ZOK Z) (hS : SUMI (zA Z)) (hW : WX G b0 n σ Z 13) : GM l G yL_holds cL_holds 13 (some .boolean) rm_L_holds n σ [.ref b0] (fun rv n2 σ2 => some (.int (nI 1)) = rv ∧ n = n2 ∧ σ = σ2) := by
  refine GM.intro (by decide +kernel) (Nat.le_of_ble_eq_true rfl) (fun p e s m args below meth c C hr hlocks hname po hpo => ?_)
  have C : Cx p s m args c cL_holds 13 RL G := C
  obtain ⟨hA, -, -, -, -⟩ := id hZ
  have hH3 := hA.2.1
  have hN5 := hA.1
  obtain ⟨fo, hob⟩ := hW.obj
  have hof1 := ofa_le (zA Z) 1 hA _ (Nat.le_refl _)
  have hof2 := ofa_le (zA Z) 2 hA _ (Nat.le_refl _)
  refine r_iconst (v := nI 0) C dL_holds_0 (by decide) ?_
  refine r_istore_n (lv2 := [(1, .int (nI 0)), (0, .ref b0)]) C dL_holds_1 rfl (by decide) rfl ?_
  refine r_iconst (v := nI 0) C dL_holds_2 (by decide) ?_
  refine r_istore_n (lv2 := [(2, .int (nI 0)), (1, .int (nI 0)), (0, .ref b0)]) C dL_holds_3 rfl (by decide) rfl ?_
  refine r_iconst (v := nI 0) C dL_holds_4 (by decide) ?_
  refine r_istore_n (lv2 := [(3, .int (nI 0)), (2, .int (nI 0)), (1, .int (nI 0)), (0, .ref b0)]) C dL_holds_5 rfl (by decide) rfl ?_
  refine r_aload_n C dL_holds_6 rfl 3 rfl ?_
  refine r_iconst (v := nI 3) C dL_holds_7 (by decide) ?_
  refine r_callV (As := [.int (nI 3)]) C (c_X6_count_p3 (b0 := b0) (Z := Z)  (by first | assumption | omega) (by first | assumption | omega)) wM_L_9 wI_X6_count wN_X6 wC_X6_count wV_X6_count hd_X6_count ⟨Nat.le_of_ble_eq_true rfl, Nat.le_of_ble_eq_true rfl⟩ rfl hob rfl rfl (Nat.le_of_ble_eq_true rfl) dL_holds_8 ⟨(Nat.le_of_ble_eq_true rfl), (Nat.le_of_ble_eq_true rfl)⟩ (fun rv n2 σ2 hp => ?_)
  obtain ⟨rfl, rfl, rfl⟩ := hp
  refine V.eq (σ2 := σ) (n2 := n) (st2 := [.int (nI (aH (zA Z)))]) rfl rfl rfl rfl ?_
  refine r_if_ltN C dL_holds_11 (tgt := 54) (by decide) (by omega) ?_
  refine r_aload_n C dL_holds_14 rfl 3 rfl ?_
  refine r_iconst (v := nI 3) C dL_holds_15 (by decide) ?_
  refine r_callV (As := [.int (nI 3)]) C (c_X6_count_p3 (b0 := b0) (Z := Z)  (by first | assumption | omega) (by first | assumption | omega)) wM_L_9 wI_X6_count wN_X6 wC_X6_count wV_X6_count hd_X6_count ⟨Nat.le_of_ble_eq_true rfl, Nat.le_of_ble_eq_true rfl⟩ rfl hob rfl rfl (Nat.le_of_ble_eq_true rfl) dL_holds_16 ⟨(Nat.le_of_ble_eq_true rfl), (Nat.le_of_ble_eq_true rfl)⟩ (fun rv n2 σ2 hp => ?_)
  obtain ⟨rfl, rfl, rfl⟩ := hp
  refine V.eq (σ2 := σ) (n2 := n) (st2 := [.int (nI (aH (zA Z)))]) rfl rfl rfl rfl ?_
  refine r_iconst (v := nI 3) C dL_holds_19 (by decide) ?_
  refine r_icmp_geN (tgt := 54) C dL_holds_20 (by decide) (by omega) (by decide) (fun c20 => ?_) (fun c20 => ?_)
  · exact absurd c20 (by omega)
  · refine r_aload_n C dL_holds_23 rfl 3 rfl ?_
    refine r_bipush (v := nI 10) C dL_holds_24 (by decide) ?_
    refine r_callV (As := [.int (nI 10)]) C (c_X6_count_p10 (b0 := b0) (Z := Z)  (by first | assumption | omega) (by first | assumption | omega)) wM_L_9 wI_X6_count wN_X6 wC_X6_count wV_X6_count hd_X6_count ⟨Nat.le_of_ble_eq_true rfl, Nat.le_of_ble_eq_true rfl⟩ rfl hob rfl rfl (Nat.le_of_ble_eq_true rfl) dL_holds_26 ⟨(Nat.le_of_ble_eq_true rfl), (Nat.le_of_ble_eq_true rfl)⟩ (fun rv n2 σ2 hp => ?_)
    obtain ⟨rfl, rfl, rfl⟩ := hp
    refine V.eq (σ2 := σ) (n2 := n) (st2 := [.int (aTu (zA Z) 0 + aTu (zA Z) 1 + aTu (zA Z) 2)]) rfl rfl rfl rfl ?_
    refine r_aload_n C dL_holds_29 rfl 3 rfl ?_
    refine r_iconst (v := nI 4) C dL_holds_30 (by decide) ?_
    refine r_callV (As := [.int (nI 4)]) C (c_X6_count_p4 (b0 := b0) (Z := Z)  (by first | assumption | omega) (by first | assumption | omega)) wM_L_9 wI_X6_count wN_X6 wC_X6_count wV_X6_count hd_X6_count ⟨Nat.le_of_ble_eq_true rfl, Nat.le_of_ble_eq_true rfl⟩ rfl hob rfl rfl (Nat.le_of_ble_eq_true rfl) dL_holds_31 ⟨(Nat.le_of_ble_eq_true rfl), (Nat.le_of_ble_eq_true rfl)⟩ (fun rv n2 σ2 hp => ?_)
    obtain ⟨rfl, rfl, rfl⟩ := hp
    refine V.eq (σ2 := σ) (n2 := n) (st2 := [.int (aTu (zA Z) 0), .int (aTu (zA Z) 0 + aTu (zA Z) 1 + aTu (zA Z) 2)]) rfl rfl rfl rfl ?_
    refine r_aload_n C dL_holds_34 rfl 3 rfl ?_
    refine r_iconst (v := nI 5) C dL_holds_35 (by decide) ?_
    refine r_callV (As := [.int (nI 5)]) C (c_X6_count_p5 (b0 := b0) (Z := Z)  (by first | assumption | omega) (by first | assumption | omega)) wM_L_9 wI_X6_count wN_X6 wC_X6_count wV_X6_count hd_X6_count ⟨Nat.le_of_ble_eq_true rfl, Nat.le_of_ble_eq_true rfl⟩ rfl hob rfl rfl (Nat.le_of_ble_eq_true rfl) dL_holds_36 ⟨(Nat.le_of_ble_eq_true rfl), (Nat.le_of_ble_eq_true rfl)⟩ (fun rv n2 σ2 hp => ?_)
    obtain ⟨rfl, rfl, rfl⟩ := hp
    refine V.eq (σ2 := σ) (n2 := n) (st2 := [.int (aTu (zA Z) 1), .int (aTu (zA Z) 0), .int (aTu (zA Z) 0 + aTu (zA Z) 1 + aTu (zA Z) 2)]) rfl rfl rfl rfl ?_
    refine r_iadd C dL_holds_39 ?_
    refine r_aload_n C dL_holds_40 rfl 3 rfl ?_
    refine r_bipush (v := nI 6) C dL_holds_41 (by decide) ?_
    refine r_callV (As := [.int (nI 6)]) C (c_X6_count_p6 (b0 := b0) (Z := Z)  (by first | assumption | omega) (by first | assumption | omega)) wM_L_9 wI_X6_count wN_X6 wC_X6_count wV_X6_count hd_X6_count ⟨Nat.le_of_ble_eq_true rfl, Nat.le_of_ble_eq_true rfl⟩ rfl hob rfl rfl (Nat.le_of_ble_eq_true rfl) dL_holds_43 ⟨(Nat.le_of_ble_eq_true rfl), (Nat.le_of_ble_eq_true rfl)⟩ (fun rv n2 σ2 hp => ?_)
    obtain ⟨rfl, rfl, rfl⟩ := hp
    refine V.eq (σ2 := σ) (n2 := n) (st2 := [.int (aTu (zA Z) 2), .int ((aTu (zA Z) 0) + (aTu (zA Z) 1)), .int (aTu (zA Z) 0 + aTu (zA Z) 1 + aTu (zA Z) 2)]) rfl rfl rfl rfl ?_
    refine r_iadd C dL_holds_46 ?_
    refine r_icmp_ne (tgt := 54) C dL_holds_47 (by decide) (fun c47 => ?_) (fun c47 => ?_)
    · exact absurd rfl c47
    · refine r_iconst (v := nI 1) C dL_holds_50 (by decide) ?_
      refine r_goto (tgt := 55) C dL_holds_51 (by decide) ?_
      refine r_istore (lv2 := [(4, .int (nI 1)), (3, .int (nI 0)), (2, .int (nI 0)), (1, .int (nI 0)), (0, .ref b0)]) C dL_holds_55 (by decide) rfl ?_
      refine r_iconst (v := nI 0) C dL_holds_57 (by decide) ?_
      refine r_istore (lv2 := [(5, .int (nI 0)), (4, .int (nI 1)), (3, .int (nI 0)), (2, .int (nI 0)), (1, .int (nI 0)), (0, .ref b0)]) C dL_holds_58 (by decide) rfl ?_
      have L60 : ∀ (fu : Nat) (w : Nat), (w ≤ aN (zA Z)) → (aN (zA Z) - w) < fu → V p l e rm_L_holds s m args below meth c G 13 (MQ below (gQ G po) args s rm_L_holds.cells rm_L_holds.slots (gF G)) 0 0 n σ 60 [(0, .ref b0), (1, .int (nI (ofa (zA Z) 1 w))), (2, .int (nI (ofa (zA Z) 2 w))), (3, .int (mdS (zA Z) w)), (4, .int (nI 1)), (5, .int (nI w))] [] := by
        intro fu
        induction fu with
        | zero => intro w hwN hm; exact absurd hm (Nat.not_lt_zero _)
        | succ fu ih60 =>
          intro w hwN hm60
          refine r_iload C dL_holds_60 5 rfl ?_
          refine r_aload_n C dL_holds_62 rfl 0 rfl ?_
          refine r_iconst (v := nI 0) C dL_holds_63 (by decide) ?_
          refine r_callV (As := [.int (nI 0)]) C (c_X6_count_p0 (b0 := b0) (Z := Z)  (by first | assumption | omega) (by first | assumption | omega)) wM_L_9 wI_X6_count wN_X6 wC_X6_count wV_X6_count hd_X6_count ⟨Nat.le_of_ble_eq_true rfl, Nat.le_of_ble_eq_true rfl⟩ rfl hob rfl rfl (Nat.le_of_ble_eq_true rfl) dL_holds_64 ⟨(Nat.le_of_ble_eq_true rfl), (Nat.le_of_ble_eq_true rfl)⟩ (fun rv n2 σ2 hp => ?_)
          obtain ⟨rfl, rfl, rfl⟩ := hp
          refine V.eq (σ2 := σ) (n2 := n) (st2 := [.int (nI (aN (zA Z))), .int (nI w)]) rfl rfl rfl rfl ?_
          refine r_icmp_geN (tgt := 315) C dL_holds_67 (by decide) (by omega) (by omega) (fun c67 => ?_) (fun c67 => ?_)
          · have hwE : w = aN (zA Z) := by omega
            refine V.eq (lv2 := [(0, .ref b0), (1, .int (nI (ofa (zA Z) 1 (aN (zA Z))))), (2, .int (nI (ofa (zA Z) 2 w))), (3, .int (mdS (zA Z) w)), (4, .int (nI 1)), (5, .int (nI w))]) rfl rfl (by rw [(show nI (ofa (zA Z) 1 w) = nI (ofa (zA Z) 1 (aN (zA Z))) from by rw [hwE])]) rfl ?_
            refine V.eq (lv2 := [(0, .ref b0), (1, .int (nI (ofa (zA Z) 1 (aN (zA Z))))), (2, .int (nI (ofa (zA Z) 2 (aN (zA Z))))), (3, .int (mdS (zA Z) w)), (4, .int (nI 1)), (5, .int (nI w))]) rfl rfl (by rw [(show nI (ofa (zA Z) 2 w) = nI (ofa (zA Z) 2 (aN (zA Z))) from by rw [hwE])]) rfl ?_
            refine V.eq (lv2 := [(0, .ref b0), (1, .int (nI (ofa (zA Z) 1 (aN (zA Z))))), (2, .int (nI (ofa (zA Z) 2 (aN (zA Z))))), (3, .int (mdS (zA Z) (aN (zA Z)))), (4, .int (nI 1)), (5, .int (nI w))]) rfl rfl (by rw [(show mdS (zA Z) w = mdS (zA Z) (aN (zA Z)) from by rw [hwE])]) rfl ?_
            refine r_iload C dL_holds_315 4 rfl ?_
            refine r_if_eqN (tgt := 352) C dL_holds_317 (by decide) (by decide) (fun z => absurd z (by decide)) (fun _ => ?_)
            refine r_aload_n C dL_holds_320 rfl 0 rfl ?_
            refine r_iconst (v := nI 1) C dL_holds_321 (by decide) ?_
            refine r_callV (As := [.int (nI 1)]) C (c_X6_count_p1 (b0 := b0) (Z := Z)  (by first | assumption | omega) (by first | assumption | omega)) wM_L_9 wI_X6_count wN_X6 wC_X6_count wV_X6_count hd_X6_count ⟨Nat.le_of_ble_eq_true rfl, Nat.le_of_ble_eq_true rfl⟩ rfl hob rfl rfl (Nat.le_of_ble_eq_true rfl) dL_holds_322 ⟨(Nat.le_of_ble_eq_true rfl), (Nat.le_of_ble_eq_true rfl)⟩ (fun rv n2 σ2 hp => ?_)
            obtain ⟨rfl, rfl, rfl⟩ := hp
            refine V.eq (σ2 := σ) (n2 := n) (st2 := [.int (nI (ofa (zA Z) 1 (aN (zA Z))))]) rfl rfl rfl rfl ?_
            refine r_iload_n C dL_holds_325 rfl 1 rfl ?_
            refine r_icmp_neN (tgt := 352) C dL_holds_326 (by decide) (by omega) (by omega) (fun c326 => ?_) (fun c326 => ?_)
            · exact absurd rfl c326
            · refine r_aload_n C dL_holds_329 rfl 0 rfl ?_
              refine r_iconst (v := nI 2) C dL_holds_330 (by decide) ?_
              refine r_callV (As := [.int (nI 2)]) C (c_X6_count_p2 (b0 := b0) (Z := Z)  (by first | assumption | omega) (by first | assumption | omega)) wM_L_9 wI_X6_count wN_X6 wC_X6_count wV_X6_count hd_X6_count ⟨Nat.le_of_ble_eq_true rfl, Nat.le_of_ble_eq_true rfl⟩ rfl hob rfl rfl (Nat.le_of_ble_eq_true rfl) dL_holds_331 ⟨(Nat.le_of_ble_eq_true rfl), (Nat.le_of_ble_eq_true rfl)⟩ (fun rv n2 σ2 hp => ?_)
              obtain ⟨rfl, rfl, rfl⟩ := hp
              refine V.eq (σ2 := σ) (n2 := n) (st2 := [.int (nI (ofa (zA Z) 2 (aN (zA Z))))]) rfl rfl rfl rfl ?_
              refine r_iload_n C dL_holds_334 rfl 2 rfl ?_
              refine r_icmp_neN (tgt := 352) C dL_holds_335 (by decide) (by omega) (by omega) (fun c335 => ?_) (fun c335 => ?_)
              · exact absurd rfl c335
              · refine r_aload_n C dL_holds_338 rfl 0 rfl ?_
                refine r_bipush (v := nI 10) C dL_holds_339 (by decide) ?_
                refine r_callV (As := [.int (nI 10)]) C (c_X6_count_p10 (b0 := b0) (Z := Z)  (by first | assumption | omega) (by first | assumption | omega)) wM_L_9 wI_X6_count wN_X6 wC_X6_count wV_X6_count hd_X6_count ⟨Nat.le_of_ble_eq_true rfl, Nat.le_of_ble_eq_true rfl⟩ rfl hob rfl rfl (Nat.le_of_ble_eq_true rfl) dL_holds_341 ⟨(Nat.le_of_ble_eq_true rfl), (Nat.le_of_ble_eq_true rfl)⟩ (fun rv n2 σ2 hp => ?_)
                obtain ⟨rfl, rfl, rfl⟩ := hp
                refine V.eq (σ2 := σ) (n2 := n) (st2 := [.int (aTu (zA Z) 0 + aTu (zA Z) 1 + aTu (zA Z) 2)]) rfl rfl rfl rfl ?_
                refine r_iload_n C dL_holds_344 rfl 3 rfl ?_
                refine r_icmp_ne (tgt := 352) C dL_holds_345 (by decide) (fun c345 => ?_) (fun c345 => ?_)
                · exact absurd hS.symm c345
                · refine r_iconst (v := nI 1) C dL_holds_348 (by decide) ?_
                  refine r_goto (tgt := 353) C dL_holds_349 (by decide) ?_
                  exact r_zret C (by decide) hr hlocks (Nat.le_of_ble_eq_true rfl) (Nat.le_of_ble_eq_true rfl) dL_holds_353 (hpo _ _ _ ⟨rfl, rfl, rfl⟩)
          · have hlt : w < aN (zA Z) := by omega
            have hv := hA.2.2 w hlt
            have hN6 := hv.1.N
            have hN1 := hv.1.2.1
            have ho := hv.2.1
            have hsd := hv.2.2
            have hsd64 : aSd (zA Z) w < 64 := Nat.lt_of_lt_of_le hsd (sm_le hN6)
            have h2N := two_le hN6
            have h2p := two_pos (aCk (zA Z) w)
            have hcd : cdA (zA Z) w < 1000000 := cd_lt hN6 ho
            have hgp := gpA_le (zA Z) w
            have hkd4 := hv.1.1
            have hrk : rkA (zA Z) w < 3840 := Nat.lt_of_lt_of_le (rk_at hA hlt rfl rfl) (rR_le hv.1)
            refine r_iload C dL_holds_70 4 rfl ?_
            refine r_if_eqN (tgt := 315) C dL_holds_72 (by decide) (by decide) (fun z => absurd z (by decide)) (fun _ => ?_)
            refine r_aload_n C dL_holds_75 rfl 0 rfl ?_
            refine r_iload C dL_holds_76 5 rfl ?_
            refine r_iconst (v := nI 1) C dL_holds_78 (by decide) ?_
            refine r_callV (As := [.int (nI w), .int (nI 1)]) C (c_X6_stackOf_p1 (b0 := b0) (Z := Z) (k := w)  (by first | assumption | omega) (by first | assumption | omega) (by first | assumption | omega)) wM_L_15 wI_X6_stackOf wN_X6 wC_X6_stackOf wV_X6_stackOf hd_X6_stackOf ⟨Nat.le_of_ble_eq_true rfl, Nat.le_of_ble_eq_true rfl⟩ rfl hob rfl rfl (Nat.le_of_ble_eq_true rfl) dL_holds_79 ⟨(Nat.le_of_ble_eq_true rfl), (Nat.le_of_ble_eq_true rfl)⟩ (fun rv n2 σ2 hp => ?_)
            obtain ⟨rfl, rfl, rfl⟩ := hp
            refine V.eq (σ2 := σ) (n2 := n) (st2 := [.int (nI (aCk (zA Z) w))]) rfl rfl rfl rfl ?_
            refine r_istore (lv2 := [(6, .int (nI (aCk (zA Z) w))), (0, .ref b0), (1, .int (nI (ofa (zA Z) 1 w))), (2, .int (nI (ofa (zA Z) 2 w))), (3, .int (mdS (zA Z) w)), (4, .int (nI 1)), (5, .int (nI w))]) C dL_holds_82 (by decide) rfl ?_
            refine r_iconst (v := nI 0) C dL_holds_84 (by decide) ?_
            refine r_istore (lv2 := [(7, .int (nI 0)), (6, .int (nI (aCk (zA Z) w))), (0, .ref b0), (1, .int (nI (ofa (zA Z) 1 w))), (2, .int (nI (ofa (zA Z) 2 w))), (3, .int (mdS (zA Z) w)), (4, .int (nI 1)), (5, .int (nI w))]) C dL_holds_85 (by decide) rfl ?_
            refine r_iconst (v := nI 0) C dL_holds_87 (by decide) ?_
            refine r_istore (lv2 := [(8, .int (nI 0)), (7, .int (nI 0)), (6, .int (nI (aCk (zA Z) w))), (0, .ref b0), (1, .int (nI (ofa (zA Z) 1 w))), (2, .int (nI (ofa (zA Z) 2 w))), (3, .int (mdS (zA Z) w)), (4, .int (nI 1)), (5, .int (nI w))]) C dL_holds_88 (by decide) rfl ?_
            refine r_iconst (v := nI 0) C dL_holds_90 (by decide) ?_
            refine r_istore (lv2 := [(9, .int (nI 0)), (8, .int (nI 0)), (7, .int (nI 0)), (6, .int (nI (aCk (zA Z) w))), (0, .ref b0), (1, .int (nI (ofa (zA Z) 1 w))), (2, .int (nI (ofa (zA Z) 2 w))), (3, .int (mdS (zA Z) w)), (4, .int (nI 1)), (5, .int (nI w))]) C dL_holds_91 (by decide) rfl ?_
            refine r_iconst (v := nI 0) C dL_holds_93 (by decide) ?_
            refine r_istore (lv2 := [(10, .int (nI 0)), (9, .int (nI 0)), (8, .int (nI 0)), (7, .int (nI 0)), (6, .int (nI (aCk (zA Z) w))), (0, .ref b0), (1, .int (nI (ofa (zA Z) 1 w))), (2, .int (nI (ofa (zA Z) 2 w))), (3, .int (mdS (zA Z) w)), (4, .int (nI 1)), (5, .int (nI w))]) C dL_holds_94 (by decide) rfl ?_
            have L96 : ∀ (fu : Nat) (p1 : Nat), (p1 ≤ aCk (zA Z) w) → (aCk (zA Z) w - p1) < fu → V p l e rm_L_holds s m args below meth c G 13 (MQ below (gQ G po) args s rm_L_holds.cells rm_L_holds.slots (gF G)) 0 0 n σ 96 [(0, .ref b0), (1, .int (nI (ofa (zA Z) 1 w))), (2, .int (nI (ofa (zA Z) 2 w))), (3, .int (mdS (zA Z) w)), (4, .int (nI 1)), (5, .int (nI w)), (6, .int (nI (aCk (zA Z) w))), (7, .int (nI (usd (aCk (zA Z) w) (aO (zA Z) w) p1))), (8, .int (nI (sdp (aSd (zA Z) w) p1))), (9, .int (nI (cdp (aCk (zA Z) w) (aO (zA Z) w) p1))), (10, .int (nI p1))] [] := by
              intro fu
              induction fu with
              | zero => intro p1 hpN hm; exact absurd hm (Nat.not_lt_zero _)
              | succ fu ih96 =>
                intro p1 hpN hm96
                refine r_iload C dL_holds_96 10 rfl ?_
                refine r_iload C dL_holds_98 6 rfl ?_
                refine r_icmp_geN (tgt := 173) C dL_holds_100 (by decide) (by omega) (by omega) (fun c100 => ?_) (fun c100 => ?_)
                · have hpE : p1 = aCk (zA Z) w := by omega
                  refine V.eq (lv2 := [(0, .ref b0), (1, .int (nI (ofa (zA Z) 1 w))), (2, .int (nI (ofa (zA Z) 2 w))), (3, .int (mdS (zA Z) w)), (4, .int (nI 1)), (5, .int (nI w)), (6, .int (nI (aCk (zA Z) w))), (7, .int (nI (2 * 2 ^ aCk (zA Z) w - 2))), (8, .int (nI (sdp (aSd (zA Z) w) p1))), (9, .int (nI (cdp (aCk (zA Z) w) (aO (zA Z) w) p1))), (10, .int (nI p1))]) rfl rfl (by rw [(show nI (usd (aCk (zA Z) w) (aO (zA Z) w) p1) = nI (2 * 2 ^ aCk (zA Z) w - 2) from by rw [hpE]; exact congrArg nI (usd_N hN6 ho))]) rfl ?_
                  refine V.eq (lv2 := [(0, .ref b0), (1, .int (nI (ofa (zA Z) 1 w))), (2, .int (nI (ofa (zA Z) 2 w))), (3, .int (mdS (zA Z) w)), (4, .int (nI 1)), (5, .int (nI w)), (6, .int (nI (aCk (zA Z) w))), (7, .int (nI (2 * 2 ^ aCk (zA Z) w - 2))), (8, .int (nI (aSd (zA Z) w))), (9, .int (nI (cdp (aCk (zA Z) w) (aO (zA Z) w) p1))), (10, .int (nI p1))]) rfl rfl (by rw [(show nI (sdp (aSd (zA Z) w) p1) = nI (aSd (zA Z) w) from by rw [hpE]; exact congrArg nI (sdp_N hN6 (sm_two hsd)))]) rfl ?_
                  refine V.eq (lv2 := [(0, .ref b0), (1, .int (nI (ofa (zA Z) 1 w))), (2, .int (nI (ofa (zA Z) 2 w))), (3, .int (mdS (zA Z) w)), (4, .int (nI 1)), (5, .int (nI w)), (6, .int (nI (aCk (zA Z) w))), (7, .int (nI (2 * 2 ^ aCk (zA Z) w - 2))), (8, .int (nI (aSd (zA Z) w))), (9, .int (nI (cdA (zA Z) w))), (10, .int (nI p1))]) rfl rfl (by rw [(show nI (cdp (aCk (zA Z) w) (aO (zA Z) w) p1) = nI (cdA (zA Z) w) from by rw [hpE]; rfl)]) rfl ?_
                  refine r_iload_n C dL_holds_173 rfl 1 rfl ?_
                  refine r_aload_n C dL_holds_174 rfl 0 rfl ?_
                  refine r_iload C dL_holds_175 5 rfl ?_
                  refine r_bipush (v := nI 6) C dL_holds_177 (by decide) ?_
                  refine r_callV (As := [.int (nI w), .int (nI 6)]) C (c_X6_stackOf_p6 (b0 := b0) (Z := Z) (k := w)  (by first | assumption | omega) (by first | assumption | omega) (by first | assumption | omega)) wM_L_15 wI_X6_stackOf wN_X6 wC_X6_stackOf wV_X6_stackOf hd_X6_stackOf ⟨Nat.le_of_ble_eq_true rfl, Nat.le_of_ble_eq_true rfl⟩ rfl hob rfl rfl (Nat.le_of_ble_eq_true rfl) dL_holds_179 ⟨(Nat.le_of_ble_eq_true rfl), (Nat.le_of_ble_eq_true rfl)⟩ (fun rv n2 σ2 hp => ?_)
                  obtain ⟨rfl, rfl, rfl⟩ := hp
                  refine V.eq (σ2 := σ) (n2 := n) (st2 := [.int (bI (srA (zA Z) w)), .int (nI (ofa (zA Z) 1 w))]) rfl rfl rfl rfl ?_
                  refine r_iadd C dL_holds_182 ?_
                  refine r_istore_n (lv2 := [(1, .int ((nI (ofa (zA Z) 1 w)) + (bI (srA (zA Z) w)))), (0, .ref b0), (2, .int (nI (ofa (zA Z) 2 w))), (3, .int (mdS (zA Z) w)), (4, .int (nI 1)), (5, .int (nI w)), (6, .int (nI (aCk (zA Z) w))), (7, .int (nI (2 * 2 ^ aCk (zA Z) w - 2))), (8, .int (nI (aSd (zA Z) w))), (9, .int (nI (cdA (zA Z) w))), (10, .int (nI p1))]) C dL_holds_183 rfl (by decide) rfl ?_
                  refine r_iload_n C dL_holds_184 rfl 2 rfl ?_
                  refine r_aload_n C dL_holds_185 rfl 1 rfl ?_
                  refine r_iload C dL_holds_186 5 rfl ?_
                  refine r_iconst (v := nI 5) C dL_holds_188 (by decide) ?_
                  refine r_callV (As := [.int (nI w), .int (nI 5)]) C (c_X6_stackOf_p5 (b0 := b0) (Z := Z) (k := w)  (by first | assumption | omega) (by first | assumption | omega) (by first | assumption | omega)) wM_L_15 wI_X6_stackOf wN_X6 wC_X6_stackOf wV_X6_stackOf hd_X6_stackOf ⟨Nat.le_of_ble_eq_true rfl, Nat.le_of_ble_eq_true rfl⟩ rfl hob rfl rfl (Nat.le_of_ble_eq_true rfl) dL_holds_189 ⟨(Nat.le_of_ble_eq_true rfl), (Nat.le_of_ble_eq_true rfl)⟩ (fun rv n2 σ2 hp => ?_)
                  obtain ⟨rfl, rfl, rfl⟩ := hp
                  refine V.eq (σ2 := σ) (n2 := n) (st2 := [.int (nI (gpA (zA Z) w)), .int (nI (ofa (zA Z) 2 w))]) rfl rfl rfl rfl ?_
                  refine r_iaddN C dL_holds_192 ?_
                  refine r_istore_n (lv2 := [(2, .int (nI ((ofa (zA Z) 2 w) + (gpA (zA Z) w)))), (1, .int ((nI (ofa (zA Z) 1 w)) + (bI (srA (zA Z) w)))), (0, .ref b0), (3, .int (mdS (zA Z) w)), (4, .int (nI 1)), (5, .int (nI w)), (6, .int (nI (aCk (zA Z) w))), (7, .int (nI (2 * 2 ^ aCk (zA Z) w - 2))), (8, .int (nI (aSd (zA Z) w))), (9, .int (nI (cdA (zA Z) w))), (10, .int (nI p1))]) C dL_holds_193 rfl (by decide) rfl ?_
                  refine r_iload_n C dL_holds_194 rfl 3 rfl ?_
                  refine r_aload_n C dL_holds_195 rfl 2 rfl ?_
                  refine r_iload C dL_holds_196 5 rfl ?_
                  refine r_bipush (v := nI 9) C dL_holds_198 (by decide) ?_
                  refine r_callV (As := [.int (nI w), .int (nI 9)]) C (c_X6_stackOf_p9 (b0 := b0) (Z := Z) (k := w)  (by first | assumption | omega) (by first | assumption | omega) (by first | assumption | omega)) wM_L_15 wI_X6_stackOf wN_X6 wC_X6_stackOf wV_X6_stackOf hd_X6_stackOf ⟨Nat.le_of_ble_eq_true rfl, Nat.le_of_ble_eq_true rfl⟩ rfl hob rfl rfl (Nat.le_of_ble_eq_true rfl) dL_holds_200 ⟨(Nat.le_of_ble_eq_true rfl), (Nat.le_of_ble_eq_true rfl)⟩ (fun rv n2 σ2 hp => ?_)
                  obtain ⟨rfl, rfl, rfl⟩ := hp
                  refine V.eq (σ2 := σ) (n2 := n) (st2 := [.int (aMd (zA Z) w), .int (mdS (zA Z) w)]) rfl rfl rfl rfl ?_
                  refine r_iadd C dL_holds_203 ?_
                  refine r_istore_n (lv2 := [(3, .int ((mdS (zA Z) w) + (aMd (zA Z) w))), (2, .int (nI ((ofa (zA Z) 2 w) + (gpA (zA Z) w)))), (1, .int ((nI (ofa (zA Z) 1 w)) + (bI (srA (zA Z) w)))), (0, .ref b0), (4, .int (nI 1)), (5, .int (nI w)), (6, .int (nI (aCk (zA Z) w))), (7, .int (nI (2 * 2 ^ aCk (zA Z) w - 2))), (8, .int (nI (aSd (zA Z) w))), (9, .int (nI (cdA (zA Z) w))), (10, .int (nI p1))]) C dL_holds_204 rfl (by decide) rfl ?_
                  refine r_iload C dL_holds_205 7 rfl ?_
                  refine r_iconst (v := nI 2) C dL_holds_207 (by decide) ?_
                  refine r_iload C dL_holds_208 6 rfl ?_
                  refine r_ishlN C dL_holds_210 (by omega) ?_
                  refine r_iconst (v := nI 2) C dL_holds_211 (by decide) ?_
                  refine r_isubN C dL_holds_212 (by omega) ?_
                  refine r_icmp_neN (tgt := 306) C dL_holds_213 (by decide) (by omega) (by omega) (fun c213 => ?_) (fun c213 => ?_)
                  · exact absurd rfl c213
                  · refine r_iload C dL_holds_216 8 rfl ?_
                    refine r_aload_n C dL_holds_218 rfl 3 rfl ?_
                    refine r_iload C dL_holds_219 5 rfl ?_
                    refine r_iconst (v := nI 4) C dL_holds_221 (by decide) ?_
                    refine r_callV (As := [.int (nI w), .int (nI 4)]) C (c_X6_stackOf_p4 (b0 := b0) (Z := Z) (k := w)  (by first | assumption | omega) (by first | assumption | omega) (by first | assumption | omega)) wM_L_15 wI_X6_stackOf wN_X6 wC_X6_stackOf wV_X6_stackOf hd_X6_stackOf ⟨Nat.le_of_ble_eq_true rfl, Nat.le_of_ble_eq_true rfl⟩ rfl hob rfl rfl (Nat.le_of_ble_eq_true rfl) dL_holds_222 ⟨(Nat.le_of_ble_eq_true rfl), (Nat.le_of_ble_eq_true rfl)⟩ (fun rv n2 σ2 hp => ?_)
                    obtain ⟨rfl, rfl, rfl⟩ := hp
                    refine V.eq (σ2 := σ) (n2 := n) (st2 := [.int (nI (aSd (zA Z) w)), .int (nI (aSd (zA Z) w))]) rfl rfl rfl rfl ?_
                    refine r_icmp_neN (tgt := 306) C dL_holds_225 (by decide) (by omega) (by omega) (fun c225 => ?_) (fun c225 => ?_)
                    · exact absurd rfl c225
                    · refine r_iload C dL_holds_228 9 rfl ?_
                      refine r_aload_n C dL_holds_230 rfl 3 rfl ?_
                      refine r_iload C dL_holds_231 5 rfl ?_
                      refine r_iconst (v := nI 3) C dL_holds_233 (by decide) ?_
                      refine r_callV (As := [.int (nI w), .int (nI 3)]) C (c_X6_stackOf_p3 (b0 := b0) (Z := Z) (k := w)  (by first | assumption | omega) (by first | assumption | omega) (by first | assumption | omega)) wM_L_15 wI_X6_stackOf wN_X6 wC_X6_stackOf wV_X6_stackOf hd_X6_stackOf ⟨Nat.le_of_ble_eq_true rfl, Nat.le_of_ble_eq_true rfl⟩ rfl hob rfl rfl (Nat.le_of_ble_eq_true rfl) dL_holds_234 ⟨(Nat.le_of_ble_eq_true rfl), (Nat.le_of_ble_eq_true rfl)⟩ (fun rv n2 σ2 hp => ?_)
                      obtain ⟨rfl, rfl, rfl⟩ := hp
                      refine V.eq (σ2 := σ) (n2 := n) (st2 := [.int (nI (cdA (zA Z) w)), .int (nI (cdA (zA Z) w))]) rfl rfl rfl rfl ?_
                      refine r_icmp_neN (tgt := 306) C dL_holds_237 (by decide) (by omega) (by omega) (fun c237 => ?_) (fun c237 => ?_)
                      · exact absurd rfl c237
                      · refine r_aload_n C dL_holds_240 rfl 3 rfl ?_
                        refine r_iload C dL_holds_241 5 rfl ?_
                        refine r_iconst (v := nI 5) C dL_holds_243 (by decide) ?_
                        refine r_callV (As := [.int (nI w), .int (nI 5)]) C (c_X6_stackOf_p5 (b0 := b0) (Z := Z) (k := w)  (by first | assumption | omega) (by first | assumption | omega) (by first | assumption | omega)) wM_L_15 wI_X6_stackOf wN_X6 wC_X6_stackOf wV_X6_stackOf hd_X6_stackOf ⟨Nat.le_of_ble_eq_true rfl, Nat.le_of_ble_eq_true rfl⟩ rfl hob rfl rfl (Nat.le_of_ble_eq_true rfl) dL_holds_244 ⟨(Nat.le_of_ble_eq_true rfl), (Nat.le_of_ble_eq_true rfl)⟩ (fun rv n2 σ2 hp => ?_)
                        obtain ⟨rfl, rfl, rfl⟩ := hp
                        refine V.eq (σ2 := σ) (n2 := n) (st2 := [.int (nI (gpA (zA Z) w))]) rfl rfl rfl rfl ?_
                        refine r_iload C dL_holds_247 6 rfl ?_
                        refine r_icmp_gtN (tgt := 306) C dL_holds_249 (by decide) (by omega) (by omega) (fun c249 => ?_) (fun c249 => ?_)
                        · exact absurd c249 (by omega)
                        · refine r_aload_n C dL_holds_252 rfl 3 rfl ?_
                          refine r_iload C dL_holds_253 5 rfl ?_
                          refine r_bipush (v := nI 6) C dL_holds_255 (by decide) ?_
                          refine r_callV (As := [.int (nI w), .int (nI 6)]) C (c_X6_stackOf_p6 (b0 := b0) (Z := Z) (k := w)  (by first | assumption | omega) (by first | assumption | omega) (by first | assumption | omega)) wM_L_15 wI_X6_stackOf wN_X6 wC_X6_stackOf wV_X6_stackOf hd_X6_stackOf ⟨Nat.le_of_ble_eq_true rfl, Nat.le_of_ble_eq_true rfl⟩ rfl hob rfl rfl (Nat.le_of_ble_eq_true rfl) dL_holds_257 ⟨(Nat.le_of_ble_eq_true rfl), (Nat.le_of_ble_eq_true rfl)⟩ (fun rv n2 σ2 hp => ?_)
                          obtain ⟨rfl, rfl, rfl⟩ := hp
                          refine V.eq (σ2 := σ) (n2 := n) (st2 := [.int (bI (srA (zA Z) w))]) rfl rfl rfl rfl ?_
                          refine r_if_eqB (tgt := 284) C dL_holds_260 (by decide) (fun c260 => ?_) (fun c260 => ?_)
                          · refine r_aload_n C dL_holds_284 rfl 3 rfl ?_
                            refine r_iload C dL_holds_285 5 rfl ?_
                            refine r_iconst (v := nI 0) C dL_holds_287 (by decide) ?_
                            refine r_callV (As := [.int (nI w), .int (nI 0)]) C (c_X6_stackOf_p0 (b0 := b0) (Z := Z) (k := w)  (by first | assumption | omega) (by first | assumption | omega) (by first | assumption | omega)) wM_L_15 wI_X6_stackOf wN_X6 wC_X6_stackOf wV_X6_stackOf hd_X6_stackOf ⟨Nat.le_of_ble_eq_true rfl, Nat.le_of_ble_eq_true rfl⟩ rfl hob rfl rfl (Nat.le_of_ble_eq_true rfl) dL_holds_288 ⟨(Nat.le_of_ble_eq_true rfl), (Nat.le_of_ble_eq_true rfl)⟩ (fun rv n2 σ2 hp => ?_)
                            obtain ⟨rfl, rfl, rfl⟩ := hp
                            refine V.eq (σ2 := σ) (n2 := n) (st2 := [.int (nI (aKd (zA Z) w))]) rfl rfl rfl rfl ?_
                            refine r_iconst (v := nI 2) C dL_holds_291 (by decide) ?_
                            refine r_iremN C dL_holds_292 (by omega) (by decide) (by decide) ?_
                            refine r_iconst (v := nI 1) C dL_holds_293 (by decide) ?_
                            refine r_icmp_eqN (tgt := 302) C dL_holds_294 (by decide) (by omega) (by decide) (fun c294 => ?_) (fun c294 => ?_)
                            · refine r_iconst (v := nI 1) C dL_holds_302 (by decide) ?_
                              refine r_goto (tgt := 307) C dL_holds_303 (by decide) ?_
                              refine r_istore (lv2 := [(4, .int (nI 1)), (3, .int ((mdS (zA Z) w) + (aMd (zA Z) w))), (2, .int (nI ((ofa (zA Z) 2 w) + (gpA (zA Z) w)))), (1, .int ((nI (ofa (zA Z) 1 w)) + (bI (srA (zA Z) w)))), (0, .ref b0), (5, .int (nI w)), (6, .int (nI (aCk (zA Z) w))), (7, .int (nI (2 * 2 ^ aCk (zA Z) w - 2))), (8, .int (nI (aSd (zA Z) w))), (9, .int (nI (cdA (zA Z) w))), (10, .int (nI p1))]) C dL_holds_307 (by decide) rfl ?_
                              refine r_iinc (v := nI (w + 1)) (lv2 := [(5, .int (nI (w + 1))), (4, .int (nI 1)), (3, .int ((mdS (zA Z) w) + (aMd (zA Z) w))), (2, .int (nI ((ofa (zA Z) 2 w) + (gpA (zA Z) w)))), (1, .int ((nI (ofa (zA Z) 1 w)) + (bI (srA (zA Z) w)))), (0, .ref b0), (6, .int (nI (aCk (zA Z) w))), (7, .int (nI (2 * 2 ^ aCk (zA Z) w - 2))), (8, .int (nI (aSd (zA Z) w))), (9, .int (nI (cdA (zA Z) w))), (10, .int (nI p1))]) C dL_holds_309 (k := 5) rfl (nI_add _ 1) (by decide) rfl ?_
                              refine r_goto (tgt := 60) C dL_holds_312 (by decide) ?_
                              refine V.sub (lv2 := [(0, .ref b0), (1, .int ((nI (ofa (zA Z) 1 w)) + (bI (srA (zA Z) w)))), (2, .int (nI ((ofa (zA Z) 2 w) + (gpA (zA Z) w)))), (3, .int ((mdS (zA Z) w) + (aMd (zA Z) w))), (4, .int (nI 1)), (5, .int (nI (w + 1)))]) [5, 4, 3, 2, 1, 0] rfl ?_
                              refine V.eq (σ2 := σ) (lv2 := [(0, .ref b0), (1, .int (nI (ofa (zA Z) 1 (w + 1)))), (2, .int (nI (ofa (zA Z) 2 (w + 1)))), (3, .int (mdS (zA Z) (w + 1))), (4, .int (nI 1)), (5, .int (nI (w + 1)))]) (st2 := []) rfl rfl (by rw [(show (nI (ofa (zA Z) 1 w)) + (bI (srA (zA Z) w)) = nI (ofa (zA Z) 1 (w + 1)) from ofa_1 _ _), (show nI ((ofa (zA Z) 2 w) + (gpA (zA Z) w)) = nI (ofa (zA Z) 2 (w + 1)) from congrArg nI (ofa_2 _ _).symm), (show (mdS (zA Z) w) + (aMd (zA Z) w) = mdS (zA Z) (w + 1) from rfl)]) rfl ?_
                              exact ih60 (w + 1) (by omega) (by omega)
                            · have h00 := sd_even hA hlt (by omega)
                              refine r_iload C dL_holds_297 8 rfl ?_
                              refine r_if_neN (tgt := 306) C dL_holds_299 (by decide) (by omega) (fun c299 => ?_) (fun c299 => ?_)
                              · exact absurd c299 (by omega)
                              · refine r_iconst (v := nI 1) C dL_holds_302 (by decide) ?_
                                refine r_goto (tgt := 307) C dL_holds_303 (by decide) ?_
                                refine r_istore (lv2 := [(4, .int (nI 1)), (3, .int ((mdS (zA Z) w) + (aMd (zA Z) w))), (2, .int (nI ((ofa (zA Z) 2 w) + (gpA (zA Z) w)))), (1, .int ((nI (ofa (zA Z) 1 w)) + (bI (srA (zA Z) w)))), (0, .ref b0), (5, .int (nI w)), (6, .int (nI (aCk (zA Z) w))), (7, .int (nI (2 * 2 ^ aCk (zA Z) w - 2))), (8, .int (nI (aSd (zA Z) w))), (9, .int (nI (cdA (zA Z) w))), (10, .int (nI p1))]) C dL_holds_307 (by decide) rfl ?_
                                refine r_iinc (v := nI (w + 1)) (lv2 := [(5, .int (nI (w + 1))), (4, .int (nI 1)), (3, .int ((mdS (zA Z) w) + (aMd (zA Z) w))), (2, .int (nI ((ofa (zA Z) 2 w) + (gpA (zA Z) w)))), (1, .int ((nI (ofa (zA Z) 1 w)) + (bI (srA (zA Z) w)))), (0, .ref b0), (6, .int (nI (aCk (zA Z) w))), (7, .int (nI (2 * 2 ^ aCk (zA Z) w - 2))), (8, .int (nI (aSd (zA Z) w))), (9, .int (nI (cdA (zA Z) w))), (10, .int (nI p1))]) C dL_holds_309 (k := 5) rfl (nI_add _ 1) (by decide) rfl ?_
                                refine r_goto (tgt := 60) C dL_holds_312 (by decide) ?_
                                refine V.sub (lv2 := [(0, .ref b0), (1, .int ((nI (ofa (zA Z) 1 w)) + (bI (srA (zA Z) w)))), (2, .int (nI ((ofa (zA Z) 2 w) + (gpA (zA Z) w)))), (3, .int ((mdS (zA Z) w) + (aMd (zA Z) w))), (4, .int (nI 1)), (5, .int (nI (w + 1)))]) [5, 4, 3, 2, 1, 0] rfl ?_
                                refine V.eq (σ2 := σ) (lv2 := [(0, .ref b0), (1, .int (nI (ofa (zA Z) 1 (w + 1)))), (2, .int (nI (ofa (zA Z) 2 (w + 1)))), (3, .int (mdS (zA Z) (w + 1))), (4, .int (nI 1)), (5, .int (nI (w + 1)))]) (st2 := []) rfl rfl (by rw [(show (nI (ofa (zA Z) 1 w)) + (bI (srA (zA Z) w)) = nI (ofa (zA Z) 1 (w + 1)) from ofa_1 _ _), (show nI ((ofa (zA Z) 2 w) + (gpA (zA Z) w)) = nI (ofa (zA Z) 2 (w + 1)) from congrArg nI (ofa_2 _ _).symm), (show (mdS (zA Z) w) + (aMd (zA Z) w) = mdS (zA Z) (w + 1) from rfl)]) rfl ?_
                                exact ih60 (w + 1) (by omega) (by omega)
                          · have h00 := sr_1 hA hlt c260
                            refine r_aload_n C dL_holds_263 rfl 3 rfl ?_
                            refine r_iload C dL_holds_264 5 rfl ?_
                            refine r_iconst (v := nI 5) C dL_holds_266 (by decide) ?_
                            refine r_callV (As := [.int (nI w), .int (nI 5)]) C (c_X6_stackOf_p5 (b0 := b0) (Z := Z) (k := w)  (by first | assumption | omega) (by first | assumption | omega) (by first | assumption | omega)) wM_L_15 wI_X6_stackOf wN_X6 wC_X6_stackOf wV_X6_stackOf hd_X6_stackOf ⟨Nat.le_of_ble_eq_true rfl, Nat.le_of_ble_eq_true rfl⟩ rfl hob rfl rfl (Nat.le_of_ble_eq_true rfl) dL_holds_267 ⟨(Nat.le_of_ble_eq_true rfl), (Nat.le_of_ble_eq_true rfl)⟩ (fun rv n2 σ2 hp => ?_)
                            obtain ⟨rfl, rfl, rfl⟩ := hp
                            refine V.eq (σ2 := σ) (n2 := n) (st2 := [.int (nI (gpA (zA Z) w))]) rfl rfl rfl rfl ?_
                            refine r_if_neN (tgt := 306) C dL_holds_270 (by decide) (by omega) (fun c270 => ?_) (fun c270 => ?_)
                            · exact absurd c270 (by omega)
                            · refine r_aload_n C dL_holds_273 rfl 3 rfl ?_
                              refine r_iload C dL_holds_274 5 rfl ?_
                              refine r_bipush (v := nI 7) C dL_holds_276 (by decide) ?_
                              refine r_callV (As := [.int (nI w), .int (nI 7)]) C (c_X6_stackOf_p7 (b0 := b0) (Z := Z) (k := w)  (by first | assumption | omega) (by first | assumption | omega) (by first | assumption | omega)) wM_L_15 wI_X6_stackOf wN_X6 wC_X6_stackOf wV_X6_stackOf hd_X6_stackOf ⟨Nat.le_of_ble_eq_true rfl, Nat.le_of_ble_eq_true rfl⟩ rfl hob rfl rfl (Nat.le_of_ble_eq_true rfl) dL_holds_278 ⟨(Nat.le_of_ble_eq_true rfl), (Nat.le_of_ble_eq_true rfl)⟩ (fun rv n2 σ2 hp => ?_)
                              obtain ⟨rfl, rfl, rfl⟩ := hp
                              refine V.eq (σ2 := σ) (n2 := n) (st2 := [.int (nI (rkA (zA Z) w))]) rfl rfl rfl rfl ?_
                              refine r_if_neN (tgt := 306) C dL_holds_281 (by decide) (by omega) (fun c281 => ?_) (fun c281 => ?_)
                              · exact absurd c281 (by omega)
                              · refine r_aload_n C dL_holds_284 rfl 3 rfl ?_
                                refine r_iload C dL_holds_285 5 rfl ?_
                                refine r_iconst (v := nI 0) C dL_holds_287 (by decide) ?_
                                refine r_callV (As := [.int (nI w), .int (nI 0)]) C (c_X6_stackOf_p0 (b0 := b0) (Z := Z) (k := w)  (by first | assumption | omega) (by first | assumption | omega) (by first | assumption | omega)) wM_L_15 wI_X6_stackOf wN_X6 wC_X6_stackOf wV_X6_stackOf hd_X6_stackOf ⟨Nat.le_of_ble_eq_true rfl, Nat.le_of_ble_eq_true rfl⟩ rfl hob rfl rfl (Nat.le_of_ble_eq_true rfl) dL_holds_288 ⟨(Nat.le_of_ble_eq_true rfl), (Nat.le_of_ble_eq_true rfl)⟩ (fun rv n2 σ2 hp => ?_)
                                obtain ⟨rfl, rfl, rfl⟩ := hp
                                refine V.eq (σ2 := σ) (n2 := n) (st2 := [.int (nI (aKd (zA Z) w))]) rfl rfl rfl rfl ?_
                                refine r_iconst (v := nI 2) C dL_holds_291 (by decide) ?_
                                refine r_iremN C dL_holds_292 (by omega) (by decide) (by decide) ?_
                                refine r_iconst (v := nI 1) C dL_holds_293 (by decide) ?_
                                refine r_icmp_eqN (tgt := 302) C dL_holds_294 (by decide) (by omega) (by decide) (fun c294 => ?_) (fun c294 => ?_)
                                · refine r_iconst (v := nI 1) C dL_holds_302 (by decide) ?_
                                  refine r_goto (tgt := 307) C dL_holds_303 (by decide) ?_
                                  refine r_istore (lv2 := [(4, .int (nI 1)), (3, .int ((mdS (zA Z) w) + (aMd (zA Z) w))), (2, .int (nI ((ofa (zA Z) 2 w) + (gpA (zA Z) w)))), (1, .int ((nI (ofa (zA Z) 1 w)) + (bI (srA (zA Z) w)))), (0, .ref b0), (5, .int (nI w)), (6, .int (nI (aCk (zA Z) w))), (7, .int (nI (2 * 2 ^ aCk (zA Z) w - 2))), (8, .int (nI (aSd (zA Z) w))), (9, .int (nI (cdA (zA Z) w))), (10, .int (nI p1))]) C dL_holds_307 (by decide) rfl ?_
                                  refine r_iinc (v := nI (w + 1)) (lv2 := [(5, .int (nI (w + 1))), (4, .int (nI 1)), (3, .int ((mdS (zA Z) w) + (aMd (zA Z) w))), (2, .int (nI ((ofa (zA Z) 2 w) + (gpA (zA Z) w)))), (1, .int ((nI (ofa (zA Z) 1 w)) + (bI (srA (zA Z) w)))), (0, .ref b0), (6, .int (nI (aCk (zA Z) w))), (7, .int (nI (2 * 2 ^ aCk (zA Z) w - 2))), (8, .int (nI (aSd (zA Z) w))), (9, .int (nI (cdA (zA Z) w))), (10, .int (nI p1))]) C dL_holds_309 (k := 5) rfl (nI_add _ 1) (by decide) rfl ?_
                                  refine r_goto (tgt := 60) C dL_holds_312 (by decide) ?_
                                  refine V.sub (lv2 := [(0, .ref b0), (1, .int ((nI (ofa (zA Z) 1 w)) + (bI (srA (zA Z) w)))), (2, .int (nI ((ofa (zA Z) 2 w) + (gpA (zA Z) w)))), (3, .int ((mdS (zA Z) w) + (aMd (zA Z) w))), (4, .int (nI 1)), (5, .int (nI (w + 1)))]) [5, 4, 3, 2, 1, 0] rfl ?_
                                  refine V.eq (σ2 := σ) (lv2 := [(0, .ref b0), (1, .int (nI (ofa (zA Z) 1 (w + 1)))), (2, .int (nI (ofa (zA Z) 2 (w + 1)))), (3, .int (mdS (zA Z) (w + 1))), (4, .int (nI 1)), (5, .int (nI (w + 1)))]) (st2 := []) rfl rfl (by rw [(show (nI (ofa (zA Z) 1 w)) + (bI (srA (zA Z) w)) = nI (ofa (zA Z) 1 (w + 1)) from ofa_1 _ _), (show nI ((ofa (zA Z) 2 w) + (gpA (zA Z) w)) = nI (ofa (zA Z) 2 (w + 1)) from congrArg nI (ofa_2 _ _).symm), (show (mdS (zA Z) w) + (aMd (zA Z) w) = mdS (zA Z) (w + 1) from rfl)]) rfl ?_
                                  exact ih60 (w + 1) (by omega) (by omega)
                                · have h00 := sd_even hA hlt (by omega)
                                  refine r_iload C dL_holds_297 8 rfl ?_
                                  refine r_if_neN (tgt := 306) C dL_holds_299 (by decide) (by omega) (fun c299 => ?_) (fun c299 => ?_)
                                  · exact absurd c299 (by omega)
                                  · refine r_iconst (v := nI 1) C dL_holds_302 (by decide) ?_
                                    refine r_goto (tgt := 307) C dL_holds_303 (by decide) ?_
                                    refine r_istore (lv2 := [(4, .int (nI 1)), (3, .int ((mdS (zA Z) w) + (aMd (zA Z) w))), (2, .int (nI ((ofa (zA Z) 2 w) + (gpA (zA Z) w)))), (1, .int ((nI (ofa (zA Z) 1 w)) + (bI (srA (zA Z) w)))), (0, .ref b0), (5, .int (nI w)), (6, .int (nI (aCk (zA Z) w))), (7, .int (nI (2 * 2 ^ aCk (zA Z) w - 2))), (8, .int (nI (aSd (zA Z) w))), (9, .int (nI (cdA (zA Z) w))), (10, .int (nI p1))]) C dL_holds_307 (by decide) rfl ?_
                                    refine r_iinc (v := nI (w + 1)) (lv2 := [(5, .int (nI (w + 1))), (4, .int (nI 1)), (3, .int ((mdS (zA Z) w) + (aMd (zA Z) w))), (2, .int (nI ((ofa (zA Z) 2 w) + (gpA (zA Z) w)))), (1, .int ((nI (ofa (zA Z) 1 w)) + (bI (srA (zA Z) w)))), (0, .ref b0), (6, .int (nI (aCk (zA Z) w))), (7, .int (nI (2 * 2 ^ aCk (zA Z) w - 2))), (8, .int (nI (aSd (zA Z) w))), (9, .int (nI (cdA (zA Z) w))), (10, .int (nI p1))]) C dL_holds_309 (k := 5) rfl (nI_add _ 1) (by decide) rfl ?_
                                    refine r_goto (tgt := 60) C dL_holds_312 (by decide) ?_
                                    refine V.sub (lv2 := [(0, .ref b0), (1, .int ((nI (ofa (zA Z) 1 w)) + (bI (srA (zA Z) w)))), (2, .int (nI ((ofa (zA Z) 2 w) + (gpA (zA Z) w)))), (3, .int ((mdS (zA Z) w) + (aMd (zA Z) w))), (4, .int (nI 1)), (5, .int (nI (w + 1)))]) [5, 4, 3, 2, 1, 0] rfl ?_
                                    refine V.eq (σ2 := σ) (lv2 := [(0, .ref b0), (1, .int (nI (ofa (zA Z) 1 (w + 1)))), (2, .int (nI (ofa (zA Z) 2 (w + 1)))), (3, .int (mdS (zA Z) (w + 1))), (4, .int (nI 1)), (5, .int (nI (w + 1)))]) (st2 := []) rfl rfl (by rw [(show (nI (ofa (zA Z) 1 w)) + (bI (srA (zA Z) w)) = nI (ofa (zA Z) 1 (w + 1)) from ofa_1 _ _), (show nI ((ofa (zA Z) 2 w) + (gpA (zA Z) w)) = nI (ofa (zA Z) 2 (w + 1)) from congrArg nI (ofa_2 _ _).symm), (show (mdS (zA Z) w) + (aMd (zA Z) w) = mdS (zA Z) (w + 1) from rfl)]) rfl ?_
                                    exact ih60 (w + 1) (by omega) (by omega)
                · have hpl : p1 < aCk (zA Z) w := by omega
                  have hsz := sz_rng hN6 ho hpl
                  refine r_aload_n C dL_holds_103 rfl 0 rfl ?_
                  refine r_iload C dL_holds_104 5 rfl ?_
                  refine r_iload C dL_holds_106 10 rfl ?_
                  refine r_callV (As := [.int (nI w), .int (nI p1)]) C (c_X6_cakeAt_p (b0 := b0) (Z := Z) (k := w) (q := p1)  (by first | assumption | omega) (by first | assumption | omega) (by first | assumption | omega) (by first | assumption | omega)) wM_L_19 wI_X6_cakeAt wN_X6 wC_X6_cakeAt wV_X6_cakeAt hd_X6_cakeAt ⟨Nat.le_of_ble_eq_true rfl, Nat.le_of_ble_eq_true rfl⟩ rfl hob rfl rfl (Nat.le_of_ble_eq_true rfl) dL_holds_108 ⟨(Nat.le_of_ble_eq_true rfl), (Nat.le_of_ble_eq_true rfl)⟩ (fun rv n2 σ2 hp => ?_)
                  obtain ⟨rfl, rfl, rfl⟩ := hp
                  refine V.eq (σ2 := σ) (n2 := n) (st2 := [.int ((nI (sz (aCk (zA Z) w) (aO (zA Z) w) p1)) - (nI (10 * (bt (aSd (zA Z) w) p1))))]) rfl rfl rfl rfl ?_
                  refine r_istore (lv2 := [(11, .int ((nI (sz (aCk (zA Z) w) (aO (zA Z) w) p1)) - (nI (10 * (bt (aSd (zA Z) w) p1))))), (0, .ref b0), (1, .int (nI (ofa (zA Z) 1 w))), (2, .int (nI (ofa (zA Z) 2 w))), (3, .int (mdS (zA Z) w)), (4, .int (nI 1)), (5, .int (nI w)), (6, .int (nI (aCk (zA Z) w))), (7, .int (nI (usd (aCk (zA Z) w) (aO (zA Z) w) p1))), (8, .int (nI (sdp (aSd (zA Z) w) p1))), (9, .int (nI (cdp (aCk (zA Z) w) (aO (zA Z) w) p1))), (10, .int (nI p1))]) C dL_holds_111 (by decide) rfl ?_
                  refine r_iload C dL_holds_113 0 rfl ?_
                  refine r_if_le (tgt := 123) C dL_holds_115 (by decide) (fun c115 => ?_) (fun c115 => ?_)
                  · have hb := cake_t hN6 ho hpl c115
                    refine V.eq (lv2 := [(11, .int ((nI (sz (aCk (zA Z) w) (aO (zA Z) w) p1)) - (nI 10))), (0, .ref b0), (1, .int (nI (ofa (zA Z) 1 w))), (2, .int (nI (ofa (zA Z) 2 w))), (3, .int (mdS (zA Z) w)), (4, .int (nI 1)), (5, .int (nI w)), (6, .int (nI (aCk (zA Z) w))), (7, .int (nI (usd (aCk (zA Z) w) (aO (zA Z) w) p1))), (8, .int (nI (sdp (aSd (zA Z) w) p1))), (9, .int (nI (cdp (aCk (zA Z) w) (aO (zA Z) w) p1))), (10, .int (nI p1))]) rfl rfl (by rw [(show (nI (sz (aCk (zA Z) w) (aO (zA Z) w) p1)) - (nI (10 * (bt (aSd (zA Z) w) p1))) = (nI (sz (aCk (zA Z) w) (aO (zA Z) w) p1)) - (nI 10) from by rw [hb, Nat.mul_one])]) rfl ?_
                    refine r_iload C dL_holds_123 0 rfl ?_
                    refine r_bipush (v := nI 10) C dL_holds_125 (by decide) ?_
                    refine r_iadd C dL_holds_127 ?_
                    refine V.top (y := nI (sz (aCk (zA Z) w) (aO (zA Z) w) p1)) (sub_10 _) ?_
                    refine r_istore (lv2 := [(12, .int (nI (sz (aCk (zA Z) w) (aO (zA Z) w) p1))), (11, .int ((nI (sz (aCk (zA Z) w) (aO (zA Z) w) p1)) - (nI 10))), (0, .ref b0), (1, .int (nI (ofa (zA Z) 1 w))), (2, .int (nI (ofa (zA Z) 2 w))), (3, .int (mdS (zA Z) w)), (4, .int (nI 1)), (5, .int (nI w)), (6, .int (nI (aCk (zA Z) w))), (7, .int (nI (usd (aCk (zA Z) w) (aO (zA Z) w) p1))), (8, .int (nI (sdp (aSd (zA Z) w) p1))), (9, .int (nI (cdp (aCk (zA Z) w) (aO (zA Z) w) p1))), (10, .int (nI p1))]) C dL_holds_128 (by decide) rfl ?_
                    refine r_iload C dL_holds_130 9 rfl ?_
                    refine r_iconst (v := nI 1) C dL_holds_132 (by decide) ?_
                    refine r_iload C dL_holds_133 0 rfl ?_
                    refine r_ishlN C dL_holds_135 (by omega) ?_
                    refine r_iorN C dL_holds_136 ?_
                    refine r_istore (lv2 := [(7, .int (nI ((usd (aCk (zA Z) w) (aO (zA Z) w) p1) ||| (1 * 2 ^ (sz (aCk (zA Z) w) (aO (zA Z) w) p1))))), (12, .int (nI (sz (aCk (zA Z) w) (aO (zA Z) w) p1))), (11, .int ((nI (sz (aCk (zA Z) w) (aO (zA Z) w) p1)) - (nI 10))), (0, .ref b0), (1, .int (nI (ofa (zA Z) 1 w))), (2, .int (nI (ofa (zA Z) 2 w))), (3, .int (mdS (zA Z) w)), (4, .int (nI 1)), (5, .int (nI w)), (6, .int (nI (aCk (zA Z) w))), (8, .int (nI (sdp (aSd (zA Z) w) p1))), (9, .int (nI (cdp (aCk (zA Z) w) (aO (zA Z) w) p1))), (10, .int (nI p1))]) C dL_holds_137 (by decide) rfl ?_
                    refine r_iload C dL_holds_139 10 rfl ?_
                    refine r_iload C dL_holds_141 2 rfl ?_
                    refine r_if_le (tgt := 150) C dL_holds_143 (by decide) (fun c143 => ?_) (fun c143 => ?_)
                    · refine r_iconst (v := nI 1) C dL_holds_150 (by decide) ?_
                      refine r_iload C dL_holds_151 12 rfl ?_
                      refine r_ishlN C dL_holds_153 (by omega) ?_
                      refine r_iorN C dL_holds_154 ?_
                      refine r_istore (lv2 := [(8, .int (nI ((sdp (aSd (zA Z) w) p1) ||| (1 * 2 ^ p1)))), (7, .int (nI ((usd (aCk (zA Z) w) (aO (zA Z) w) p1) ||| (1 * 2 ^ (sz (aCk (zA Z) w) (aO (zA Z) w) p1))))), (12, .int (nI (sz (aCk (zA Z) w) (aO (zA Z) w) p1))), (11, .int ((nI (sz (aCk (zA Z) w) (aO (zA Z) w) p1)) - (nI 10))), (0, .ref b0), (1, .int (nI (ofa (zA Z) 1 w))), (2, .int (nI (ofa (zA Z) 2 w))), (3, .int (mdS (zA Z) w)), (4, .int (nI 1)), (5, .int (nI w)), (6, .int (nI (aCk (zA Z) w))), (9, .int (nI (cdp (aCk (zA Z) w) (aO (zA Z) w) p1))), (10, .int (nI p1))]) C dL_holds_155 (by decide) rfl ?_
                      refine r_bipush (v := nI 10) C dL_holds_157 (by decide) ?_
                      refine r_iload C dL_holds_159 11 rfl ?_
                      refine r_imulN C dL_holds_161 ?_
                      refine r_iload C dL_holds_162 2 rfl ?_
                      refine r_iaddN C dL_holds_164 ?_
                      refine r_istore (lv2 := [(9, .int (nI ((10 * (cdp (aCk (zA Z) w) (aO (zA Z) w) p1)) + (sz (aCk (zA Z) w) (aO (zA Z) w) p1)))), (8, .int (nI ((sdp (aSd (zA Z) w) p1) ||| (1 * 2 ^ p1)))), (7, .int (nI ((usd (aCk (zA Z) w) (aO (zA Z) w) p1) ||| (1 * 2 ^ (sz (aCk (zA Z) w) (aO (zA Z) w) p1))))), (12, .int (nI (sz (aCk (zA Z) w) (aO (zA Z) w) p1))), (11, .int ((nI (sz (aCk (zA Z) w) (aO (zA Z) w) p1)) - (nI 10))), (0, .ref b0), (1, .int (nI (ofa (zA Z) 1 w))), (2, .int (nI (ofa (zA Z) 2 w))), (3, .int (mdS (zA Z) w)), (4, .int (nI 1)), (5, .int (nI w)), (6, .int (nI (aCk (zA Z) w))), (10, .int (nI p1))]) C dL_holds_165 (by decide) rfl ?_
                      refine r_iinc (v := nI (p1 + 1)) (lv2 := [(10, .int (nI (p1 + 1))), (9, .int (nI ((10 * (cdp (aCk (zA Z) w) (aO (zA Z) w) p1)) + (sz (aCk (zA Z) w) (aO (zA Z) w) p1)))), (8, .int (nI ((sdp (aSd (zA Z) w) p1) ||| (1 * 2 ^ p1)))), (7, .int (nI ((usd (aCk (zA Z) w) (aO (zA Z) w) p1) ||| (1 * 2 ^ (sz (aCk (zA Z) w) (aO (zA Z) w) p1))))), (12, .int (nI (sz (aCk (zA Z) w) (aO (zA Z) w) p1))), (11, .int ((nI (sz (aCk (zA Z) w) (aO (zA Z) w) p1)) - (nI 10))), (0, .ref b0), (1, .int (nI (ofa (zA Z) 1 w))), (2, .int (nI (ofa (zA Z) 2 w))), (3, .int (mdS (zA Z) w)), (4, .int (nI 1)), (5, .int (nI w)), (6, .int (nI (aCk (zA Z) w)))]) C dL_holds_167 (k := 12) rfl (nI_add _ 1) (by decide) rfl ?_
                      refine r_goto (tgt := 96) C dL_holds_170 (by decide) ?_
                      refine V.sub (lv2 := [(0, .ref b0), (1, .int (nI (ofa (zA Z) 1 w))), (2, .int (nI (ofa (zA Z) 2 w))), (3, .int (mdS (zA Z) w)), (4, .int (nI 1)), (5, .int (nI w)), (6, .int (nI (aCk (zA Z) w))), (7, .int (nI ((usd (aCk (zA Z) w) (aO (zA Z) w) p1) ||| (1 * 2 ^ (sz (aCk (zA Z) w) (aO (zA Z) w) p1))))), (8, .int (nI ((sdp (aSd (zA Z) w) p1) ||| (1 * 2 ^ p1)))), (9, .int (nI ((10 * (cdp (aCk (zA Z) w) (aO (zA Z) w) p1)) + (sz (aCk (zA Z) w) (aO (zA Z) w) p1)))), (10, .int (nI (p1 + 1)))]) [6, 7, 8, 9, 10, 11, 12, 3, 2, 1, 0] rfl ?_
                      refine V.eq (σ2 := σ) (lv2 := [(0, .ref b0), (1, .int (nI (ofa (zA Z) 1 w))), (2, .int (nI (ofa (zA Z) 2 w))), (3, .int (mdS (zA Z) w)), (4, .int (nI 1)), (5, .int (nI w)), (6, .int (nI (aCk (zA Z) w))), (7, .int (nI (usd (aCk (zA Z) w) (aO (zA Z) w) (p1 + 1)))), (8, .int (nI (sdp (aSd (zA Z) w) (p1 + 1)))), (9, .int (nI (cdp (aCk (zA Z) w) (aO (zA Z) w) (p1 + 1)))), (10, .int (nI (p1 + 1)))]) (st2 := []) rfl rfl (by rw [(show nI ((usd (aCk (zA Z) w) (aO (zA Z) w) p1) ||| (1 * 2 ^ (sz (aCk (zA Z) w) (aO (zA Z) w) p1))) = nI (usd (aCk (zA Z) w) (aO (zA Z) w) (p1 + 1)) from rfl), (show nI ((sdp (aSd (zA Z) w) p1) ||| (1 * 2 ^ p1)) = nI (sdp (aSd (zA Z) w) (p1 + 1)) from by first | (rw [sdp, hb]; done) | (rw [sdp, hb, Nat.zero_mul]; done)), (show nI ((10 * (cdp (aCk (zA Z) w) (aO (zA Z) w) p1)) + (sz (aCk (zA Z) w) (aO (zA Z) w) p1)) = nI (cdp (aCk (zA Z) w) (aO (zA Z) w) (p1 + 1)) from rfl)]) rfl ?_
                      exact ih96 (p1 + 1) (by omega) (by omega)
                    · exact absurd (k_le10 _ (by omega)) c143
                  · have hb := cake_f hN6 ho hpl c115
                    refine V.eq (lv2 := [(11, .int (nI (sz (aCk (zA Z) w) (aO (zA Z) w) p1))), (0, .ref b0), (1, .int (nI (ofa (zA Z) 1 w))), (2, .int (nI (ofa (zA Z) 2 w))), (3, .int (mdS (zA Z) w)), (4, .int (nI 1)), (5, .int (nI w)), (6, .int (nI (aCk (zA Z) w))), (7, .int (nI (usd (aCk (zA Z) w) (aO (zA Z) w) p1))), (8, .int (nI (sdp (aSd (zA Z) w) p1))), (9, .int (nI (cdp (aCk (zA Z) w) (aO (zA Z) w) p1))), (10, .int (nI p1))]) rfl rfl (by rw [(show (nI (sz (aCk (zA Z) w) (aO (zA Z) w) p1)) - (nI (10 * (bt (aSd (zA Z) w) p1))) = nI (sz (aCk (zA Z) w) (aO (zA Z) w) p1) from by rw [hb, Nat.mul_zero]; exact sub_00 _)]) rfl ?_
                    refine r_iload C dL_holds_118 0 rfl ?_
                    refine r_goto (tgt := 128) C dL_holds_120 (by decide) ?_
                    refine r_istore (lv2 := [(12, .int (nI (sz (aCk (zA Z) w) (aO (zA Z) w) p1))), (11, .int (nI (sz (aCk (zA Z) w) (aO (zA Z) w) p1))), (0, .ref b0), (1, .int (nI (ofa (zA Z) 1 w))), (2, .int (nI (ofa (zA Z) 2 w))), (3, .int (mdS (zA Z) w)), (4, .int (nI 1)), (5, .int (nI w)), (6, .int (nI (aCk (zA Z) w))), (7, .int (nI (usd (aCk (zA Z) w) (aO (zA Z) w) p1))), (8, .int (nI (sdp (aSd (zA Z) w) p1))), (9, .int (nI (cdp (aCk (zA Z) w) (aO (zA Z) w) p1))), (10, .int (nI p1))]) C dL_holds_128 (by decide) rfl ?_
                    refine r_iload C dL_holds_130 9 rfl ?_
                    refine r_iconst (v := nI 1) C dL_holds_132 (by decide) ?_
                    refine r_iload C dL_holds_133 0 rfl ?_
                    refine r_ishlN C dL_holds_135 (by omega) ?_
                    refine r_iorN C dL_holds_136 ?_
                    refine r_istore (lv2 := [(7, .int (nI ((usd (aCk (zA Z) w) (aO (zA Z) w) p1) ||| (1 * 2 ^ (sz (aCk (zA Z) w) (aO (zA Z) w) p1))))), (12, .int (nI (sz (aCk (zA Z) w) (aO (zA Z) w) p1))), (11, .int (nI (sz (aCk (zA Z) w) (aO (zA Z) w) p1))), (0, .ref b0), (1, .int (nI (ofa (zA Z) 1 w))), (2, .int (nI (ofa (zA Z) 2 w))), (3, .int (mdS (zA Z) w)), (4, .int (nI 1)), (5, .int (nI w)), (6, .int (nI (aCk (zA Z) w))), (8, .int (nI (sdp (aSd (zA Z) w) p1))), (9, .int (nI (cdp (aCk (zA Z) w) (aO (zA Z) w) p1))), (10, .int (nI p1))]) C dL_holds_137 (by decide) rfl ?_
                    refine r_iload C dL_holds_139 10 rfl ?_
                    refine r_iload C dL_holds_141 2 rfl ?_
                    refine r_if_leN (tgt := 150) C dL_holds_143 (by decide) (by omega) (fun c143 => ?_) (fun c143 => ?_)
                    · exact absurd c143 (by omega)
                    · refine r_iconst (v := nI 0) C dL_holds_146 (by decide) ?_
                      refine r_goto (tgt := 154) C dL_holds_147 (by decide) ?_
                      refine r_iorN C dL_holds_154 ?_
                      refine r_istore (lv2 := [(8, .int (nI ((sdp (aSd (zA Z) w) p1) ||| 0))), (7, .int (nI ((usd (aCk (zA Z) w) (aO (zA Z) w) p1) ||| (1 * 2 ^ (sz (aCk (zA Z) w) (aO (zA Z) w) p1))))), (12, .int (nI (sz (aCk (zA Z) w) (aO (zA Z) w) p1))), (11, .int (nI (sz (aCk (zA Z) w) (aO (zA Z) w) p1))), (0, .ref b0), (1, .int (nI (ofa (zA Z) 1 w))), (2, .int (nI (ofa (zA Z) 2 w))), (3, .int (mdS (zA Z) w)), (4, .int (nI 1)), (5, .int (nI w)), (6, .int (nI (aCk (zA Z) w))), (9, .int (nI (cdp (aCk (zA Z) w) (aO (zA Z) w) p1))), (10, .int (nI p1))]) C dL_holds_155 (by decide) rfl ?_
                      refine r_bipush (v := nI 10) C dL_holds_157 (by decide) ?_
                      refine r_iload C dL_holds_159 11 rfl ?_
                      refine r_imulN C dL_holds_161 ?_
                      refine r_iload C dL_holds_162 2 rfl ?_
                      refine r_iaddN C dL_holds_164 ?_
                      refine r_istore (lv2 := [(9, .int (nI ((10 * (cdp (aCk (zA Z) w) (aO (zA Z) w) p1)) + (sz (aCk (zA Z) w) (aO (zA Z) w) p1)))), (8, .int (nI ((sdp (aSd (zA Z) w) p1) ||| 0))), (7, .int (nI ((usd (aCk (zA Z) w) (aO (zA Z) w) p1) ||| (1 * 2 ^ (sz (aCk (zA Z) w) (aO (zA Z) w) p1))))), (12, .int (nI (sz (aCk (zA Z) w) (aO (zA Z) w) p1))), (11, .int (nI (sz (aCk (zA Z) w) (aO (zA Z) w) p1))), (0, .ref b0), (1, .int (nI (ofa (zA Z) 1 w))), (2, .int (nI (ofa (zA Z) 2 w))), (3, .int (mdS (zA Z) w)), (4, .int (nI 1)), (5, .int (nI w)), (6, .int (nI (aCk (zA Z) w))), (10, .int (nI p1))]) C dL_holds_165 (by decide) rfl ?_
                      refine r_iinc (v := nI (p1 + 1)) (lv2 := [(10, .int (nI (p1 + 1))), (9, .int (nI ((10 * (cdp (aCk (zA Z) w) (aO (zA Z) w) p1)) + (sz (aCk (zA Z) w) (aO (zA Z) w) p1)))), (8, .int (nI ((sdp (aSd (zA Z) w) p1) ||| 0))), (7, .int (nI ((usd (aCk (zA Z) w) (aO (zA Z) w) p1) ||| (1 * 2 ^ (sz (aCk (zA Z) w) (aO (zA Z) w) p1))))), (12, .int (nI (sz (aCk (zA Z) w) (aO (zA Z) w) p1))), (11, .int (nI (sz (aCk (zA Z) w) (aO (zA Z) w) p1))), (0, .ref b0), (1, .int (nI (ofa (zA Z) 1 w))), (2, .int (nI (ofa (zA Z) 2 w))), (3, .int (mdS (zA Z) w)), (4, .int (nI 1)), (5, .int (nI w)), (6, .int (nI (aCk (zA Z) w)))]) C dL_holds_167 (k := 12) rfl (nI_add _ 1) (by decide) rfl ?_
                      refine r_goto (tgt := 96) C dL_holds_170 (by decide) ?_
                      refine V.sub (lv2 := [(0, .ref b0), (1, .int (nI (ofa (zA Z) 1 w))), (2, .int (nI (ofa (zA Z) 2 w))), (3, .int (mdS (zA Z) w)), (4, .int (nI 1)), (5, .int (nI w)), (6, .int (nI (aCk (zA Z) w))), (7, .int (nI ((usd (aCk (zA Z) w) (aO (zA Z) w) p1) ||| (1 * 2 ^ (sz (aCk (zA Z) w) (aO (zA Z) w) p1))))), (8, .int (nI ((sdp (aSd (zA Z) w) p1) ||| 0))), (9, .int (nI ((10 * (cdp (aCk (zA Z) w) (aO (zA Z) w) p1)) + (sz (aCk (zA Z) w) (aO (zA Z) w) p1)))), (10, .int (nI (p1 + 1)))]) [6, 7, 8, 9, 10, 11, 12, 3, 2, 1, 0] rfl ?_
                      refine V.eq (σ2 := σ) (lv2 := [(0, .ref b0), (1, .int (nI (ofa (zA Z) 1 w))), (2, .int (nI (ofa (zA Z) 2 w))), (3, .int (mdS (zA Z) w)), (4, .int (nI 1)), (5, .int (nI w)), (6, .int (nI (aCk (zA Z) w))), (7, .int (nI (usd (aCk (zA Z) w) (aO (zA Z) w) (p1 + 1)))), (8, .int (nI (sdp (aSd (zA Z) w) (p1 + 1)))), (9, .int (nI (cdp (aCk (zA Z) w) (aO (zA Z) w) (p1 + 1)))), (10, .int (nI (p1 + 1)))]) (st2 := []) rfl rfl (by rw [(show nI ((usd (aCk (zA Z) w) (aO (zA Z) w) p1) ||| (1 * 2 ^ (sz (aCk (zA Z) w) (aO (zA Z) w) p1))) = nI (usd (aCk (zA Z) w) (aO (zA Z) w) (p1 + 1)) from rfl), (show nI ((sdp (aSd (zA Z) w) p1) ||| 0) = nI (sdp (aSd (zA Z) w) (p1 + 1)) from by first | (rw [sdp, hb]; done) | (rw [sdp, hb, Nat.zero_mul]; done)), (show nI ((10 * (cdp (aCk (zA Z) w) (aO (zA Z) w) p1)) + (sz (aCk (zA Z) w) (aO (zA Z) w) p1)) = nI (cdp (aCk (zA Z) w) (aO (zA Z) w) (p1 + 1)) from rfl)]) rfl ?_
                      exact ih96 (p1 + 1) (by omega) (by omega)
            refine V.sub (lv2 := [(0, .ref b0), (1, .int (nI (ofa (zA Z) 1 w))), (2, .int (nI (ofa (zA Z) 2 w))), (3, .int (mdS (zA Z) w)), (4, .int (nI 1)), (5, .int (nI w)), (6, .int (nI (aCk (zA Z) w))), (7, .int (nI 0)), (8, .int (nI 0)), (9, .int (nI 0)), (10, .int (nI 0))]) [5, 6, 7, 8, 9, 10, 4, 3, 2, 1, 0] rfl ?_
            refine V.eq (σ2 := σ) (lv2 := [(0, .ref b0), (1, .int (nI (ofa (zA Z) 1 w))), (2, .int (nI (ofa (zA Z) 2 w))), (3, .int (mdS (zA Z) w)), (4, .int (nI 1)), (5, .int (nI w)), (6, .int (nI (aCk (zA Z) w))), (7, .int (nI (usd (aCk (zA Z) w) (aO (zA Z) w) 0))), (8, .int (nI (sdp (aSd (zA Z) w) 0))), (9, .int (nI (cdp (aCk (zA Z) w) (aO (zA Z) w) 0))), (10, .int (nI 0))]) (st2 := []) rfl rfl rfl rfl ?_
            exact L96 _ 0 (by omega) (Nat.lt_succ_self _)
      refine V.sub (lv2 := [(0, .ref b0), (1, .int (nI 0)), (2, .int (nI 0)), (3, .int (nI 0)), (4, .int (nI 1)), (5, .int (nI 0))]) [5, 4, 3, 2, 1, 0] rfl ?_
      refine V.eq (σ2 := σ) (lv2 := [(0, .ref b0), (1, .int (nI (ofa (zA Z) 1 0))), (2, .int (nI (ofa (zA Z) 2 0))), (3, .int (mdS (zA Z) 0)), (4, .int (nI 1)), (5, .int (nI 0))]) (st2 := []) rfl rfl rfl rfl ?_
      exact L60 _ 0 (by omega) (Nat.lt_succ_self _)
