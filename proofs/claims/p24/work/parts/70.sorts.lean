abbrev rm_L_sorts : Room := { frames := 41, cells := 21, slots := 53802, locals := 4026 }
set_option maxRecDepth 100000 in
set_option maxHeartbeats 4000000 in
theorem c_L_sorts {l : Launch} {G : gG} {n : Nat} {σ : gS} {b0 : Nat} {Z : ZT} {k : Nat}  (hZ : ZOK Z) (hS : SUMI (zA Z)) (hk : k < aN (zA Z)) (hW : WX G b0 n σ Z 13) : GM l G yL_sorts cL_sorts 6 (some .boolean) rm_L_sorts n σ [.ref b0, .int (nI k)] (fun rv n2 σ2 => ∃ (n9 : Nat) (σ9 : gS) (Z9 : ZT), some (.int (nI 1)) = rv ∧ n9 = n2 ∧ σ9 = σ2 ∧ (ZOK Z9) ∧ (SUMI (zA Z9)) ∧ (SHP (zA Z) (zA Z9)) ∧ (WX G b0 n9 σ9 Z9 13)) := by
  refine GM.intro (by decide +kernel) (Nat.le_of_ble_eq_true rfl) (fun p e s m args below meth c C hr hlocks hname po hpo => ?_)
  have C : Cx p s m args c cL_sorts 6 RL G := C
  obtain ⟨hA, -, -, -, -⟩ := id hZ
  have hN5 := hA.1
  obtain ⟨fo, hob⟩ := hW.obj
  have hv := hA.2.2 k hk
  have hN6 := hv.1.N
  have hgp := gpA_le (zA Z) k
  have hkd4 := hv.1.1
  have hrq : rkA (zA Z) k < rR (sid (aKd (zA Z) k)) (aCk (zA Z) k) := rk_at hA hk rfl rfl
  have hR := rR_le hv.1
  rcases Nat.lt_or_ge 9 (dsA (zA Z) k) with hds | hds
  · have hg0 : 0 < gpA (zA Z) k := Nat.pos_of_ne_zero (fun z => by have h1 := gp0_rk hA hk z; rw [dsA, h1, ds_0 hv.1] at hds; omega)
    refine r_aload_n C dL_sorts_0 rfl 0 rfl ?_
    refine r_iload_n C dL_sorts_1 rfl 1 rfl ?_
    refine r_iconst (v := nI 0) C dL_sorts_2 (by decide) ?_
    refine r_callV (As := [.int (nI k), .int (nI 0)]) C (c_X6_fewest_pf (b0 := b0) (Z := Z) (k := k)  (by first | assumption | omega) (by first | assumption | omega) (hds) (by first | assumption | omega)) wM_L_33 wI_X6_fewest wN_X6 wC_X6_fewest wV_X6_fewest hd_X6_fewest ⟨Nat.le_of_ble_eq_true rfl, Nat.le_of_ble_eq_true rfl⟩ rfl hob rfl rfl (Nat.le_of_ble_eq_true rfl) dL_sorts_3 ⟨(Nat.le_of_ble_eq_true rfl), (Nat.le_of_ble_eq_true rfl)⟩ (fun rv n2 σ2 hp => ?_)
    obtain ⟨nw0, σw0, rfl, rfl, rfl, hWw0⟩ := hp
    refine V.eq (σ2 := σw0) (n2 := nw0) (st2 := [.int (-1000004)]) rfl rfl rfl rfl ?_
    obtain ⟨fo0, hob0⟩ := hWw0.obj
    refine r_istore_n (lv2 := [(2, .int (-1000004)), (0, .ref b0), (1, .int (nI k))]) C dL_sorts_6 rfl (by decide) rfl ?_
    refine r_aload_n C dL_sorts_7 rfl 1 rfl ?_
    refine r_iload_n C dL_sorts_8 rfl 2 rfl ?_
    refine r_iconst (v := nI 5) C dL_sorts_9 (by decide) ?_
    refine r_callV (As := [.int (nI k), .int (nI 5)]) C (c_X6_stackOf_p5 (b0 := b0) (Z := Z) (k := k)  (by first | assumption | omega) (by first | assumption | omega) (by first | assumption | omega)) wM_L_15 wI_X6_stackOf wN_X6 wC_X6_stackOf wV_X6_stackOf hd_X6_stackOf ⟨Nat.le_of_ble_eq_true rfl, Nat.le_of_ble_eq_true rfl⟩ rfl hob0 rfl rfl (Nat.le_of_ble_eq_true rfl) dL_sorts_10 ⟨(Nat.le_of_ble_eq_true rfl), (Nat.le_of_ble_eq_true rfl)⟩ (fun rv n2 σ2 hp => ?_)
    obtain ⟨rfl, rfl, rfl⟩ := hp
    refine V.eq (σ2 := σw0) (n2 := nw0) (st2 := [.int (nI (gpA (zA Z) k))]) rfl rfl rfl rfl ?_
    refine r_istore_n (lv2 := [(3, .int (nI (gpA (zA Z) k))), (2, .int (-1000004)), (0, .ref b0), (1, .int (nI k))]) C dL_sorts_13 rfl (by decide) rfl ?_
    refine r_iload_n C dL_sorts_14 rfl 1 rfl ?_
    refine r_if_ge (tgt := 44) C dL_sorts_15 (by decide) (fun c15 => ?_) (fun c15 => ?_)
    · exact absurd c15 (by decide)
    · refine r_iload_n C dL_sorts_18 rfl 1 rfl ?_
      refine r_ldc C wQ_L_36 dL_sorts_19 ?_
      refine r_icmp_ne (tgt := 42) C dL_sorts_21 (by decide) (fun c21 => ?_) (fun c21 => ?_)
      · exact absurd rfl c21
      · refine r_aload_n C dL_sorts_24 rfl 2 rfl ?_
        refine r_iload_n C dL_sorts_25 rfl 3 rfl ?_
        refine r_iconst (v := nI 0) C dL_sorts_26 (by decide) ?_
        refine r_callV (As := [.int (nI k), .int (nI 0)]) C (c_X6_stackOf_p0 (b0 := b0) (Z := Z) (k := k)  (by first | assumption | omega) (by first | assumption | omega) (by first | assumption | omega)) wM_L_15 wI_X6_stackOf wN_X6 wC_X6_stackOf wV_X6_stackOf hd_X6_stackOf ⟨Nat.le_of_ble_eq_true rfl, Nat.le_of_ble_eq_true rfl⟩ rfl hob0 rfl rfl (Nat.le_of_ble_eq_true rfl) dL_sorts_27 ⟨(Nat.le_of_ble_eq_true rfl), (Nat.le_of_ble_eq_true rfl)⟩ (fun rv n2 σ2 hp => ?_)
        obtain ⟨rfl, rfl, rfl⟩ := hp
        refine V.eq (σ2 := σw0) (n2 := nw0) (st2 := [.int (nI (aKd (zA Z) k))]) rfl rfl rfl rfl ?_
        refine r_iconst (v := nI 1) C dL_sorts_30 (by decide) ?_
        refine r_icmp_gtN (tgt := 38) C dL_sorts_31 (by decide) (by omega) (by decide) (fun c31 => ?_) (fun c31 => ?_)
        · refine r_iconst (v := nI 1) C dL_sorts_38 (by decide) ?_
          refine r_goto (tgt := 43) C dL_sorts_39 (by decide) ?_
          exact r_zret C (by decide) hr hlocks (Nat.le_of_ble_eq_true rfl) (Nat.le_of_ble_eq_true rfl) dL_sorts_43 (hpo _ _ _ ⟨nw0, σw0, Z, rfl, rfl, rfl, hZ, hS, SHP.rf _, hWw0⟩)
        · refine r_iload_n C dL_sorts_34 rfl 0 rfl ?_
          refine r_if_leN (tgt := 42) C dL_sorts_35 (by decide) (by omega) (fun c35 => ?_) (fun c35 => ?_)
          · exact absurd c35 (by omega)
          · refine r_iconst (v := nI 1) C dL_sorts_38 (by decide) ?_
            refine r_goto (tgt := 43) C dL_sorts_39 (by decide) ?_
            exact r_zret C (by decide) hr hlocks (Nat.le_of_ble_eq_true rfl) (Nat.le_of_ble_eq_true rfl) dL_sorts_43 (hpo _ _ _ ⟨nw0, σw0, Z, rfl, rfl, rfl, hZ, hS, SHP.rf _, hWw0⟩)
  · have hdn : dsA (zA Z) k ≠ 1000000 := by omega
    have hgd : gpA (zA Z) k ≤ dsA (zA Z) k := by have h1 := ds_gap hv.1 hrq hdn; rw [gpR_A hA hk] at h1; exact h1
    have hwk : dwA (zA Z) k < 1000000 ∧ dsA (zA Z) k ≤ dwA (zA Z) k := ds_work hv.1 hrq hdn
    have hwy : 0 < wy (aKd (zA Z) k) (aSr (zA Z) k) (aCk (zA Z) k) (dsA (zA Z) k) (rkA (zA Z) k) := ds_wy hv.1 hrq hdn
    have hof : 0 < ofd (dst false (aKd (zA Z) k) (aSr (zA Z) k) (aCk (zA Z) k)) (dsA (zA Z) k) (rR (sid (aKd (zA Z) k)) (aCk (zA Z) k)) := ofd_pos hrq rfl
    have hofl := ofd_le (dd := dst false (aKd (zA Z) k) (aSr (zA Z) k) (aCk (zA Z) k)) (w := dsA (zA Z) k) (rR (sid (aKd (zA Z) k)) (aCk (zA Z) k))
    refine r_aload_n C dL_sorts_0 rfl 0 rfl ?_
    refine r_iload_n C dL_sorts_1 rfl 1 rfl ?_
    refine r_iconst (v := nI 0) C dL_sorts_2 (by decide) ?_
    refine r_callV (As := [.int (nI k), .int (nI 0)]) C (c_X6_fewest_pc (b0 := b0) (Z := Z) (k := k)  (by first | assumption | omega) (by first | assumption | omega) (hds) (by first | assumption | omega)) wM_L_33 wI_X6_fewest wN_X6 wC_X6_fewest wV_X6_fewest hd_X6_fewest ⟨Nat.le_of_ble_eq_true rfl, Nat.le_of_ble_eq_true rfl⟩ rfl hob rfl rfl (Nat.le_of_ble_eq_true rfl) dL_sorts_3 ⟨(Nat.le_of_ble_eq_true rfl), (Nat.le_of_ble_eq_true rfl)⟩ (fun rv n2 σ2 hp => ?_)
    obtain ⟨nw0, σw0, rfl, rfl, rfl, hWw0⟩ := hp
    refine V.eq (σ2 := σw0) (n2 := nw0) (st2 := [.int (nI (dsA (zA Z) k))]) rfl rfl rfl rfl ?_
    obtain ⟨fo0, hob0⟩ := hWw0.obj
    refine r_istore_n (lv2 := [(2, .int (nI (dsA (zA Z) k))), (0, .ref b0), (1, .int (nI k))]) C dL_sorts_6 rfl (by decide) rfl ?_
    refine r_aload_n C dL_sorts_7 rfl 1 rfl ?_
    refine r_iload_n C dL_sorts_8 rfl 2 rfl ?_
    refine r_iconst (v := nI 5) C dL_sorts_9 (by decide) ?_
    refine r_callV (As := [.int (nI k), .int (nI 5)]) C (c_X6_stackOf_p5 (b0 := b0) (Z := Z) (k := k)  (by first | assumption | omega) (by first | assumption | omega) (by first | assumption | omega)) wM_L_15 wI_X6_stackOf wN_X6 wC_X6_stackOf wV_X6_stackOf hd_X6_stackOf ⟨Nat.le_of_ble_eq_true rfl, Nat.le_of_ble_eq_true rfl⟩ rfl hob0 rfl rfl (Nat.le_of_ble_eq_true rfl) dL_sorts_10 ⟨(Nat.le_of_ble_eq_true rfl), (Nat.le_of_ble_eq_true rfl)⟩ (fun rv n2 σ2 hp => ?_)
    obtain ⟨rfl, rfl, rfl⟩ := hp
    refine V.eq (σ2 := σw0) (n2 := nw0) (st2 := [.int (nI (gpA (zA Z) k))]) rfl rfl rfl rfl ?_
    refine r_istore_n (lv2 := [(3, .int (nI (gpA (zA Z) k))), (2, .int (nI (dsA (zA Z) k))), (0, .ref b0), (1, .int (nI k))]) C dL_sorts_13 rfl (by decide) rfl ?_
    refine r_iload_n C dL_sorts_14 rfl 1 rfl ?_
    refine r_if_geN (tgt := 44) C dL_sorts_15 (by decide) (by omega) ?_
    refine r_aload_n C dL_sorts_44 rfl 2 rfl ?_
    refine r_iload_n C dL_sorts_45 rfl 3 rfl ?_
    refine r_callV (As := [.int (nI k)]) C (c_X6_leastWork_p (b0 := b0) (Z := Z) (k := k)  (by first | assumption | omega) (by first | assumption | omega) (by first | assumption | omega)) wM_L_37 wI_X6_leastWork wN_X6 wC_X6_leastWork wV_X6_leastWork hd_X6_leastWork ⟨Nat.le_of_ble_eq_true rfl, Nat.le_of_ble_eq_true rfl⟩ rfl hob0 rfl rfl (Nat.le_of_ble_eq_true rfl) dL_sorts_46 ⟨(Nat.le_of_ble_eq_true rfl), (Nat.le_of_ble_eq_true rfl)⟩ (fun rv n2 σ2 hp => ?_)
    obtain ⟨nw4, σw4, rfl, rfl, rfl, hWw4⟩ := hp
    refine V.eq (σ2 := σw4) (n2 := nw4) (st2 := [.int (lwA (dwA (zA Z) k))]) rfl rfl rfl rfl ?_
    obtain ⟨fo4, hob4⟩ := hWw4.obj
    refine V.top (y := nI (dwA (zA Z) k)) (by rw [lwA, if_pos hwk.1]) ?_
    refine r_istore (lv2 := [(4, .int (nI (dwA (zA Z) k))), (3, .int (nI (gpA (zA Z) k))), (2, .int (nI (dsA (zA Z) k))), (0, .ref b0), (1, .int (nI k))]) C dL_sorts_49 (by decide) rfl ?_
    refine r_iload_n C dL_sorts_51 rfl 2 rfl ?_
    refine r_iload_n C dL_sorts_52 rfl 1 rfl ?_
    refine r_icmp_ltN (tgt := 119) C dL_sorts_53 (by decide) (by omega) (by omega) (fun c53 => ?_) (fun c53 => ?_)
    · exact absurd c53 (by omega)
    · refine r_iload C dL_sorts_56 0 rfl ?_
      refine r_iload_n C dL_sorts_58 rfl 2 rfl ?_
      refine r_icmp_ltN (tgt := 119) C dL_sorts_59 (by decide) (by omega) (by omega) (fun c59 => ?_) (fun c59 => ?_)
      · exact absurd c59 (by omega)
      · refine r_iload_n C dL_sorts_62 rfl 2 rfl ?_
        refine r_iconst (v := nI 5) C dL_sorts_63 (by decide) ?_
        refine r_icmp_gtN (tgt := 76) C dL_sorts_64 (by decide) (by omega) (by decide) (fun c64 => ?_) (fun c64 => ?_)
        · refine r_iload_n C dL_sorts_76 rfl 2 rfl ?_
          refine r_if_eqN (tgt := 106) C dL_sorts_77 (by decide) (by omega) (fun c77 => ?_) (fun c77 => ?_)
          · refine r_aload_n C dL_sorts_106 rfl 3 rfl ?_
            refine r_iload_n C dL_sorts_107 rfl 4 rfl ?_
            refine r_iload_n C dL_sorts_108 rfl 2 rfl ?_
            refine r_callV (As := [.int (nI k), .int (nI (dsA (zA Z) k))]) C (c_X6_ofDistance_p (b0 := b0) (Z := Z) (k := k) (w := dsA (zA Z) k)  (by first | assumption | omega) (by first | assumption | omega) (by first | assumption | omega) (by first | assumption | omega)) wM_L_43 wI_X6_ofDistance wN_X6 wC_X6_ofDistance wV_X6_ofDistance hd_X6_ofDistance ⟨Nat.le_of_ble_eq_true rfl, Nat.le_of_ble_eq_true rfl⟩ rfl hob4 rfl rfl (Nat.le_of_ble_eq_true rfl) dL_sorts_109 ⟨(Nat.le_of_ble_eq_true rfl), (Nat.le_of_ble_eq_true rfl)⟩ (fun rv n2 σ2 hp => ?_)
            obtain ⟨nw7, σw7, rfl, rfl, rfl, hWw7⟩ := hp
            refine V.eq (σ2 := σw7) (n2 := nw7) (st2 := [.int (nI (ofd (dst false (aKd (zA Z) k) (aSr (zA Z) k) (aCk (zA Z) k)) (dsA (zA Z) k) (rR (sid (aKd (zA Z) k)) (aCk (zA Z) k))))]) rfl rfl rfl rfl ?_
            obtain ⟨fo7, hob7⟩ := hWw7.obj
            refine r_if_leN (tgt := 119) C dL_sorts_112 (by decide) (by omega) (fun c112 => ?_) (fun c112 => ?_)
            · exact absurd c112 (by omega)
            · refine r_iconst (v := nI 1) C dL_sorts_115 (by decide) ?_
              refine r_goto (tgt := 120) C dL_sorts_116 (by decide) ?_
              refine r_istore (lv2 := [(5, .int (nI 1)), (4, .int (nI (dwA (zA Z) k))), (3, .int (nI (gpA (zA Z) k))), (2, .int (nI (dsA (zA Z) k))), (0, .ref b0), (1, .int (nI k))]) C dL_sorts_120 (by decide) rfl ?_
              refine r_iload C dL_sorts_122 0 rfl ?_
              refine r_if_eqN (tgt := 184) C dL_sorts_124 (by decide) (by decide) (fun z => absurd z (by decide)) (fun _ => ?_)
              refine r_iload_n C dL_sorts_127 rfl 3 rfl ?_
              refine r_if_leN (tgt := 184) C dL_sorts_128 (by decide) (by omega) (fun c128 => ?_) (fun c128 => ?_)
              · refine r_iload C dL_sorts_184 0 rfl ?_
                exact r_zret C (by decide) hr hlocks (Nat.le_of_ble_eq_true rfl) (Nat.le_of_ble_eq_true rfl) dL_sorts_186 (hpo _ _ _ ⟨nw7, σw7, Z, rfl, rfl, rfl, hZ, hS, SHP.rf _, hWw7⟩)
              · refine r_iload_n C dL_sorts_131 rfl 3 rfl ?_
                refine r_bipush (v := nI 9) C dL_sorts_132 (by decide) ?_
                refine r_icmp_geN (tgt := 184) C dL_sorts_134 (by decide) (by omega) (by decide) (fun c134 => ?_) (fun c134 => ?_)
                · refine r_iload C dL_sorts_184 0 rfl ?_
                  exact r_zret C (by decide) hr hlocks (Nat.le_of_ble_eq_true rfl) (Nat.le_of_ble_eq_true rfl) dL_sorts_186 (hpo _ _ _ ⟨nw7, σw7, Z, rfl, rfl, rfl, hZ, hS, SHP.rf _, hWw7⟩)
                · refine r_iload_n C dL_sorts_137 rfl 3 rfl ?_
                  refine r_iconst (v := nI 2) C dL_sorts_138 (by decide) ?_
                  refine r_iremN C dL_sorts_139 (by omega) (by decide) (by decide) ?_
                  refine r_if_neN (tgt := 184) C dL_sorts_140 (by decide) (by omega) (fun c140 => ?_) (fun c140 => ?_)
                  · refine r_iload C dL_sorts_184 0 rfl ?_
                    exact r_zret C (by decide) hr hlocks (Nat.le_of_ble_eq_true rfl) (Nat.le_of_ble_eq_true rfl) dL_sorts_186 (hpo _ _ _ ⟨nw7, σw7, Z, rfl, rfl, rfl, hZ, hS, SHP.rf _, hWw7⟩)
                  · obtain ⟨hfr, hfd, a2, htot, hr2⟩ := fwA_ok hA hk (by omega) (by omega)
                    refine r_aload_n C dL_sorts_143 rfl 4 rfl ?_
                    refine r_iload_n C dL_sorts_144 rfl 5 rfl ?_
                    refine r_aload_n C dL_sorts_145 rfl 4 rfl ?_
                    refine r_iload_n C dL_sorts_146 rfl 5 rfl ?_
                    refine r_iconst (v := nI 1) C dL_sorts_147 (by decide) ?_
                    refine r_callV (As := [.int (nI k), .int (nI 1)]) C (c_X6_fewest_pw (b0 := b0) (Z := Z) (k := k)  (by first | assumption | omega) (by first | assumption | omega) (hds) (by first | assumption | omega)) wM_L_33 wI_X6_fewest wN_X6 wC_X6_fewest wV_X6_fewest hd_X6_fewest ⟨Nat.le_of_ble_eq_true rfl, Nat.le_of_ble_eq_true rfl⟩ rfl hob7 rfl rfl (Nat.le_of_ble_eq_true rfl) dL_sorts_148 ⟨(Nat.le_of_ble_eq_true rfl), (Nat.le_of_ble_eq_true rfl)⟩ (fun rv n2 σ2 hp => ?_)
                    obtain ⟨nw8, σw8, rfl, rfl, rfl, hWw8⟩ := hp
                    refine V.eq (σ2 := σw8) (n2 := nw8) (st2 := [.int (nI (fwA (zA Z) k)), .int (nI k), .ref b0]) rfl rfl rfl rfl ?_
                    obtain ⟨fo8, hob8⟩ := hWw8.obj
                    refine r_callV (As := [.int (nI k), .int (nI (fwA (zA Z) k))]) C (c_X6_doRow_py (b0 := b0) (Z := Z) (k := k) (row := fwA (zA Z) k) (D := dsA (zA Z) k) (a2 := a2)  (by first | assumption | omega) (by first | assumption | omega) (hfr) (hfd) (htot) (by first | assumption | omega)) wM_L_46 wI_X6_doRow wN_X6 wC_X6_doRow wV_X6_doRow hd_X6_doRow ⟨Nat.le_of_ble_eq_true rfl, Nat.le_of_ble_eq_true rfl⟩ rfl hob8 rfl rfl (Nat.le_of_ble_eq_true rfl) dL_sorts_151 ⟨(Nat.le_of_ble_eq_true rfl), (Nat.le_of_ble_eq_true rfl)⟩ (fun rv n2 σ2 hp => ?_)
                    obtain ⟨nw1, σw1, rfl, rfl, rfl, hWw1⟩ := hp
                    refine V.eq (σ2 := σw1) (n2 := nw1) (st2 := [.int (nI (gpA a2 k))]) rfl rfl rfl rfl ?_
                    obtain ⟨Z1, hZe1⟩ : ∃ z, z = zP Z a2 := ⟨_, rfl⟩
                    rw [← hZe1] at hWw1
                    have hz1 : zA Z1 = a2 := by rw [hZe1]; rfl
                    have hA2 := rwA_ok hA hk htot
                    have hZ1 : ZOK Z1 := by rw [hZe1]; exact zP_ok hZ hA2
                    have hA1 := hZ1.1
                    have hsh := rwA_sh htot
                    have hk1 : k < aN (zA Z1) := by rw [hz1, hsh.1]; exact hk
                    have hS1 : SUMI (zA Z1) := by rw [hz1]; exact SUMI.rw hA hS hk htot
                    have hP1 : SHP (zA Z) (zA Z1) := by rw [hz1]; exact hsh
                    have hr1 : rkA (zA Z1) k = 0 := by rw [hz1]; exact hr2
                    have ho1 := rk_z hA1 hk1 hr1
                    have hs1 := sr_0 hA1 hk1 ho1.1 ho1.2
                    have hg2 : gpA a2 k = 0 := by rw [← hz1]; exact hs1.2.1
                    have hd1 : dsA (zA Z1) k = 0 := by rw [dsA, hr1]; exact ds_0 (hA1.2.2 k hk1).1
                    obtain ⟨fo1, hob1⟩ := hWw1.obj
                    refine r_if_neN (tgt := 181) C dL_sorts_154 (by decide) (by omega) (fun c154 => ?_) (fun c154 => ?_)
                    · exact absurd c154 (by omega)
                    · refine r_aload_n C dL_sorts_157 rfl 4 rfl ?_
                      refine r_iload_n C dL_sorts_158 rfl 5 rfl ?_
                      refine r_bipush (v := nI 6) C dL_sorts_159 (by decide) ?_
                      refine r_callV (As := [.int (nI k), .int (nI 6)]) C (c_X6_stackOf_p6 (b0 := b0) (Z := Z1) (k := k)  (by first | assumption | omega) (by first | assumption | omega) (by first | assumption | omega)) wM_L_15 wI_X6_stackOf wN_X6 wC_X6_stackOf wV_X6_stackOf hd_X6_stackOf ⟨Nat.le_of_ble_eq_true rfl, Nat.le_of_ble_eq_true rfl⟩ rfl hob1 rfl rfl (Nat.le_of_ble_eq_true rfl) dL_sorts_161 ⟨(Nat.le_of_ble_eq_true rfl), (Nat.le_of_ble_eq_true rfl)⟩ (fun rv n2 σ2 hp => ?_)
                      obtain ⟨rfl, rfl, rfl⟩ := hp
                      refine V.eq (σ2 := σw1) (n2 := nw1) (st2 := [.int (bI (srA (zA Z1) k))]) rfl rfl rfl rfl ?_
                      refine V.top (y := nI 1) (by rw [hs1.1]; rfl) ?_
                      refine r_iconst (v := nI 1) C dL_sorts_164 (by decide) ?_
                      refine r_icmp_neN (tgt := 181) C dL_sorts_165 (by decide) (by decide) (by decide) (fun z => absurd z (by decide)) (fun _ => ?_)
                      refine r_aload_n C dL_sorts_168 rfl 4 rfl ?_
                      refine r_iload_n C dL_sorts_169 rfl 5 rfl ?_
                      refine r_iconst (v := nI 0) C dL_sorts_170 (by decide) ?_
                      refine r_callV (As := [.int (nI k), .int (nI 0)]) C (c_X6_fewest_pc (b0 := b0) (Z := Z1) (k := k)  (by first | assumption | omega) (by first | assumption | omega) (by first | assumption | omega) (by first | assumption | omega)) wM_L_33 wI_X6_fewest wN_X6 wC_X6_fewest wV_X6_fewest hd_X6_fewest ⟨Nat.le_of_ble_eq_true rfl, Nat.le_of_ble_eq_true rfl⟩ rfl hob1 rfl rfl (Nat.le_of_ble_eq_true rfl) dL_sorts_171 ⟨(Nat.le_of_ble_eq_true rfl), (Nat.le_of_ble_eq_true rfl)⟩ (fun rv n2 σ2 hp => ?_)
                      obtain ⟨nw9, σw9, rfl, rfl, rfl, hWw9⟩ := hp
                      refine V.eq (σ2 := σw9) (n2 := nw9) (st2 := [.int (nI (dsA (zA Z1) k))]) rfl rfl rfl rfl ?_
                      obtain ⟨fo9, hob9⟩ := hWw9.obj
                      refine r_if_neN (tgt := 181) C dL_sorts_174 (by decide) (by omega) (fun c174 => ?_) (fun c174 => ?_)
                      · exact absurd c174 (by omega)
                      · refine r_iconst (v := nI 1) C dL_sorts_177 (by decide) ?_
                        refine r_goto (tgt := 182) C dL_sorts_178 (by decide) ?_
                        refine r_istore (lv2 := [(5, .int (nI 1)), (4, .int (nI (dwA (zA Z) k))), (3, .int (nI (gpA (zA Z) k))), (2, .int (nI (dsA (zA Z) k))), (0, .ref b0), (1, .int (nI k))]) C dL_sorts_182 (by decide) rfl ?_
                        refine r_iload C dL_sorts_184 0 rfl ?_
                        exact r_zret C (by decide) hr hlocks (Nat.le_of_ble_eq_true rfl) (Nat.le_of_ble_eq_true rfl) dL_sorts_186 (hpo _ _ _ ⟨nw9, σw9, Z1, rfl, rfl, rfl, hZ1, hS1, hP1, hWw9⟩)
          · refine r_iload_n C dL_sorts_80 rfl 2 rfl ?_
            refine r_bipush (v := nI 6) C dL_sorts_81 (by decide) ?_
            refine r_icmp_gtN (tgt := 106) C dL_sorts_83 (by decide) (by omega) (by decide) (fun c83 => ?_) (fun c83 => ?_)
            · refine r_aload_n C dL_sorts_106 rfl 3 rfl ?_
              refine r_iload_n C dL_sorts_107 rfl 4 rfl ?_
              refine r_iload_n C dL_sorts_108 rfl 2 rfl ?_
              refine r_callV (As := [.int (nI k), .int (nI (dsA (zA Z) k))]) C (c_X6_ofDistance_p (b0 := b0) (Z := Z) (k := k) (w := dsA (zA Z) k)  (by first | assumption | omega) (by first | assumption | omega) (by first | assumption | omega) (by first | assumption | omega)) wM_L_43 wI_X6_ofDistance wN_X6 wC_X6_ofDistance wV_X6_ofDistance hd_X6_ofDistance ⟨Nat.le_of_ble_eq_true rfl, Nat.le_of_ble_eq_true rfl⟩ rfl hob4 rfl rfl (Nat.le_of_ble_eq_true rfl) dL_sorts_109 ⟨(Nat.le_of_ble_eq_true rfl), (Nat.le_of_ble_eq_true rfl)⟩ (fun rv n2 σ2 hp => ?_)
              obtain ⟨nw7, σw7, rfl, rfl, rfl, hWw7⟩ := hp
              refine V.eq (σ2 := σw7) (n2 := nw7) (st2 := [.int (nI (ofd (dst false (aKd (zA Z) k) (aSr (zA Z) k) (aCk (zA Z) k)) (dsA (zA Z) k) (rR (sid (aKd (zA Z) k)) (aCk (zA Z) k))))]) rfl rfl rfl rfl ?_
              obtain ⟨fo7, hob7⟩ := hWw7.obj
              refine r_if_leN (tgt := 119) C dL_sorts_112 (by decide) (by omega) (fun c112 => ?_) (fun c112 => ?_)
              · exact absurd c112 (by omega)
              · refine r_iconst (v := nI 1) C dL_sorts_115 (by decide) ?_
                refine r_goto (tgt := 120) C dL_sorts_116 (by decide) ?_
                refine r_istore (lv2 := [(5, .int (nI 1)), (4, .int (nI (dwA (zA Z) k))), (3, .int (nI (gpA (zA Z) k))), (2, .int (nI (dsA (zA Z) k))), (0, .ref b0), (1, .int (nI k))]) C dL_sorts_120 (by decide) rfl ?_
                refine r_iload C dL_sorts_122 0 rfl ?_
                refine r_if_eqN (tgt := 184) C dL_sorts_124 (by decide) (by decide) (fun z => absurd z (by decide)) (fun _ => ?_)
                refine r_iload_n C dL_sorts_127 rfl 3 rfl ?_
                refine r_if_leN (tgt := 184) C dL_sorts_128 (by decide) (by omega) (fun c128 => ?_) (fun c128 => ?_)
                · refine r_iload C dL_sorts_184 0 rfl ?_
                  exact r_zret C (by decide) hr hlocks (Nat.le_of_ble_eq_true rfl) (Nat.le_of_ble_eq_true rfl) dL_sorts_186 (hpo _ _ _ ⟨nw7, σw7, Z, rfl, rfl, rfl, hZ, hS, SHP.rf _, hWw7⟩)
                · refine r_iload_n C dL_sorts_131 rfl 3 rfl ?_
                  refine r_bipush (v := nI 9) C dL_sorts_132 (by decide) ?_
                  refine r_icmp_geN (tgt := 184) C dL_sorts_134 (by decide) (by omega) (by decide) (fun c134 => ?_) (fun c134 => ?_)
                  · refine r_iload C dL_sorts_184 0 rfl ?_
                    exact r_zret C (by decide) hr hlocks (Nat.le_of_ble_eq_true rfl) (Nat.le_of_ble_eq_true rfl) dL_sorts_186 (hpo _ _ _ ⟨nw7, σw7, Z, rfl, rfl, rfl, hZ, hS, SHP.rf _, hWw7⟩)
                  · refine r_iload_n C dL_sorts_137 rfl 3 rfl ?_
                    refine r_iconst (v := nI 2) C dL_sorts_138 (by decide) ?_
                    refine r_iremN C dL_sorts_139 (by omega) (by decide) (by decide) ?_
                    refine r_if_neN (tgt := 184) C dL_sorts_140 (by decide) (by omega) (fun c140 => ?_) (fun c140 => ?_)
                    · refine r_iload C dL_sorts_184 0 rfl ?_
                      exact r_zret C (by decide) hr hlocks (Nat.le_of_ble_eq_true rfl) (Nat.le_of_ble_eq_true rfl) dL_sorts_186 (hpo _ _ _ ⟨nw7, σw7, Z, rfl, rfl, rfl, hZ, hS, SHP.rf _, hWw7⟩)
                    · obtain ⟨hfr, hfd, a2, htot, hr2⟩ := fwA_ok hA hk (by omega) (by omega)
                      refine r_aload_n C dL_sorts_143 rfl 4 rfl ?_
                      refine r_iload_n C dL_sorts_144 rfl 5 rfl ?_
                      refine r_aload_n C dL_sorts_145 rfl 4 rfl ?_
                      refine r_iload_n C dL_sorts_146 rfl 5 rfl ?_
                      refine r_iconst (v := nI 1) C dL_sorts_147 (by decide) ?_
                      refine r_callV (As := [.int (nI k), .int (nI 1)]) C (c_X6_fewest_pw (b0 := b0) (Z := Z) (k := k)  (by first | assumption | omega) (by first | assumption | omega) (hds) (by first | assumption | omega)) wM_L_33 wI_X6_fewest wN_X6 wC_X6_fewest wV_X6_fewest hd_X6_fewest ⟨Nat.le_of_ble_eq_true rfl, Nat.le_of_ble_eq_true rfl⟩ rfl hob7 rfl rfl (Nat.le_of_ble_eq_true rfl) dL_sorts_148 ⟨(Nat.le_of_ble_eq_true rfl), (Nat.le_of_ble_eq_true rfl)⟩ (fun rv n2 σ2 hp => ?_)
                      obtain ⟨nw8, σw8, rfl, rfl, rfl, hWw8⟩ := hp
                      refine V.eq (σ2 := σw8) (n2 := nw8) (st2 := [.int (nI (fwA (zA Z) k)), .int (nI k), .ref b0]) rfl rfl rfl rfl ?_
                      obtain ⟨fo8, hob8⟩ := hWw8.obj
                      refine r_callV (As := [.int (nI k), .int (nI (fwA (zA Z) k))]) C (c_X6_doRow_py (b0 := b0) (Z := Z) (k := k) (row := fwA (zA Z) k) (D := dsA (zA Z) k) (a2 := a2)  (by first | assumption | omega) (by first | assumption | omega) (hfr) (hfd) (htot) (by first | assumption | omega)) wM_L_46 wI_X6_doRow wN_X6 wC_X6_doRow wV_X6_doRow hd_X6_doRow ⟨Nat.le_of_ble_eq_true rfl, Nat.le_of_ble_eq_true rfl⟩ rfl hob8 rfl rfl (Nat.le_of_ble_eq_true rfl) dL_sorts_151 ⟨(Nat.le_of_ble_eq_true rfl), (Nat.le_of_ble_eq_true rfl)⟩ (fun rv n2 σ2 hp => ?_)
                      obtain ⟨nw1, σw1, rfl, rfl, rfl, hWw1⟩ := hp
                      refine V.eq (σ2 := σw1) (n2 := nw1) (st2 := [.int (nI (gpA a2 k))]) rfl rfl rfl rfl ?_
                      obtain ⟨Z1, hZe1⟩ : ∃ z, z = zP Z a2 := ⟨_, rfl⟩
                      rw [← hZe1] at hWw1
                      have hz1 : zA Z1 = a2 := by rw [hZe1]; rfl
                      have hA2 := rwA_ok hA hk htot
                      have hZ1 : ZOK Z1 := by rw [hZe1]; exact zP_ok hZ hA2
                      have hA1 := hZ1.1
                      have hsh := rwA_sh htot
                      have hk1 : k < aN (zA Z1) := by rw [hz1, hsh.1]; exact hk
                      have hS1 : SUMI (zA Z1) := by rw [hz1]; exact SUMI.rw hA hS hk htot
                      have hP1 : SHP (zA Z) (zA Z1) := by rw [hz1]; exact hsh
                      have hr1 : rkA (zA Z1) k = 0 := by rw [hz1]; exact hr2
                      have ho1 := rk_z hA1 hk1 hr1
                      have hs1 := sr_0 hA1 hk1 ho1.1 ho1.2
                      have hg2 : gpA a2 k = 0 := by rw [← hz1]; exact hs1.2.1
                      have hd1 : dsA (zA Z1) k = 0 := by rw [dsA, hr1]; exact ds_0 (hA1.2.2 k hk1).1
                      obtain ⟨fo1, hob1⟩ := hWw1.obj
                      refine r_if_neN (tgt := 181) C dL_sorts_154 (by decide) (by omega) (fun c154 => ?_) (fun c154 => ?_)
                      · exact absurd c154 (by omega)
                      · refine r_aload_n C dL_sorts_157 rfl 4 rfl ?_
                        refine r_iload_n C dL_sorts_158 rfl 5 rfl ?_
                        refine r_bipush (v := nI 6) C dL_sorts_159 (by decide) ?_
                        refine r_callV (As := [.int (nI k), .int (nI 6)]) C (c_X6_stackOf_p6 (b0 := b0) (Z := Z1) (k := k)  (by first | assumption | omega) (by first | assumption | omega) (by first | assumption | omega)) wM_L_15 wI_X6_stackOf wN_X6 wC_X6_stackOf wV_X6_stackOf hd_X6_stackOf ⟨Nat.le_of_ble_eq_true rfl, Nat.le_of_ble_eq_true rfl⟩ rfl hob1 rfl rfl (Nat.le_of_ble_eq_true rfl) dL_sorts_161 ⟨(Nat.le_of_ble_eq_true rfl), (Nat.le_of_ble_eq_true rfl)⟩ (fun rv n2 σ2 hp => ?_)
                        obtain ⟨rfl, rfl, rfl⟩ := hp
                        refine V.eq (σ2 := σw1) (n2 := nw1) (st2 := [.int (bI (srA (zA Z1) k))]) rfl rfl rfl rfl ?_
                        refine V.top (y := nI 1) (by rw [hs1.1]; rfl) ?_
                        refine r_iconst (v := nI 1) C dL_sorts_164 (by decide) ?_
                        refine r_icmp_neN (tgt := 181) C dL_sorts_165 (by decide) (by decide) (by decide) (fun z => absurd z (by decide)) (fun _ => ?_)
                        refine r_aload_n C dL_sorts_168 rfl 4 rfl ?_
                        refine r_iload_n C dL_sorts_169 rfl 5 rfl ?_
                        refine r_iconst (v := nI 0) C dL_sorts_170 (by decide) ?_
                        refine r_callV (As := [.int (nI k), .int (nI 0)]) C (c_X6_fewest_pc (b0 := b0) (Z := Z1) (k := k)  (by first | assumption | omega) (by first | assumption | omega) (by first | assumption | omega) (by first | assumption | omega)) wM_L_33 wI_X6_fewest wN_X6 wC_X6_fewest wV_X6_fewest hd_X6_fewest ⟨Nat.le_of_ble_eq_true rfl, Nat.le_of_ble_eq_true rfl⟩ rfl hob1 rfl rfl (Nat.le_of_ble_eq_true rfl) dL_sorts_171 ⟨(Nat.le_of_ble_eq_true rfl), (Nat.le_of_ble_eq_true rfl)⟩ (fun rv n2 σ2 hp => ?_)
                        obtain ⟨nw9, σw9, rfl, rfl, rfl, hWw9⟩ := hp
                        refine V.eq (σ2 := σw9) (n2 := nw9) (st2 := [.int (nI (dsA (zA Z1) k))]) rfl rfl rfl rfl ?_
                        obtain ⟨fo9, hob9⟩ := hWw9.obj
                        refine r_if_neN (tgt := 181) C dL_sorts_174 (by decide) (by omega) (fun c174 => ?_) (fun c174 => ?_)
                        · exact absurd c174 (by omega)
                        · refine r_iconst (v := nI 1) C dL_sorts_177 (by decide) ?_
                          refine r_goto (tgt := 182) C dL_sorts_178 (by decide) ?_
                          refine r_istore (lv2 := [(5, .int (nI 1)), (4, .int (nI (dwA (zA Z) k))), (3, .int (nI (gpA (zA Z) k))), (2, .int (nI (dsA (zA Z) k))), (0, .ref b0), (1, .int (nI k))]) C dL_sorts_182 (by decide) rfl ?_
                          refine r_iload C dL_sorts_184 0 rfl ?_
                          exact r_zret C (by decide) hr hlocks (Nat.le_of_ble_eq_true rfl) (Nat.le_of_ble_eq_true rfl) dL_sorts_186 (hpo _ _ _ ⟨nw9, σw9, Z1, rfl, rfl, rfl, hZ1, hS1, hP1, hWw9⟩)
            · refine r_aload_n C dL_sorts_86 rfl 3 rfl ?_
              refine r_iload_n C dL_sorts_87 rfl 4 rfl ?_
              refine r_iload_n C dL_sorts_88 rfl 2 rfl ?_
              refine r_iconst (v := nI 5) C dL_sorts_89 (by decide) ?_
              refine r_icmp_leN (tgt := 97) C dL_sorts_90 (by decide) (by omega) (by decide) (fun c90 => ?_) (fun c90 => ?_)
              · refine r_iload_n C dL_sorts_97 rfl 2 rfl ?_
                refine r_iconst (v := nI 1) C dL_sorts_98 (by decide) ?_
                refine r_isubN C dL_sorts_99 (by omega) ?_
                refine r_callV (As := [.int (nI k), .int (nI ((dsA (zA Z) k) - 1))]) C (c_X6_ways_p (b0 := b0) (Z := Z) (k := k) (t := (dsA (zA Z) k) - 1)  (by first | assumption | omega) (by first | assumption | omega) (by first | assumption | omega) (by first | assumption | omega)) wM_L_40 wI_X6_ways wN_X6 wC_X6_ways wV_X6_ways hd_X6_ways ⟨Nat.le_of_ble_eq_true rfl, Nat.le_of_ble_eq_true rfl⟩ rfl hob4 rfl rfl (Nat.le_of_ble_eq_true rfl) dL_sorts_100 ⟨(Nat.le_of_ble_eq_true rfl), (Nat.le_of_ble_eq_true rfl)⟩ (fun rv n2 σ2 hp => ?_)
                obtain ⟨nw6, σw6, rfl, rfl, rfl, hWw6⟩ := hp
                refine V.eq (σ2 := σw6) (n2 := nw6) (st2 := [.int (nI (wy (aKd (zA Z) k) (aSr (zA Z) k) (aCk (zA Z) k) ((dsA (zA Z) k) - 1) (rkA (zA Z) k)))]) rfl rfl rfl rfl ?_
                obtain ⟨fo6, hob6⟩ := hWw6.obj
                have hlo : wy (aKd (zA Z) k) (aSr (zA Z) k) (aCk (zA Z) k) ((dsA (zA Z) k) - 1) (rkA (zA Z) k) = 0 := ds_lo hv.1 hrq (by show _ < dsA (zA Z) k; omega)
                refine r_if_neN (tgt := 119) C dL_sorts_103 (by decide) (by omega) (fun c103 => ?_) (fun c103 => ?_)
                · exact absurd c103 (by omega)
                · refine r_aload_n C dL_sorts_106 rfl 3 rfl ?_
                  refine r_iload_n C dL_sorts_107 rfl 4 rfl ?_
                  refine r_iload_n C dL_sorts_108 rfl 2 rfl ?_
                  refine r_callV (As := [.int (nI k), .int (nI (dsA (zA Z) k))]) C (c_X6_ofDistance_p (b0 := b0) (Z := Z) (k := k) (w := dsA (zA Z) k)  (by first | assumption | omega) (by first | assumption | omega) (by first | assumption | omega) (by first | assumption | omega)) wM_L_43 wI_X6_ofDistance wN_X6 wC_X6_ofDistance wV_X6_ofDistance hd_X6_ofDistance ⟨Nat.le_of_ble_eq_true rfl, Nat.le_of_ble_eq_true rfl⟩ rfl hob6 rfl rfl (Nat.le_of_ble_eq_true rfl) dL_sorts_109 ⟨(Nat.le_of_ble_eq_true rfl), (Nat.le_of_ble_eq_true rfl)⟩ (fun rv n2 σ2 hp => ?_)
                  obtain ⟨nw7, σw7, rfl, rfl, rfl, hWw7⟩ := hp
                  refine V.eq (σ2 := σw7) (n2 := nw7) (st2 := [.int (nI (ofd (dst false (aKd (zA Z) k) (aSr (zA Z) k) (aCk (zA Z) k)) (dsA (zA Z) k) (rR (sid (aKd (zA Z) k)) (aCk (zA Z) k))))]) rfl rfl rfl rfl ?_
                  obtain ⟨fo7, hob7⟩ := hWw7.obj
                  refine r_if_leN (tgt := 119) C dL_sorts_112 (by decide) (by omega) (fun c112 => ?_) (fun c112 => ?_)
                  · exact absurd c112 (by omega)
                  · refine r_iconst (v := nI 1) C dL_sorts_115 (by decide) ?_
                    refine r_goto (tgt := 120) C dL_sorts_116 (by decide) ?_
                    refine r_istore (lv2 := [(5, .int (nI 1)), (4, .int (nI (dwA (zA Z) k))), (3, .int (nI (gpA (zA Z) k))), (2, .int (nI (dsA (zA Z) k))), (0, .ref b0), (1, .int (nI k))]) C dL_sorts_120 (by decide) rfl ?_
                    refine r_iload C dL_sorts_122 0 rfl ?_
                    refine r_if_eqN (tgt := 184) C dL_sorts_124 (by decide) (by decide) (fun z => absurd z (by decide)) (fun _ => ?_)
                    refine r_iload_n C dL_sorts_127 rfl 3 rfl ?_
                    refine r_if_leN (tgt := 184) C dL_sorts_128 (by decide) (by omega) (fun c128 => ?_) (fun c128 => ?_)
                    · refine r_iload C dL_sorts_184 0 rfl ?_
                      exact r_zret C (by decide) hr hlocks (Nat.le_of_ble_eq_true rfl) (Nat.le_of_ble_eq_true rfl) dL_sorts_186 (hpo _ _ _ ⟨nw7, σw7, Z, rfl, rfl, rfl, hZ, hS, SHP.rf _, hWw7⟩)
                    · refine r_iload_n C dL_sorts_131 rfl 3 rfl ?_
                      refine r_bipush (v := nI 9) C dL_sorts_132 (by decide) ?_
                      refine r_icmp_geN (tgt := 184) C dL_sorts_134 (by decide) (by omega) (by decide) (fun c134 => ?_) (fun c134 => ?_)
                      · refine r_iload C dL_sorts_184 0 rfl ?_
                        exact r_zret C (by decide) hr hlocks (Nat.le_of_ble_eq_true rfl) (Nat.le_of_ble_eq_true rfl) dL_sorts_186 (hpo _ _ _ ⟨nw7, σw7, Z, rfl, rfl, rfl, hZ, hS, SHP.rf _, hWw7⟩)
                      · refine r_iload_n C dL_sorts_137 rfl 3 rfl ?_
                        refine r_iconst (v := nI 2) C dL_sorts_138 (by decide) ?_
                        refine r_iremN C dL_sorts_139 (by omega) (by decide) (by decide) ?_
                        refine r_if_neN (tgt := 184) C dL_sorts_140 (by decide) (by omega) (fun c140 => ?_) (fun c140 => ?_)
                        · refine r_iload C dL_sorts_184 0 rfl ?_
                          exact r_zret C (by decide) hr hlocks (Nat.le_of_ble_eq_true rfl) (Nat.le_of_ble_eq_true rfl) dL_sorts_186 (hpo _ _ _ ⟨nw7, σw7, Z, rfl, rfl, rfl, hZ, hS, SHP.rf _, hWw7⟩)
                        · obtain ⟨hfr, hfd, a2, htot, hr2⟩ := fwA_ok hA hk (by omega) (by omega)
                          refine r_aload_n C dL_sorts_143 rfl 4 rfl ?_
                          refine r_iload_n C dL_sorts_144 rfl 5 rfl ?_
                          refine r_aload_n C dL_sorts_145 rfl 4 rfl ?_
                          refine r_iload_n C dL_sorts_146 rfl 5 rfl ?_
                          refine r_iconst (v := nI 1) C dL_sorts_147 (by decide) ?_
                          refine r_callV (As := [.int (nI k), .int (nI 1)]) C (c_X6_fewest_pw (b0 := b0) (Z := Z) (k := k)  (by first | assumption | omega) (by first | assumption | omega) (hds) (by first | assumption | omega)) wM_L_33 wI_X6_fewest wN_X6 wC_X6_fewest wV_X6_fewest hd_X6_fewest ⟨Nat.le_of_ble_eq_true rfl, Nat.le_of_ble_eq_true rfl⟩ rfl hob7 rfl rfl (Nat.le_of_ble_eq_true rfl) dL_sorts_148 ⟨(Nat.le_of_ble_eq_true rfl), (Nat.le_of_ble_eq_true rfl)⟩ (fun rv n2 σ2 hp => ?_)
                          obtain ⟨nw8, σw8, rfl, rfl, rfl, hWw8⟩ := hp
                          refine V.eq (σ2 := σw8) (n2 := nw8) (st2 := [.int (nI (fwA (zA Z) k)), .int (nI k), .ref b0]) rfl rfl rfl rfl ?_
                          obtain ⟨fo8, hob8⟩ := hWw8.obj
                          refine r_callV (As := [.int (nI k), .int (nI (fwA (zA Z) k))]) C (c_X6_doRow_py (b0 := b0) (Z := Z) (k := k) (row := fwA (zA Z) k) (D := dsA (zA Z) k) (a2 := a2)  (by first | assumption | omega) (by first | assumption | omega) (hfr) (hfd) (htot) (by first | assumption | omega)) wM_L_46 wI_X6_doRow wN_X6 wC_X6_doRow wV_X6_doRow hd_X6_doRow ⟨Nat.le_of_ble_eq_true rfl, Nat.le_of_ble_eq_true rfl⟩ rfl hob8 rfl rfl (Nat.le_of_ble_eq_true rfl) dL_sorts_151 ⟨(Nat.le_of_ble_eq_true rfl), (Nat.le_of_ble_eq_true rfl)⟩ (fun rv n2 σ2 hp => ?_)
                          obtain ⟨nw1, σw1, rfl, rfl, rfl, hWw1⟩ := hp
                          refine V.eq (σ2 := σw1) (n2 := nw1) (st2 := [.int (nI (gpA a2 k))]) rfl rfl rfl rfl ?_
                          obtain ⟨Z1, hZe1⟩ : ∃ z, z = zP Z a2 := ⟨_, rfl⟩
                          rw [← hZe1] at hWw1
                          have hz1 : zA Z1 = a2 := by rw [hZe1]; rfl
                          have hA2 := rwA_ok hA hk htot
                          have hZ1 : ZOK Z1 := by rw [hZe1]; exact zP_ok hZ hA2
                          have hA1 := hZ1.1
                          have hsh := rwA_sh htot
                          have hk1 : k < aN (zA Z1) := by rw [hz1, hsh.1]; exact hk
                          have hS1 : SUMI (zA Z1) := by rw [hz1]; exact SUMI.rw hA hS hk htot
                          have hP1 : SHP (zA Z) (zA Z1) := by rw [hz1]; exact hsh
                          have hr1 : rkA (zA Z1) k = 0 := by rw [hz1]; exact hr2
                          have ho1 := rk_z hA1 hk1 hr1
                          have hs1 := sr_0 hA1 hk1 ho1.1 ho1.2
                          have hg2 : gpA a2 k = 0 := by rw [← hz1]; exact hs1.2.1
                          have hd1 : dsA (zA Z1) k = 0 := by rw [dsA, hr1]; exact ds_0 (hA1.2.2 k hk1).1
                          obtain ⟨fo1, hob1⟩ := hWw1.obj
                          refine r_if_neN (tgt := 181) C dL_sorts_154 (by decide) (by omega) (fun c154 => ?_) (fun c154 => ?_)
                          · exact absurd c154 (by omega)
                          · refine r_aload_n C dL_sorts_157 rfl 4 rfl ?_
                            refine r_iload_n C dL_sorts_158 rfl 5 rfl ?_
                            refine r_bipush (v := nI 6) C dL_sorts_159 (by decide) ?_
                            refine r_callV (As := [.int (nI k), .int (nI 6)]) C (c_X6_stackOf_p6 (b0 := b0) (Z := Z1) (k := k)  (by first | assumption | omega) (by first | assumption | omega) (by first | assumption | omega)) wM_L_15 wI_X6_stackOf wN_X6 wC_X6_stackOf wV_X6_stackOf hd_X6_stackOf ⟨Nat.le_of_ble_eq_true rfl, Nat.le_of_ble_eq_true rfl⟩ rfl hob1 rfl rfl (Nat.le_of_ble_eq_true rfl) dL_sorts_161 ⟨(Nat.le_of_ble_eq_true rfl), (Nat.le_of_ble_eq_true rfl)⟩ (fun rv n2 σ2 hp => ?_)
                            obtain ⟨rfl, rfl, rfl⟩ := hp
                            refine V.eq (σ2 := σw1) (n2 := nw1) (st2 := [.int (bI (srA (zA Z1) k))]) rfl rfl rfl rfl ?_
                            refine V.top (y := nI 1) (by rw [hs1.1]; rfl) ?_
                            refine r_iconst (v := nI 1) C dL_sorts_164 (by decide) ?_
                            refine r_icmp_neN (tgt := 181) C dL_sorts_165 (by decide) (by decide) (by decide) (fun z => absurd z (by decide)) (fun _ => ?_)
                            refine r_aload_n C dL_sorts_168 rfl 4 rfl ?_
                            refine r_iload_n C dL_sorts_169 rfl 5 rfl ?_
                            refine r_iconst (v := nI 0) C dL_sorts_170 (by decide) ?_
                            refine r_callV (As := [.int (nI k), .int (nI 0)]) C (c_X6_fewest_pc (b0 := b0) (Z := Z1) (k := k)  (by first | assumption | omega) (by first | assumption | omega) (by first | assumption | omega) (by first | assumption | omega)) wM_L_33 wI_X6_fewest wN_X6 wC_X6_fewest wV_X6_fewest hd_X6_fewest ⟨Nat.le_of_ble_eq_true rfl, Nat.le_of_ble_eq_true rfl⟩ rfl hob1 rfl rfl (Nat.le_of_ble_eq_true rfl) dL_sorts_171 ⟨(Nat.le_of_ble_eq_true rfl), (Nat.le_of_ble_eq_true rfl)⟩ (fun rv n2 σ2 hp => ?_)
                            obtain ⟨nw9, σw9, rfl, rfl, rfl, hWw9⟩ := hp
                            refine V.eq (σ2 := σw9) (n2 := nw9) (st2 := [.int (nI (dsA (zA Z1) k))]) rfl rfl rfl rfl ?_
                            obtain ⟨fo9, hob9⟩ := hWw9.obj
                            refine r_if_neN (tgt := 181) C dL_sorts_174 (by decide) (by omega) (fun c174 => ?_) (fun c174 => ?_)
                            · exact absurd c174 (by omega)
                            · refine r_iconst (v := nI 1) C dL_sorts_177 (by decide) ?_
                              refine r_goto (tgt := 182) C dL_sorts_178 (by decide) ?_
                              refine r_istore (lv2 := [(5, .int (nI 1)), (4, .int (nI (dwA (zA Z) k))), (3, .int (nI (gpA (zA Z) k))), (2, .int (nI (dsA (zA Z) k))), (0, .ref b0), (1, .int (nI k))]) C dL_sorts_182 (by decide) rfl ?_
                              refine r_iload C dL_sorts_184 0 rfl ?_
                              exact r_zret C (by decide) hr hlocks (Nat.le_of_ble_eq_true rfl) (Nat.le_of_ble_eq_true rfl) dL_sorts_186 (hpo _ _ _ ⟨nw9, σw9, Z1, rfl, rfl, rfl, hZ1, hS1, hP1, hWw9⟩)
              · refine r_iconst (v := nI 5) C dL_sorts_93 (by decide) ?_
                refine r_goto (tgt := 100) C dL_sorts_94 (by decide) ?_
                refine r_callV (As := [.int (nI k), .int (nI 5)]) C (c_X6_ways_p (b0 := b0) (Z := Z) (k := k) (t := 5)  (by first | assumption | omega) (by first | assumption | omega) (by first | assumption | omega) (by first | assumption | omega)) wM_L_40 wI_X6_ways wN_X6 wC_X6_ways wV_X6_ways hd_X6_ways ⟨Nat.le_of_ble_eq_true rfl, Nat.le_of_ble_eq_true rfl⟩ rfl hob4 rfl rfl (Nat.le_of_ble_eq_true rfl) dL_sorts_100 ⟨(Nat.le_of_ble_eq_true rfl), (Nat.le_of_ble_eq_true rfl)⟩ (fun rv n2 σ2 hp => ?_)
                obtain ⟨nw6, σw6, rfl, rfl, rfl, hWw6⟩ := hp
                refine V.eq (σ2 := σw6) (n2 := nw6) (st2 := [.int (nI (wy (aKd (zA Z) k) (aSr (zA Z) k) (aCk (zA Z) k) 5 (rkA (zA Z) k)))]) rfl rfl rfl rfl ?_
                obtain ⟨fo6, hob6⟩ := hWw6.obj
                have hlo : wy (aKd (zA Z) k) (aSr (zA Z) k) (aCk (zA Z) k) 5 (rkA (zA Z) k) = 0 := ds_lo hv.1 hrq (by show _ < dsA (zA Z) k; omega)
                refine r_if_neN (tgt := 119) C dL_sorts_103 (by decide) (by omega) (fun c103 => ?_) (fun c103 => ?_)
                · exact absurd c103 (by omega)
                · refine r_aload_n C dL_sorts_106 rfl 3 rfl ?_
                  refine r_iload_n C dL_sorts_107 rfl 4 rfl ?_
                  refine r_iload_n C dL_sorts_108 rfl 2 rfl ?_
                  refine r_callV (As := [.int (nI k), .int (nI (dsA (zA Z) k))]) C (c_X6_ofDistance_p (b0 := b0) (Z := Z) (k := k) (w := dsA (zA Z) k)  (by first | assumption | omega) (by first | assumption | omega) (by first | assumption | omega) (by first | assumption | omega)) wM_L_43 wI_X6_ofDistance wN_X6 wC_X6_ofDistance wV_X6_ofDistance hd_X6_ofDistance ⟨Nat.le_of_ble_eq_true rfl, Nat.le_of_ble_eq_true rfl⟩ rfl hob6 rfl rfl (Nat.le_of_ble_eq_true rfl) dL_sorts_109 ⟨(Nat.le_of_ble_eq_true rfl), (Nat.le_of_ble_eq_true rfl)⟩ (fun rv n2 σ2 hp => ?_)
                  obtain ⟨nw7, σw7, rfl, rfl, rfl, hWw7⟩ := hp
                  refine V.eq (σ2 := σw7) (n2 := nw7) (st2 := [.int (nI (ofd (dst false (aKd (zA Z) k) (aSr (zA Z) k) (aCk (zA Z) k)) (dsA (zA Z) k) (rR (sid (aKd (zA Z) k)) (aCk (zA Z) k))))]) rfl rfl rfl rfl ?_
                  obtain ⟨fo7, hob7⟩ := hWw7.obj
                  refine r_if_leN (tgt := 119) C dL_sorts_112 (by decide) (by omega) (fun c112 => ?_) (fun c112 => ?_)
                  · exact absurd c112 (by omega)
                  · refine r_iconst (v := nI 1) C dL_sorts_115 (by decide) ?_
                    refine r_goto (tgt := 120) C dL_sorts_116 (by decide) ?_
                    refine r_istore (lv2 := [(5, .int (nI 1)), (4, .int (nI (dwA (zA Z) k))), (3, .int (nI (gpA (zA Z) k))), (2, .int (nI (dsA (zA Z) k))), (0, .ref b0), (1, .int (nI k))]) C dL_sorts_120 (by decide) rfl ?_
                    refine r_iload C dL_sorts_122 0 rfl ?_
                    refine r_if_eqN (tgt := 184) C dL_sorts_124 (by decide) (by decide) (fun z => absurd z (by decide)) (fun _ => ?_)
                    refine r_iload_n C dL_sorts_127 rfl 3 rfl ?_
                    refine r_if_leN (tgt := 184) C dL_sorts_128 (by decide) (by omega) (fun c128 => ?_) (fun c128 => ?_)
                    · refine r_iload C dL_sorts_184 0 rfl ?_
                      exact r_zret C (by decide) hr hlocks (Nat.le_of_ble_eq_true rfl) (Nat.le_of_ble_eq_true rfl) dL_sorts_186 (hpo _ _ _ ⟨nw7, σw7, Z, rfl, rfl, rfl, hZ, hS, SHP.rf _, hWw7⟩)
                    · refine r_iload_n C dL_sorts_131 rfl 3 rfl ?_
                      refine r_bipush (v := nI 9) C dL_sorts_132 (by decide) ?_
                      refine r_icmp_geN (tgt := 184) C dL_sorts_134 (by decide) (by omega) (by decide) (fun c134 => ?_) (fun c134 => ?_)
                      · refine r_iload C dL_sorts_184 0 rfl ?_
                        exact r_zret C (by decide) hr hlocks (Nat.le_of_ble_eq_true rfl) (Nat.le_of_ble_eq_true rfl) dL_sorts_186 (hpo _ _ _ ⟨nw7, σw7, Z, rfl, rfl, rfl, hZ, hS, SHP.rf _, hWw7⟩)
                      · refine r_iload_n C dL_sorts_137 rfl 3 rfl ?_
                        refine r_iconst (v := nI 2) C dL_sorts_138 (by decide) ?_
                        refine r_iremN C dL_sorts_139 (by omega) (by decide) (by decide) ?_
                        refine r_if_neN (tgt := 184) C dL_sorts_140 (by decide) (by omega) (fun c140 => ?_) (fun c140 => ?_)
                        · refine r_iload C dL_sorts_184 0 rfl ?_
                          exact r_zret C (by decide) hr hlocks (Nat.le_of_ble_eq_true rfl) (Nat.le_of_ble_eq_true rfl) dL_sorts_186 (hpo _ _ _ ⟨nw7, σw7, Z, rfl, rfl, rfl, hZ, hS, SHP.rf _, hWw7⟩)
                        · obtain ⟨hfr, hfd, a2, htot, hr2⟩ := fwA_ok hA hk (by omega) (by omega)
                          refine r_aload_n C dL_sorts_143 rfl 4 rfl ?_
                          refine r_iload_n C dL_sorts_144 rfl 5 rfl ?_
                          refine r_aload_n C dL_sorts_145 rfl 4 rfl ?_
                          refine r_iload_n C dL_sorts_146 rfl 5 rfl ?_
                          refine r_iconst (v := nI 1) C dL_sorts_147 (by decide) ?_
                          refine r_callV (As := [.int (nI k), .int (nI 1)]) C (c_X6_fewest_pw (b0 := b0) (Z := Z) (k := k)  (by first | assumption | omega) (by first | assumption | omega) (hds) (by first | assumption | omega)) wM_L_33 wI_X6_fewest wN_X6 wC_X6_fewest wV_X6_fewest hd_X6_fewest ⟨Nat.le_of_ble_eq_true rfl, Nat.le_of_ble_eq_true rfl⟩ rfl hob7 rfl rfl (Nat.le_of_ble_eq_true rfl) dL_sorts_148 ⟨(Nat.le_of_ble_eq_true rfl), (Nat.le_of_ble_eq_true rfl)⟩ (fun rv n2 σ2 hp => ?_)
                          obtain ⟨nw8, σw8, rfl, rfl, rfl, hWw8⟩ := hp
                          refine V.eq (σ2 := σw8) (n2 := nw8) (st2 := [.int (nI (fwA (zA Z) k)), .int (nI k), .ref b0]) rfl rfl rfl rfl ?_
                          obtain ⟨fo8, hob8⟩ := hWw8.obj
                          refine r_callV (As := [.int (nI k), .int (nI (fwA (zA Z) k))]) C (c_X6_doRow_py (b0 := b0) (Z := Z) (k := k) (row := fwA (zA Z) k) (D := dsA (zA Z) k) (a2 := a2)  (by first | assumption | omega) (by first | assumption | omega) (hfr) (hfd) (htot) (by first | assumption | omega)) wM_L_46 wI_X6_doRow wN_X6 wC_X6_doRow wV_X6_doRow hd_X6_doRow ⟨Nat.le_of_ble_eq_true rfl, Nat.le_of_ble_eq_true rfl⟩ rfl hob8 rfl rfl (Nat.le_of_ble_eq_true rfl) dL_sorts_151 ⟨(Nat.le_of_ble_eq_true rfl), (Nat.le_of_ble_eq_true rfl)⟩ (fun rv n2 σ2 hp => ?_)
                          obtain ⟨nw1, σw1, rfl, rfl, rfl, hWw1⟩ := hp
                          refine V.eq (σ2 := σw1) (n2 := nw1) (st2 := [.int (nI (gpA a2 k))]) rfl rfl rfl rfl ?_
                          obtain ⟨Z1, hZe1⟩ : ∃ z, z = zP Z a2 := ⟨_, rfl⟩
                          rw [← hZe1] at hWw1
                          have hz1 : zA Z1 = a2 := by rw [hZe1]; rfl
                          have hA2 := rwA_ok hA hk htot
                          have hZ1 : ZOK Z1 := by rw [hZe1]; exact zP_ok hZ hA2
                          have hA1 := hZ1.1
                          have hsh := rwA_sh htot
                          have hk1 : k < aN (zA Z1) := by rw [hz1, hsh.1]; exact hk
                          have hS1 : SUMI (zA Z1) := by rw [hz1]; exact SUMI.rw hA hS hk htot
                          have hP1 : SHP (zA Z) (zA Z1) := by rw [hz1]; exact hsh
                          have hr1 : rkA (zA Z1) k = 0 := by rw [hz1]; exact hr2
                          have ho1 := rk_z hA1 hk1 hr1
                          have hs1 := sr_0 hA1 hk1 ho1.1 ho1.2
                          have hg2 : gpA a2 k = 0 := by rw [← hz1]; exact hs1.2.1
                          have hd1 : dsA (zA Z1) k = 0 := by rw [dsA, hr1]; exact ds_0 (hA1.2.2 k hk1).1
                          obtain ⟨fo1, hob1⟩ := hWw1.obj
                          refine r_if_neN (tgt := 181) C dL_sorts_154 (by decide) (by omega) (fun c154 => ?_) (fun c154 => ?_)
                          · exact absurd c154 (by omega)
                          · refine r_aload_n C dL_sorts_157 rfl 4 rfl ?_
                            refine r_iload_n C dL_sorts_158 rfl 5 rfl ?_
                            refine r_bipush (v := nI 6) C dL_sorts_159 (by decide) ?_
                            refine r_callV (As := [.int (nI k), .int (nI 6)]) C (c_X6_stackOf_p6 (b0 := b0) (Z := Z1) (k := k)  (by first | assumption | omega) (by first | assumption | omega) (by first | assumption | omega)) wM_L_15 wI_X6_stackOf wN_X6 wC_X6_stackOf wV_X6_stackOf hd_X6_stackOf ⟨Nat.le_of_ble_eq_true rfl, Nat.le_of_ble_eq_true rfl⟩ rfl hob1 rfl rfl (Nat.le_of_ble_eq_true rfl) dL_sorts_161 ⟨(Nat.le_of_ble_eq_true rfl), (Nat.le_of_ble_eq_true rfl)⟩ (fun rv n2 σ2 hp => ?_)
                            obtain ⟨rfl, rfl, rfl⟩ := hp
                            refine V.eq (σ2 := σw1) (n2 := nw1) (st2 := [.int (bI (srA (zA Z1) k))]) rfl rfl rfl rfl ?_
                            refine V.top (y := nI 1) (by rw [hs1.1]; rfl) ?_
                            refine r_iconst (v := nI 1) C dL_sorts_164 (by decide) ?_
                            refine r_icmp_neN (tgt := 181) C dL_sorts_165 (by decide) (by decide) (by decide) (fun z => absurd z (by decide)) (fun _ => ?_)
                            refine r_aload_n C dL_sorts_168 rfl 4 rfl ?_
                            refine r_iload_n C dL_sorts_169 rfl 5 rfl ?_
                            refine r_iconst (v := nI 0) C dL_sorts_170 (by decide) ?_
                            refine r_callV (As := [.int (nI k), .int (nI 0)]) C (c_X6_fewest_pc (b0 := b0) (Z := Z1) (k := k)  (by first | assumption | omega) (by first | assumption | omega) (by first | assumption | omega) (by first | assumption | omega)) wM_L_33 wI_X6_fewest wN_X6 wC_X6_fewest wV_X6_fewest hd_X6_fewest ⟨Nat.le_of_ble_eq_true rfl, Nat.le_of_ble_eq_true rfl⟩ rfl hob1 rfl rfl (Nat.le_of_ble_eq_true rfl) dL_sorts_171 ⟨(Nat.le_of_ble_eq_true rfl), (Nat.le_of_ble_eq_true rfl)⟩ (fun rv n2 σ2 hp => ?_)
                            obtain ⟨nw9, σw9, rfl, rfl, rfl, hWw9⟩ := hp
                            refine V.eq (σ2 := σw9) (n2 := nw9) (st2 := [.int (nI (dsA (zA Z1) k))]) rfl rfl rfl rfl ?_
                            obtain ⟨fo9, hob9⟩ := hWw9.obj
                            refine r_if_neN (tgt := 181) C dL_sorts_174 (by decide) (by omega) (fun c174 => ?_) (fun c174 => ?_)
                            · exact absurd c174 (by omega)
                            · refine r_iconst (v := nI 1) C dL_sorts_177 (by decide) ?_
                              refine r_goto (tgt := 182) C dL_sorts_178 (by decide) ?_
                              refine r_istore (lv2 := [(5, .int (nI 1)), (4, .int (nI (dwA (zA Z) k))), (3, .int (nI (gpA (zA Z) k))), (2, .int (nI (dsA (zA Z) k))), (0, .ref b0), (1, .int (nI k))]) C dL_sorts_182 (by decide) rfl ?_
                              refine r_iload C dL_sorts_184 0 rfl ?_
                              exact r_zret C (by decide) hr hlocks (Nat.le_of_ble_eq_true rfl) (Nat.le_of_ble_eq_true rfl) dL_sorts_186 (hpo _ _ _ ⟨nw9, σw9, Z1, rfl, rfl, rfl, hZ1, hS1, hP1, hWw9⟩)
        · refine r_aload_n C dL_sorts_67 rfl 3 rfl ?_
          refine r_iload_n C dL_sorts_68 rfl 4 rfl ?_
          refine r_iload_n C dL_sorts_69 rfl 2 rfl ?_
          refine r_callV (As := [.int (nI k), .int (nI (dsA (zA Z) k))]) C (c_X6_ways_p (b0 := b0) (Z := Z) (k := k) (t := dsA (zA Z) k)  (by first | assumption | omega) (by first | assumption | omega) (by first | assumption | omega) (by first | assumption | omega)) wM_L_40 wI_X6_ways wN_X6 wC_X6_ways wV_X6_ways hd_X6_ways ⟨Nat.le_of_ble_eq_true rfl, Nat.le_of_ble_eq_true rfl⟩ rfl hob4 rfl rfl (Nat.le_of_ble_eq_true rfl) dL_sorts_70 ⟨(Nat.le_of_ble_eq_true rfl), (Nat.le_of_ble_eq_true rfl)⟩ (fun rv n2 σ2 hp => ?_)
          obtain ⟨nw5, σw5, rfl, rfl, rfl, hWw5⟩ := hp
          refine V.eq (σ2 := σw5) (n2 := nw5) (st2 := [.int (nI (wy (aKd (zA Z) k) (aSr (zA Z) k) (aCk (zA Z) k) (dsA (zA Z) k) (rkA (zA Z) k)))]) rfl rfl rfl rfl ?_
          obtain ⟨fo5, hob5⟩ := hWw5.obj
          have hw31 := wy_31 (kd := aKd (zA Z) k) (sr := aSr (zA Z) k) (t := dsA (zA Z) k) (r := rkA (zA Z) k) hN6 (by omega)
          refine r_if_leN (tgt := 119) C dL_sorts_73 (by decide) (by omega) (fun c73 => ?_) (fun c73 => ?_)
          · exact absurd c73 (by omega)
          · refine r_iload_n C dL_sorts_76 rfl 2 rfl ?_
            refine r_if_eqN (tgt := 106) C dL_sorts_77 (by decide) (by omega) (fun c77 => ?_) (fun c77 => ?_)
            · refine r_aload_n C dL_sorts_106 rfl 3 rfl ?_
              refine r_iload_n C dL_sorts_107 rfl 4 rfl ?_
              refine r_iload_n C dL_sorts_108 rfl 2 rfl ?_
              refine r_callV (As := [.int (nI k), .int (nI (dsA (zA Z) k))]) C (c_X6_ofDistance_p (b0 := b0) (Z := Z) (k := k) (w := dsA (zA Z) k)  (by first | assumption | omega) (by first | assumption | omega) (by first | assumption | omega) (by first | assumption | omega)) wM_L_43 wI_X6_ofDistance wN_X6 wC_X6_ofDistance wV_X6_ofDistance hd_X6_ofDistance ⟨Nat.le_of_ble_eq_true rfl, Nat.le_of_ble_eq_true rfl⟩ rfl hob5 rfl rfl (Nat.le_of_ble_eq_true rfl) dL_sorts_109 ⟨(Nat.le_of_ble_eq_true rfl), (Nat.le_of_ble_eq_true rfl)⟩ (fun rv n2 σ2 hp => ?_)
              obtain ⟨nw7, σw7, rfl, rfl, rfl, hWw7⟩ := hp
              refine V.eq (σ2 := σw7) (n2 := nw7) (st2 := [.int (nI (ofd (dst false (aKd (zA Z) k) (aSr (zA Z) k) (aCk (zA Z) k)) (dsA (zA Z) k) (rR (sid (aKd (zA Z) k)) (aCk (zA Z) k))))]) rfl rfl rfl rfl ?_
              obtain ⟨fo7, hob7⟩ := hWw7.obj
              refine r_if_leN (tgt := 119) C dL_sorts_112 (by decide) (by omega) (fun c112 => ?_) (fun c112 => ?_)
              · exact absurd c112 (by omega)
              · refine r_iconst (v := nI 1) C dL_sorts_115 (by decide) ?_
                refine r_goto (tgt := 120) C dL_sorts_116 (by decide) ?_
                refine r_istore (lv2 := [(5, .int (nI 1)), (4, .int (nI (dwA (zA Z) k))), (3, .int (nI (gpA (zA Z) k))), (2, .int (nI (dsA (zA Z) k))), (0, .ref b0), (1, .int (nI k))]) C dL_sorts_120 (by decide) rfl ?_
                refine r_iload C dL_sorts_122 0 rfl ?_
                refine r_if_eqN (tgt := 184) C dL_sorts_124 (by decide) (by decide) (fun z => absurd z (by decide)) (fun _ => ?_)
                refine r_iload_n C dL_sorts_127 rfl 3 rfl ?_
                refine r_if_leN (tgt := 184) C dL_sorts_128 (by decide) (by omega) (fun c128 => ?_) (fun c128 => ?_)
                · refine r_iload C dL_sorts_184 0 rfl ?_
                  exact r_zret C (by decide) hr hlocks (Nat.le_of_ble_eq_true rfl) (Nat.le_of_ble_eq_true rfl) dL_sorts_186 (hpo _ _ _ ⟨nw7, σw7, Z, rfl, rfl, rfl, hZ, hS, SHP.rf _, hWw7⟩)
                · refine r_iload_n C dL_sorts_131 rfl 3 rfl ?_
                  refine r_bipush (v := nI 9) C dL_sorts_132 (by decide) ?_
                  refine r_icmp_geN (tgt := 184) C dL_sorts_134 (by decide) (by omega) (by decide) (fun c134 => ?_) (fun c134 => ?_)
                  · refine r_iload C dL_sorts_184 0 rfl ?_
                    exact r_zret C (by decide) hr hlocks (Nat.le_of_ble_eq_true rfl) (Nat.le_of_ble_eq_true rfl) dL_sorts_186 (hpo _ _ _ ⟨nw7, σw7, Z, rfl, rfl, rfl, hZ, hS, SHP.rf _, hWw7⟩)
                  · refine r_iload_n C dL_sorts_137 rfl 3 rfl ?_
                    refine r_iconst (v := nI 2) C dL_sorts_138 (by decide) ?_
                    refine r_iremN C dL_sorts_139 (by omega) (by decide) (by decide) ?_
                    refine r_if_neN (tgt := 184) C dL_sorts_140 (by decide) (by omega) (fun c140 => ?_) (fun c140 => ?_)
                    · refine r_iload C dL_sorts_184 0 rfl ?_
                      exact r_zret C (by decide) hr hlocks (Nat.le_of_ble_eq_true rfl) (Nat.le_of_ble_eq_true rfl) dL_sorts_186 (hpo _ _ _ ⟨nw7, σw7, Z, rfl, rfl, rfl, hZ, hS, SHP.rf _, hWw7⟩)
                    · obtain ⟨hfr, hfd, a2, htot, hr2⟩ := fwA_ok hA hk (by omega) (by omega)
                      refine r_aload_n C dL_sorts_143 rfl 4 rfl ?_
                      refine r_iload_n C dL_sorts_144 rfl 5 rfl ?_
                      refine r_aload_n C dL_sorts_145 rfl 4 rfl ?_
                      refine r_iload_n C dL_sorts_146 rfl 5 rfl ?_
                      refine r_iconst (v := nI 1) C dL_sorts_147 (by decide) ?_
                      refine r_callV (As := [.int (nI k), .int (nI 1)]) C (c_X6_fewest_pw (b0 := b0) (Z := Z) (k := k)  (by first | assumption | omega) (by first | assumption | omega) (hds) (by first | assumption | omega)) wM_L_33 wI_X6_fewest wN_X6 wC_X6_fewest wV_X6_fewest hd_X6_fewest ⟨Nat.le_of_ble_eq_true rfl, Nat.le_of_ble_eq_true rfl⟩ rfl hob7 rfl rfl (Nat.le_of_ble_eq_true rfl) dL_sorts_148 ⟨(Nat.le_of_ble_eq_true rfl), (Nat.le_of_ble_eq_true rfl)⟩ (fun rv n2 σ2 hp => ?_)
                      obtain ⟨nw8, σw8, rfl, rfl, rfl, hWw8⟩ := hp
                      refine V.eq (σ2 := σw8) (n2 := nw8) (st2 := [.int (nI (fwA (zA Z) k)), .int (nI k), .ref b0]) rfl rfl rfl rfl ?_
                      obtain ⟨fo8, hob8⟩ := hWw8.obj
                      refine r_callV (As := [.int (nI k), .int (nI (fwA (zA Z) k))]) C (c_X6_doRow_py (b0 := b0) (Z := Z) (k := k) (row := fwA (zA Z) k) (D := dsA (zA Z) k) (a2 := a2)  (by first | assumption | omega) (by first | assumption | omega) (hfr) (hfd) (htot) (by first | assumption | omega)) wM_L_46 wI_X6_doRow wN_X6 wC_X6_doRow wV_X6_doRow hd_X6_doRow ⟨Nat.le_of_ble_eq_true rfl, Nat.le_of_ble_eq_true rfl⟩ rfl hob8 rfl rfl (Nat.le_of_ble_eq_true rfl) dL_sorts_151 ⟨(Nat.le_of_ble_eq_true rfl), (Nat.le_of_ble_eq_true rfl)⟩ (fun rv n2 σ2 hp => ?_)
                      obtain ⟨nw1, σw1, rfl, rfl, rfl, hWw1⟩ := hp
                      refine V.eq (σ2 := σw1) (n2 := nw1) (st2 := [.int (nI (gpA a2 k))]) rfl rfl rfl rfl ?_
                      obtain ⟨Z1, hZe1⟩ : ∃ z, z = zP Z a2 := ⟨_, rfl⟩
                      rw [← hZe1] at hWw1
                      have hz1 : zA Z1 = a2 := by rw [hZe1]; rfl
                      have hA2 := rwA_ok hA hk htot
                      have hZ1 : ZOK Z1 := by rw [hZe1]; exact zP_ok hZ hA2
                      have hA1 := hZ1.1
                      have hsh := rwA_sh htot
                      have hk1 : k < aN (zA Z1) := by rw [hz1, hsh.1]; exact hk
                      have hS1 : SUMI (zA Z1) := by rw [hz1]; exact SUMI.rw hA hS hk htot
                      have hP1 : SHP (zA Z) (zA Z1) := by rw [hz1]; exact hsh
                      have hr1 : rkA (zA Z1) k = 0 := by rw [hz1]; exact hr2
                      have ho1 := rk_z hA1 hk1 hr1
                      have hs1 := sr_0 hA1 hk1 ho1.1 ho1.2
                      have hg2 : gpA a2 k = 0 := by rw [← hz1]; exact hs1.2.1
                      have hd1 : dsA (zA Z1) k = 0 := by rw [dsA, hr1]; exact ds_0 (hA1.2.2 k hk1).1
                      obtain ⟨fo1, hob1⟩ := hWw1.obj
                      refine r_if_neN (tgt := 181) C dL_sorts_154 (by decide) (by omega) (fun c154 => ?_) (fun c154 => ?_)
                      · exact absurd c154 (by omega)
                      · refine r_aload_n C dL_sorts_157 rfl 4 rfl ?_
                        refine r_iload_n C dL_sorts_158 rfl 5 rfl ?_
                        refine r_bipush (v := nI 6) C dL_sorts_159 (by decide) ?_
                        refine r_callV (As := [.int (nI k), .int (nI 6)]) C (c_X6_stackOf_p6 (b0 := b0) (Z := Z1) (k := k)  (by first | assumption | omega) (by first | assumption | omega) (by first | assumption | omega)) wM_L_15 wI_X6_stackOf wN_X6 wC_X6_stackOf wV_X6_stackOf hd_X6_stackOf ⟨Nat.le_of_ble_eq_true rfl, Nat.le_of_ble_eq_true rfl⟩ rfl hob1 rfl rfl (Nat.le_of_ble_eq_true rfl) dL_sorts_161 ⟨(Nat.le_of_ble_eq_true rfl), (Nat.le_of_ble_eq_true rfl)⟩ (fun rv n2 σ2 hp => ?_)
                        obtain ⟨rfl, rfl, rfl⟩ := hp
                        refine V.eq (σ2 := σw1) (n2 := nw1) (st2 := [.int (bI (srA (zA Z1) k))]) rfl rfl rfl rfl ?_
                        refine V.top (y := nI 1) (by rw [hs1.1]; rfl) ?_
                        refine r_iconst (v := nI 1) C dL_sorts_164 (by decide) ?_
                        refine r_icmp_neN (tgt := 181) C dL_sorts_165 (by decide) (by decide) (by decide) (fun z => absurd z (by decide)) (fun _ => ?_)
                        refine r_aload_n C dL_sorts_168 rfl 4 rfl ?_
                        refine r_iload_n C dL_sorts_169 rfl 5 rfl ?_
                        refine r_iconst (v := nI 0) C dL_sorts_170 (by decide) ?_
                        refine r_callV (As := [.int (nI k), .int (nI 0)]) C (c_X6_fewest_pc (b0 := b0) (Z := Z1) (k := k)  (by first | assumption | omega) (by first | assumption | omega) (by first | assumption | omega) (by first | assumption | omega)) wM_L_33 wI_X6_fewest wN_X6 wC_X6_fewest wV_X6_fewest hd_X6_fewest ⟨Nat.le_of_ble_eq_true rfl, Nat.le_of_ble_eq_true rfl⟩ rfl hob1 rfl rfl (Nat.le_of_ble_eq_true rfl) dL_sorts_171 ⟨(Nat.le_of_ble_eq_true rfl), (Nat.le_of_ble_eq_true rfl)⟩ (fun rv n2 σ2 hp => ?_)
                        obtain ⟨nw9, σw9, rfl, rfl, rfl, hWw9⟩ := hp
                        refine V.eq (σ2 := σw9) (n2 := nw9) (st2 := [.int (nI (dsA (zA Z1) k))]) rfl rfl rfl rfl ?_
                        obtain ⟨fo9, hob9⟩ := hWw9.obj
                        refine r_if_neN (tgt := 181) C dL_sorts_174 (by decide) (by omega) (fun c174 => ?_) (fun c174 => ?_)
                        · exact absurd c174 (by omega)
                        · refine r_iconst (v := nI 1) C dL_sorts_177 (by decide) ?_
                          refine r_goto (tgt := 182) C dL_sorts_178 (by decide) ?_
                          refine r_istore (lv2 := [(5, .int (nI 1)), (4, .int (nI (dwA (zA Z) k))), (3, .int (nI (gpA (zA Z) k))), (2, .int (nI (dsA (zA Z) k))), (0, .ref b0), (1, .int (nI k))]) C dL_sorts_182 (by decide) rfl ?_
                          refine r_iload C dL_sorts_184 0 rfl ?_
                          exact r_zret C (by decide) hr hlocks (Nat.le_of_ble_eq_true rfl) (Nat.le_of_ble_eq_true rfl) dL_sorts_186 (hpo _ _ _ ⟨nw9, σw9, Z1, rfl, rfl, rfl, hZ1, hS1, hP1, hWw9⟩)
            · refine r_iload_n C dL_sorts_80 rfl 2 rfl ?_
              refine r_bipush (v := nI 6) C dL_sorts_81 (by decide) ?_
              refine r_icmp_gtN (tgt := 106) C dL_sorts_83 (by decide) (by omega) (by decide) (fun c83 => ?_) (fun c83 => ?_)
              · refine r_aload_n C dL_sorts_106 rfl 3 rfl ?_
                refine r_iload_n C dL_sorts_107 rfl 4 rfl ?_
                refine r_iload_n C dL_sorts_108 rfl 2 rfl ?_
                refine r_callV (As := [.int (nI k), .int (nI (dsA (zA Z) k))]) C (c_X6_ofDistance_p (b0 := b0) (Z := Z) (k := k) (w := dsA (zA Z) k)  (by first | assumption | omega) (by first | assumption | omega) (by first | assumption | omega) (by first | assumption | omega)) wM_L_43 wI_X6_ofDistance wN_X6 wC_X6_ofDistance wV_X6_ofDistance hd_X6_ofDistance ⟨Nat.le_of_ble_eq_true rfl, Nat.le_of_ble_eq_true rfl⟩ rfl hob5 rfl rfl (Nat.le_of_ble_eq_true rfl) dL_sorts_109 ⟨(Nat.le_of_ble_eq_true rfl), (Nat.le_of_ble_eq_true rfl)⟩ (fun rv n2 σ2 hp => ?_)
                obtain ⟨nw7, σw7, rfl, rfl, rfl, hWw7⟩ := hp
                refine V.eq (σ2 := σw7) (n2 := nw7) (st2 := [.int (nI (ofd (dst false (aKd (zA Z) k) (aSr (zA Z) k) (aCk (zA Z) k)) (dsA (zA Z) k) (rR (sid (aKd (zA Z) k)) (aCk (zA Z) k))))]) rfl rfl rfl rfl ?_
                obtain ⟨fo7, hob7⟩ := hWw7.obj
                refine r_if_leN (tgt := 119) C dL_sorts_112 (by decide) (by omega) (fun c112 => ?_) (fun c112 => ?_)
                · exact absurd c112 (by omega)
                · refine r_iconst (v := nI 1) C dL_sorts_115 (by decide) ?_
                  refine r_goto (tgt := 120) C dL_sorts_116 (by decide) ?_
                  refine r_istore (lv2 := [(5, .int (nI 1)), (4, .int (nI (dwA (zA Z) k))), (3, .int (nI (gpA (zA Z) k))), (2, .int (nI (dsA (zA Z) k))), (0, .ref b0), (1, .int (nI k))]) C dL_sorts_120 (by decide) rfl ?_
                  refine r_iload C dL_sorts_122 0 rfl ?_
                  refine r_if_eqN (tgt := 184) C dL_sorts_124 (by decide) (by decide) (fun z => absurd z (by decide)) (fun _ => ?_)
                  refine r_iload_n C dL_sorts_127 rfl 3 rfl ?_
                  refine r_if_leN (tgt := 184) C dL_sorts_128 (by decide) (by omega) (fun c128 => ?_) (fun c128 => ?_)
                  · refine r_iload C dL_sorts_184 0 rfl ?_
                    exact r_zret C (by decide) hr hlocks (Nat.le_of_ble_eq_true rfl) (Nat.le_of_ble_eq_true rfl) dL_sorts_186 (hpo _ _ _ ⟨nw7, σw7, Z, rfl, rfl, rfl, hZ, hS, SHP.rf _, hWw7⟩)
                  · refine r_iload_n C dL_sorts_131 rfl 3 rfl ?_
                    refine r_bipush (v := nI 9) C dL_sorts_132 (by decide) ?_
                    refine r_icmp_geN (tgt := 184) C dL_sorts_134 (by decide) (by omega) (by decide) (fun c134 => ?_) (fun c134 => ?_)
                    · refine r_iload C dL_sorts_184 0 rfl ?_
                      exact r_zret C (by decide) hr hlocks (Nat.le_of_ble_eq_true rfl) (Nat.le_of_ble_eq_true rfl) dL_sorts_186 (hpo _ _ _ ⟨nw7, σw7, Z, rfl, rfl, rfl, hZ, hS, SHP.rf _, hWw7⟩)
                    · refine r_iload_n C dL_sorts_137 rfl 3 rfl ?_
                      refine r_iconst (v := nI 2) C dL_sorts_138 (by decide) ?_
                      refine r_iremN C dL_sorts_139 (by omega) (by decide) (by decide) ?_
                      refine r_if_neN (tgt := 184) C dL_sorts_140 (by decide) (by omega) (fun c140 => ?_) (fun c140 => ?_)
                      · refine r_iload C dL_sorts_184 0 rfl ?_
                        exact r_zret C (by decide) hr hlocks (Nat.le_of_ble_eq_true rfl) (Nat.le_of_ble_eq_true rfl) dL_sorts_186 (hpo _ _ _ ⟨nw7, σw7, Z, rfl, rfl, rfl, hZ, hS, SHP.rf _, hWw7⟩)
                      · obtain ⟨hfr, hfd, a2, htot, hr2⟩ := fwA_ok hA hk (by omega) (by omega)
                        refine r_aload_n C dL_sorts_143 rfl 4 rfl ?_
                        refine r_iload_n C dL_sorts_144 rfl 5 rfl ?_
                        refine r_aload_n C dL_sorts_145 rfl 4 rfl ?_
                        refine r_iload_n C dL_sorts_146 rfl 5 rfl ?_
                        refine r_iconst (v := nI 1) C dL_sorts_147 (by decide) ?_
                        refine r_callV (As := [.int (nI k), .int (nI 1)]) C (c_X6_fewest_pw (b0 := b0) (Z := Z) (k := k)  (by first | assumption | omega) (by first | assumption | omega) (hds) (by first | assumption | omega)) wM_L_33 wI_X6_fewest wN_X6 wC_X6_fewest wV_X6_fewest hd_X6_fewest ⟨Nat.le_of_ble_eq_true rfl, Nat.le_of_ble_eq_true rfl⟩ rfl hob7 rfl rfl (Nat.le_of_ble_eq_true rfl) dL_sorts_148 ⟨(Nat.le_of_ble_eq_true rfl), (Nat.le_of_ble_eq_true rfl)⟩ (fun rv n2 σ2 hp => ?_)
                        obtain ⟨nw8, σw8, rfl, rfl, rfl, hWw8⟩ := hp
                        refine V.eq (σ2 := σw8) (n2 := nw8) (st2 := [.int (nI (fwA (zA Z) k)), .int (nI k), .ref b0]) rfl rfl rfl rfl ?_
                        obtain ⟨fo8, hob8⟩ := hWw8.obj
                        refine r_callV (As := [.int (nI k), .int (nI (fwA (zA Z) k))]) C (c_X6_doRow_py (b0 := b0) (Z := Z) (k := k) (row := fwA (zA Z) k) (D := dsA (zA Z) k) (a2 := a2)  (by first | assumption | omega) (by first | assumption | omega) (hfr) (hfd) (htot) (by first | assumption | omega)) wM_L_46 wI_X6_doRow wN_X6 wC_X6_doRow wV_X6_doRow hd_X6_doRow ⟨Nat.le_of_ble_eq_true rfl, Nat.le_of_ble_eq_true rfl⟩ rfl hob8 rfl rfl (Nat.le_of_ble_eq_true rfl) dL_sorts_151 ⟨(Nat.le_of_ble_eq_true rfl), (Nat.le_of_ble_eq_true rfl)⟩ (fun rv n2 σ2 hp => ?_)
                        obtain ⟨nw1, σw1, rfl, rfl, rfl, hWw1⟩ := hp
                        refine V.eq (σ2 := σw1) (n2 := nw1) (st2 := [.int (nI (gpA a2 k))]) rfl rfl rfl rfl ?_
                        obtain ⟨Z1, hZe1⟩ : ∃ z, z = zP Z a2 := ⟨_, rfl⟩
                        rw [← hZe1] at hWw1
                        have hz1 : zA Z1 = a2 := by rw [hZe1]; rfl
                        have hA2 := rwA_ok hA hk htot
                        have hZ1 : ZOK Z1 := by rw [hZe1]; exact zP_ok hZ hA2
                        have hA1 := hZ1.1
                        have hsh := rwA_sh htot
                        have hk1 : k < aN (zA Z1) := by rw [hz1, hsh.1]; exact hk
                        have hS1 : SUMI (zA Z1) := by rw [hz1]; exact SUMI.rw hA hS hk htot
                        have hP1 : SHP (zA Z) (zA Z1) := by rw [hz1]; exact hsh
                        have hr1 : rkA (zA Z1) k = 0 := by rw [hz1]; exact hr2
                        have ho1 := rk_z hA1 hk1 hr1
                        have hs1 := sr_0 hA1 hk1 ho1.1 ho1.2
                        have hg2 : gpA a2 k = 0 := by rw [← hz1]; exact hs1.2.1
                        have hd1 : dsA (zA Z1) k = 0 := by rw [dsA, hr1]; exact ds_0 (hA1.2.2 k hk1).1
                        obtain ⟨fo1, hob1⟩ := hWw1.obj
                        refine r_if_neN (tgt := 181) C dL_sorts_154 (by decide) (by omega) (fun c154 => ?_) (fun c154 => ?_)
                        · exact absurd c154 (by omega)
                        · refine r_aload_n C dL_sorts_157 rfl 4 rfl ?_
                          refine r_iload_n C dL_sorts_158 rfl 5 rfl ?_
                          refine r_bipush (v := nI 6) C dL_sorts_159 (by decide) ?_
                          refine r_callV (As := [.int (nI k), .int (nI 6)]) C (c_X6_stackOf_p6 (b0 := b0) (Z := Z1) (k := k)  (by first | assumption | omega) (by first | assumption | omega) (by first | assumption | omega)) wM_L_15 wI_X6_stackOf wN_X6 wC_X6_stackOf wV_X6_stackOf hd_X6_stackOf ⟨Nat.le_of_ble_eq_true rfl, Nat.le_of_ble_eq_true rfl⟩ rfl hob1 rfl rfl (Nat.le_of_ble_eq_true rfl) dL_sorts_161 ⟨(Nat.le_of_ble_eq_true rfl), (Nat.le_of_ble_eq_true rfl)⟩ (fun rv n2 σ2 hp => ?_)
                          obtain ⟨rfl, rfl, rfl⟩ := hp
                          refine V.eq (σ2 := σw1) (n2 := nw1) (st2 := [.int (bI (srA (zA Z1) k))]) rfl rfl rfl rfl ?_
                          refine V.top (y := nI 1) (by rw [hs1.1]; rfl) ?_
                          refine r_iconst (v := nI 1) C dL_sorts_164 (by decide) ?_
                          refine r_icmp_neN (tgt := 181) C dL_sorts_165 (by decide) (by decide) (by decide) (fun z => absurd z (by decide)) (fun _ => ?_)
                          refine r_aload_n C dL_sorts_168 rfl 4 rfl ?_
                          refine r_iload_n C dL_sorts_169 rfl 5 rfl ?_
                          refine r_iconst (v := nI 0) C dL_sorts_170 (by decide) ?_
                          refine r_callV (As := [.int (nI k), .int (nI 0)]) C (c_X6_fewest_pc (b0 := b0) (Z := Z1) (k := k)  (by first | assumption | omega) (by first | assumption | omega) (by first | assumption | omega) (by first | assumption | omega)) wM_L_33 wI_X6_fewest wN_X6 wC_X6_fewest wV_X6_fewest hd_X6_fewest ⟨Nat.le_of_ble_eq_true rfl, Nat.le_of_ble_eq_true rfl⟩ rfl hob1 rfl rfl (Nat.le_of_ble_eq_true rfl) dL_sorts_171 ⟨(Nat.le_of_ble_eq_true rfl), (Nat.le_of_ble_eq_true rfl)⟩ (fun rv n2 σ2 hp => ?_)
                          obtain ⟨nw9, σw9, rfl, rfl, rfl, hWw9⟩ := hp
                          refine V.eq (σ2 := σw9) (n2 := nw9) (st2 := [.int (nI (dsA (zA Z1) k))]) rfl rfl rfl rfl ?_
                          obtain ⟨fo9, hob9⟩ := hWw9.obj
                          refine r_if_neN (tgt := 181) C dL_sorts_174 (by decide) (by omega) (fun c174 => ?_) (fun c174 => ?_)
                          · exact absurd c174 (by omega)
                          · refine r_iconst (v := nI 1) C dL_sorts_177 (by decide) ?_
                            refine r_goto (tgt := 182) C dL_sorts_178 (by decide) ?_
                            refine r_istore (lv2 := [(5, .int (nI 1)), (4, .int (nI (dwA (zA Z) k))), (3, .int (nI (gpA (zA Z) k))), (2, .int (nI (dsA (zA Z) k))), (0, .ref b0), (1, .int (nI k))]) C dL_sorts_182 (by decide) rfl ?_
                            refine r_iload C dL_sorts_184 0 rfl ?_
                            exact r_zret C (by decide) hr hlocks (Nat.le_of_ble_eq_true rfl) (Nat.le_of_ble_eq_true rfl) dL_sorts_186 (hpo _ _ _ ⟨nw9, σw9, Z1, rfl, rfl, rfl, hZ1, hS1, hP1, hWw9⟩)
              · refine r_aload_n C dL_sorts_86 rfl 3 rfl ?_
                refine r_iload_n C dL_sorts_87 rfl 4 rfl ?_
                refine r_iload_n C dL_sorts_88 rfl 2 rfl ?_
                refine r_iconst (v := nI 5) C dL_sorts_89 (by decide) ?_
                refine r_icmp_leN (tgt := 97) C dL_sorts_90 (by decide) (by omega) (by decide) (fun c90 => ?_) (fun c90 => ?_)
                · refine r_iload_n C dL_sorts_97 rfl 2 rfl ?_
                  refine r_iconst (v := nI 1) C dL_sorts_98 (by decide) ?_
                  refine r_isubN C dL_sorts_99 (by omega) ?_
                  refine r_callV (As := [.int (nI k), .int (nI ((dsA (zA Z) k) - 1))]) C (c_X6_ways_p (b0 := b0) (Z := Z) (k := k) (t := (dsA (zA Z) k) - 1)  (by first | assumption | omega) (by first | assumption | omega) (by first | assumption | omega) (by first | assumption | omega)) wM_L_40 wI_X6_ways wN_X6 wC_X6_ways wV_X6_ways hd_X6_ways ⟨Nat.le_of_ble_eq_true rfl, Nat.le_of_ble_eq_true rfl⟩ rfl hob5 rfl rfl (Nat.le_of_ble_eq_true rfl) dL_sorts_100 ⟨(Nat.le_of_ble_eq_true rfl), (Nat.le_of_ble_eq_true rfl)⟩ (fun rv n2 σ2 hp => ?_)
                  obtain ⟨nw6, σw6, rfl, rfl, rfl, hWw6⟩ := hp
                  refine V.eq (σ2 := σw6) (n2 := nw6) (st2 := [.int (nI (wy (aKd (zA Z) k) (aSr (zA Z) k) (aCk (zA Z) k) ((dsA (zA Z) k) - 1) (rkA (zA Z) k)))]) rfl rfl rfl rfl ?_
                  obtain ⟨fo6, hob6⟩ := hWw6.obj
                  have hlo : wy (aKd (zA Z) k) (aSr (zA Z) k) (aCk (zA Z) k) ((dsA (zA Z) k) - 1) (rkA (zA Z) k) = 0 := ds_lo hv.1 hrq (by show _ < dsA (zA Z) k; omega)
                  refine r_if_neN (tgt := 119) C dL_sorts_103 (by decide) (by omega) (fun c103 => ?_) (fun c103 => ?_)
                  · exact absurd c103 (by omega)
                  · refine r_aload_n C dL_sorts_106 rfl 3 rfl ?_
                    refine r_iload_n C dL_sorts_107 rfl 4 rfl ?_
                    refine r_iload_n C dL_sorts_108 rfl 2 rfl ?_
                    refine r_callV (As := [.int (nI k), .int (nI (dsA (zA Z) k))]) C (c_X6_ofDistance_p (b0 := b0) (Z := Z) (k := k) (w := dsA (zA Z) k)  (by first | assumption | omega) (by first | assumption | omega) (by first | assumption | omega) (by first | assumption | omega)) wM_L_43 wI_X6_ofDistance wN_X6 wC_X6_ofDistance wV_X6_ofDistance hd_X6_ofDistance ⟨Nat.le_of_ble_eq_true rfl, Nat.le_of_ble_eq_true rfl⟩ rfl hob6 rfl rfl (Nat.le_of_ble_eq_true rfl) dL_sorts_109 ⟨(Nat.le_of_ble_eq_true rfl), (Nat.le_of_ble_eq_true rfl)⟩ (fun rv n2 σ2 hp => ?_)
                    obtain ⟨nw7, σw7, rfl, rfl, rfl, hWw7⟩ := hp
                    refine V.eq (σ2 := σw7) (n2 := nw7) (st2 := [.int (nI (ofd (dst false (aKd (zA Z) k) (aSr (zA Z) k) (aCk (zA Z) k)) (dsA (zA Z) k) (rR (sid (aKd (zA Z) k)) (aCk (zA Z) k))))]) rfl rfl rfl rfl ?_
                    obtain ⟨fo7, hob7⟩ := hWw7.obj
                    refine r_if_leN (tgt := 119) C dL_sorts_112 (by decide) (by omega) (fun c112 => ?_) (fun c112 => ?_)
                    · exact absurd c112 (by omega)
                    · refine r_iconst (v := nI 1) C dL_sorts_115 (by decide) ?_
                      refine r_goto (tgt := 120) C dL_sorts_116 (by decide) ?_
                      refine r_istore (lv2 := [(5, .int (nI 1)), (4, .int (nI (dwA (zA Z) k))), (3, .int (nI (gpA (zA Z) k))), (2, .int (nI (dsA (zA Z) k))), (0, .ref b0), (1, .int (nI k))]) C dL_sorts_120 (by decide) rfl ?_
                      refine r_iload C dL_sorts_122 0 rfl ?_
                      refine r_if_eqN (tgt := 184) C dL_sorts_124 (by decide) (by decide) (fun z => absurd z (by decide)) (fun _ => ?_)
                      refine r_iload_n C dL_sorts_127 rfl 3 rfl ?_
                      refine r_if_leN (tgt := 184) C dL_sorts_128 (by decide) (by omega) (fun c128 => ?_) (fun c128 => ?_)
                      · refine r_iload C dL_sorts_184 0 rfl ?_
                        exact r_zret C (by decide) hr hlocks (Nat.le_of_ble_eq_true rfl) (Nat.le_of_ble_eq_true rfl) dL_sorts_186 (hpo _ _ _ ⟨nw7, σw7, Z, rfl, rfl, rfl, hZ, hS, SHP.rf _, hWw7⟩)
                      · refine r_iload_n C dL_sorts_131 rfl 3 rfl ?_
                        refine r_bipush (v := nI 9) C dL_sorts_132 (by decide) ?_
                        refine r_icmp_geN (tgt := 184) C dL_sorts_134 (by decide) (by omega) (by decide) (fun c134 => ?_) (fun c134 => ?_)
                        · refine r_iload C dL_sorts_184 0 rfl ?_
                          exact r_zret C (by decide) hr hlocks (Nat.le_of_ble_eq_true rfl) (Nat.le_of_ble_eq_true rfl) dL_sorts_186 (hpo _ _ _ ⟨nw7, σw7, Z, rfl, rfl, rfl, hZ, hS, SHP.rf _, hWw7⟩)
                        · refine r_iload_n C dL_sorts_137 rfl 3 rfl ?_
                          refine r_iconst (v := nI 2) C dL_sorts_138 (by decide) ?_
                          refine r_iremN C dL_sorts_139 (by omega) (by decide) (by decide) ?_
                          refine r_if_neN (tgt := 184) C dL_sorts_140 (by decide) (by omega) (fun c140 => ?_) (fun c140 => ?_)
                          · refine r_iload C dL_sorts_184 0 rfl ?_
                            exact r_zret C (by decide) hr hlocks (Nat.le_of_ble_eq_true rfl) (Nat.le_of_ble_eq_true rfl) dL_sorts_186 (hpo _ _ _ ⟨nw7, σw7, Z, rfl, rfl, rfl, hZ, hS, SHP.rf _, hWw7⟩)
                          · obtain ⟨hfr, hfd, a2, htot, hr2⟩ := fwA_ok hA hk (by omega) (by omega)
                            refine r_aload_n C dL_sorts_143 rfl 4 rfl ?_
                            refine r_iload_n C dL_sorts_144 rfl 5 rfl ?_
                            refine r_aload_n C dL_sorts_145 rfl 4 rfl ?_
                            refine r_iload_n C dL_sorts_146 rfl 5 rfl ?_
                            refine r_iconst (v := nI 1) C dL_sorts_147 (by decide) ?_
                            refine r_callV (As := [.int (nI k), .int (nI 1)]) C (c_X6_fewest_pw (b0 := b0) (Z := Z) (k := k)  (by first | assumption | omega) (by first | assumption | omega) (hds) (by first | assumption | omega)) wM_L_33 wI_X6_fewest wN_X6 wC_X6_fewest wV_X6_fewest hd_X6_fewest ⟨Nat.le_of_ble_eq_true rfl, Nat.le_of_ble_eq_true rfl⟩ rfl hob7 rfl rfl (Nat.le_of_ble_eq_true rfl) dL_sorts_148 ⟨(Nat.le_of_ble_eq_true rfl), (Nat.le_of_ble_eq_true rfl)⟩ (fun rv n2 σ2 hp => ?_)
                            obtain ⟨nw8, σw8, rfl, rfl, rfl, hWw8⟩ := hp
                            refine V.eq (σ2 := σw8) (n2 := nw8) (st2 := [.int (nI (fwA (zA Z) k)), .int (nI k), .ref b0]) rfl rfl rfl rfl ?_
                            obtain ⟨fo8, hob8⟩ := hWw8.obj
                            refine r_callV (As := [.int (nI k), .int (nI (fwA (zA Z) k))]) C (c_X6_doRow_py (b0 := b0) (Z := Z) (k := k) (row := fwA (zA Z) k) (D := dsA (zA Z) k) (a2 := a2)  (by first | assumption | omega) (by first | assumption | omega) (hfr) (hfd) (htot) (by first | assumption | omega)) wM_L_46 wI_X6_doRow wN_X6 wC_X6_doRow wV_X6_doRow hd_X6_doRow ⟨Nat.le_of_ble_eq_true rfl, Nat.le_of_ble_eq_true rfl⟩ rfl hob8 rfl rfl (Nat.le_of_ble_eq_true rfl) dL_sorts_151 ⟨(Nat.le_of_ble_eq_true rfl), (Nat.le_of_ble_eq_true rfl)⟩ (fun rv n2 σ2 hp => ?_)
                            obtain ⟨nw1, σw1, rfl, rfl, rfl, hWw1⟩ := hp
                            refine V.eq (σ2 := σw1) (n2 := nw1) (st2 := [.int (nI (gpA a2 k))]) rfl rfl rfl rfl ?_
                            obtain ⟨Z1, hZe1⟩ : ∃ z, z = zP Z a2 := ⟨_, rfl⟩
                            rw [← hZe1] at hWw1
                            have hz1 : zA Z1 = a2 := by rw [hZe1]; rfl
                            have hA2 := rwA_ok hA hk htot
                            have hZ1 : ZOK Z1 := by rw [hZe1]; exact zP_ok hZ hA2
                            have hA1 := hZ1.1
                            have hsh := rwA_sh htot
                            have hk1 : k < aN (zA Z1) := by rw [hz1, hsh.1]; exact hk
                            have hS1 : SUMI (zA Z1) := by rw [hz1]; exact SUMI.rw hA hS hk htot
                            have hP1 : SHP (zA Z) (zA Z1) := by rw [hz1]; exact hsh
                            have hr1 : rkA (zA Z1) k = 0 := by rw [hz1]; exact hr2
                            have ho1 := rk_z hA1 hk1 hr1
                            have hs1 := sr_0 hA1 hk1 ho1.1 ho1.2
                            have hg2 : gpA a2 k = 0 := by rw [← hz1]; exact hs1.2.1
                            have hd1 : dsA (zA Z1) k = 0 := by rw [dsA, hr1]; exact ds_0 (hA1.2.2 k hk1).1
                            obtain ⟨fo1, hob1⟩ := hWw1.obj
                            refine r_if_neN (tgt := 181) C dL_sorts_154 (by decide) (by omega) (fun c154 => ?_) (fun c154 => ?_)
                            · exact absurd c154 (by omega)
                            · refine r_aload_n C dL_sorts_157 rfl 4 rfl ?_
                              refine r_iload_n C dL_sorts_158 rfl 5 rfl ?_
                              refine r_bipush (v := nI 6) C dL_sorts_159 (by decide) ?_
                              refine r_callV (As := [.int (nI k), .int (nI 6)]) C (c_X6_stackOf_p6 (b0 := b0) (Z := Z1) (k := k)  (by first | assumption | omega) (by first | assumption | omega) (by first | assumption | omega)) wM_L_15 wI_X6_stackOf wN_X6 wC_X6_stackOf wV_X6_stackOf hd_X6_stackOf ⟨Nat.le_of_ble_eq_true rfl, Nat.le_of_ble_eq_true rfl⟩ rfl hob1 rfl rfl (Nat.le_of_ble_eq_true rfl) dL_sorts_161 ⟨(Nat.le_of_ble_eq_true rfl), (Nat.le_of_ble_eq_true rfl)⟩ (fun rv n2 σ2 hp => ?_)
                              obtain ⟨rfl, rfl, rfl⟩ := hp
                              refine V.eq (σ2 := σw1) (n2 := nw1) (st2 := [.int (bI (srA (zA Z1) k))]) rfl rfl rfl rfl ?_
                              refine V.top (y := nI 1) (by rw [hs1.1]; rfl) ?_
                              refine r_iconst (v := nI 1) C dL_sorts_164 (by decide) ?_
                              refine r_icmp_neN (tgt := 181) C dL_sorts_165 (by decide) (by decide) (by decide) (fun z => absurd z (by decide)) (fun _ => ?_)
                              refine r_aload_n C dL_sorts_168 rfl 4 rfl ?_
                              refine r_iload_n C dL_sorts_169 rfl 5 rfl ?_
                              refine r_iconst (v := nI 0) C dL_sorts_170 (by decide) ?_
                              refine r_callV (As := [.int (nI k), .int (nI 0)]) C (c_X6_fewest_pc (b0 := b0) (Z := Z1) (k := k)  (by first | assumption | omega) (by first | assumption | omega) (by first | assumption | omega) (by first | assumption | omega)) wM_L_33 wI_X6_fewest wN_X6 wC_X6_fewest wV_X6_fewest hd_X6_fewest ⟨Nat.le_of_ble_eq_true rfl, Nat.le_of_ble_eq_true rfl⟩ rfl hob1 rfl rfl (Nat.le_of_ble_eq_true rfl) dL_sorts_171 ⟨(Nat.le_of_ble_eq_true rfl), (Nat.le_of_ble_eq_true rfl)⟩ (fun rv n2 σ2 hp => ?_)
                              obtain ⟨nw9, σw9, rfl, rfl, rfl, hWw9⟩ := hp
                              refine V.eq (σ2 := σw9) (n2 := nw9) (st2 := [.int (nI (dsA (zA Z1) k))]) rfl rfl rfl rfl ?_
                              obtain ⟨fo9, hob9⟩ := hWw9.obj
                              refine r_if_neN (tgt := 181) C dL_sorts_174 (by decide) (by omega) (fun c174 => ?_) (fun c174 => ?_)
                              · exact absurd c174 (by omega)
                              · refine r_iconst (v := nI 1) C dL_sorts_177 (by decide) ?_
                                refine r_goto (tgt := 182) C dL_sorts_178 (by decide) ?_
                                refine r_istore (lv2 := [(5, .int (nI 1)), (4, .int (nI (dwA (zA Z) k))), (3, .int (nI (gpA (zA Z) k))), (2, .int (nI (dsA (zA Z) k))), (0, .ref b0), (1, .int (nI k))]) C dL_sorts_182 (by decide) rfl ?_
                                refine r_iload C dL_sorts_184 0 rfl ?_
                                exact r_zret C (by decide) hr hlocks (Nat.le_of_ble_eq_true rfl) (Nat.le_of_ble_eq_true rfl) dL_sorts_186 (hpo _ _ _ ⟨nw9, σw9, Z1, rfl, rfl, rfl, hZ1, hS1, hP1, hWw9⟩)
                · refine r_iconst (v := nI 5) C dL_sorts_93 (by decide) ?_
                  refine r_goto (tgt := 100) C dL_sorts_94 (by decide) ?_
                  refine r_callV (As := [.int (nI k), .int (nI 5)]) C (c_X6_ways_p (b0 := b0) (Z := Z) (k := k) (t := 5)  (by first | assumption | omega) (by first | assumption | omega) (by first | assumption | omega) (by first | assumption | omega)) wM_L_40 wI_X6_ways wN_X6 wC_X6_ways wV_X6_ways hd_X6_ways ⟨Nat.le_of_ble_eq_true rfl, Nat.le_of_ble_eq_true rfl⟩ rfl hob5 rfl rfl (Nat.le_of_ble_eq_true rfl) dL_sorts_100 ⟨(Nat.le_of_ble_eq_true rfl), (Nat.le_of_ble_eq_true rfl)⟩ (fun rv n2 σ2 hp => ?_)
                  obtain ⟨nw6, σw6, rfl, rfl, rfl, hWw6⟩ := hp
                  refine V.eq (σ2 := σw6) (n2 := nw6) (st2 := [.int (nI (wy (aKd (zA Z) k) (aSr (zA Z) k) (aCk (zA Z) k) 5 (rkA (zA Z) k)))]) rfl rfl rfl rfl ?_
                  obtain ⟨fo6, hob6⟩ := hWw6.obj
                  have hlo : wy (aKd (zA Z) k) (aSr (zA Z) k) (aCk (zA Z) k) 5 (rkA (zA Z) k) = 0 := ds_lo hv.1 hrq (by show _ < dsA (zA Z) k; omega)
                  refine r_if_neN (tgt := 119) C dL_sorts_103 (by decide) (by omega) (fun c103 => ?_) (fun c103 => ?_)
                  · exact absurd c103 (by omega)
                  · refine r_aload_n C dL_sorts_106 rfl 3 rfl ?_
                    refine r_iload_n C dL_sorts_107 rfl 4 rfl ?_
                    refine r_iload_n C dL_sorts_108 rfl 2 rfl ?_
                    refine r_callV (As := [.int (nI k), .int (nI (dsA (zA Z) k))]) C (c_X6_ofDistance_p (b0 := b0) (Z := Z) (k := k) (w := dsA (zA Z) k)  (by first | assumption | omega) (by first | assumption | omega) (by first | assumption | omega) (by first | assumption | omega)) wM_L_43 wI_X6_ofDistance wN_X6 wC_X6_ofDistance wV_X6_ofDistance hd_X6_ofDistance ⟨Nat.le_of_ble_eq_true rfl, Nat.le_of_ble_eq_true rfl⟩ rfl hob6 rfl rfl (Nat.le_of_ble_eq_true rfl) dL_sorts_109 ⟨(Nat.le_of_ble_eq_true rfl), (Nat.le_of_ble_eq_true rfl)⟩ (fun rv n2 σ2 hp => ?_)
                    obtain ⟨nw7, σw7, rfl, rfl, rfl, hWw7⟩ := hp
                    refine V.eq (σ2 := σw7) (n2 := nw7) (st2 := [.int (nI (ofd (dst false (aKd (zA Z) k) (aSr (zA Z) k) (aCk (zA Z) k)) (dsA (zA Z) k) (rR (sid (aKd (zA Z) k)) (aCk (zA Z) k))))]) rfl rfl rfl rfl ?_
                    obtain ⟨fo7, hob7⟩ := hWw7.obj
                    refine r_if_leN (tgt := 119) C dL_sorts_112 (by decide) (by omega) (fun c112 => ?_) (fun c112 => ?_)
                    · exact absurd c112 (by omega)
                    · refine r_iconst (v := nI 1) C dL_sorts_115 (by decide) ?_
                      refine r_goto (tgt := 120) C dL_sorts_116 (by decide) ?_
                      refine r_istore (lv2 := [(5, .int (nI 1)), (4, .int (nI (dwA (zA Z) k))), (3, .int (nI (gpA (zA Z) k))), (2, .int (nI (dsA (zA Z) k))), (0, .ref b0), (1, .int (nI k))]) C dL_sorts_120 (by decide) rfl ?_
                      refine r_iload C dL_sorts_122 0 rfl ?_
                      refine r_if_eqN (tgt := 184) C dL_sorts_124 (by decide) (by decide) (fun z => absurd z (by decide)) (fun _ => ?_)
                      refine r_iload_n C dL_sorts_127 rfl 3 rfl ?_
                      refine r_if_leN (tgt := 184) C dL_sorts_128 (by decide) (by omega) (fun c128 => ?_) (fun c128 => ?_)
                      · refine r_iload C dL_sorts_184 0 rfl ?_
                        exact r_zret C (by decide) hr hlocks (Nat.le_of_ble_eq_true rfl) (Nat.le_of_ble_eq_true rfl) dL_sorts_186 (hpo _ _ _ ⟨nw7, σw7, Z, rfl, rfl, rfl, hZ, hS, SHP.rf _, hWw7⟩)
                      · refine r_iload_n C dL_sorts_131 rfl 3 rfl ?_
                        refine r_bipush (v := nI 9) C dL_sorts_132 (by decide) ?_
                        refine r_icmp_geN (tgt := 184) C dL_sorts_134 (by decide) (by omega) (by decide) (fun c134 => ?_) (fun c134 => ?_)
                        · refine r_iload C dL_sorts_184 0 rfl ?_
                          exact r_zret C (by decide) hr hlocks (Nat.le_of_ble_eq_true rfl) (Nat.le_of_ble_eq_true rfl) dL_sorts_186 (hpo _ _ _ ⟨nw7, σw7, Z, rfl, rfl, rfl, hZ, hS, SHP.rf _, hWw7⟩)
                        · refine r_iload_n C dL_sorts_137 rfl 3 rfl ?_
                          refine r_iconst (v := nI 2) C dL_sorts_138 (by decide) ?_
                          refine r_iremN C dL_sorts_139 (by omega) (by decide) (by decide) ?_
                          refine r_if_neN (tgt := 184) C dL_sorts_140 (by decide) (by omega) (fun c140 => ?_) (fun c140 => ?_)
                          · refine r_iload C dL_sorts_184 0 rfl ?_
                            exact r_zret C (by decide) hr hlocks (Nat.le_of_ble_eq_true rfl) (Nat.le_of_ble_eq_true rfl) dL_sorts_186 (hpo _ _ _ ⟨nw7, σw7, Z, rfl, rfl, rfl, hZ, hS, SHP.rf _, hWw7⟩)
                          · obtain ⟨hfr, hfd, a2, htot, hr2⟩ := fwA_ok hA hk (by omega) (by omega)
                            refine r_aload_n C dL_sorts_143 rfl 4 rfl ?_
                            refine r_iload_n C dL_sorts_144 rfl 5 rfl ?_
                            refine r_aload_n C dL_sorts_145 rfl 4 rfl ?_
                            refine r_iload_n C dL_sorts_146 rfl 5 rfl ?_
                            refine r_iconst (v := nI 1) C dL_sorts_147 (by decide) ?_
                            refine r_callV (As := [.int (nI k), .int (nI 1)]) C (c_X6_fewest_pw (b0 := b0) (Z := Z) (k := k)  (by first | assumption | omega) (by first | assumption | omega) (hds) (by first | assumption | omega)) wM_L_33 wI_X6_fewest wN_X6 wC_X6_fewest wV_X6_fewest hd_X6_fewest ⟨Nat.le_of_ble_eq_true rfl, Nat.le_of_ble_eq_true rfl⟩ rfl hob7 rfl rfl (Nat.le_of_ble_eq_true rfl) dL_sorts_148 ⟨(Nat.le_of_ble_eq_true rfl), (Nat.le_of_ble_eq_true rfl)⟩ (fun rv n2 σ2 hp => ?_)
                            obtain ⟨nw8, σw8, rfl, rfl, rfl, hWw8⟩ := hp
                            refine V.eq (σ2 := σw8) (n2 := nw8) (st2 := [.int (nI (fwA (zA Z) k)), .int (nI k), .ref b0]) rfl rfl rfl rfl ?_
                            obtain ⟨fo8, hob8⟩ := hWw8.obj
                            refine r_callV (As := [.int (nI k), .int (nI (fwA (zA Z) k))]) C (c_X6_doRow_py (b0 := b0) (Z := Z) (k := k) (row := fwA (zA Z) k) (D := dsA (zA Z) k) (a2 := a2)  (by first | assumption | omega) (by first | assumption | omega) (hfr) (hfd) (htot) (by first | assumption | omega)) wM_L_46 wI_X6_doRow wN_X6 wC_X6_doRow wV_X6_doRow hd_X6_doRow ⟨Nat.le_of_ble_eq_true rfl, Nat.le_of_ble_eq_true rfl⟩ rfl hob8 rfl rfl (Nat.le_of_ble_eq_true rfl) dL_sorts_151 ⟨(Nat.le_of_ble_eq_true rfl), (Nat.le_of_ble_eq_true rfl)⟩ (fun rv n2 σ2 hp => ?_)
                            obtain ⟨nw1, σw1, rfl, rfl, rfl, hWw1⟩ := hp
                            refine V.eq (σ2 := σw1) (n2 := nw1) (st2 := [.int (nI (gpA a2 k))]) rfl rfl rfl rfl ?_
                            obtain ⟨Z1, hZe1⟩ : ∃ z, z = zP Z a2 := ⟨_, rfl⟩
                            rw [← hZe1] at hWw1
                            have hz1 : zA Z1 = a2 := by rw [hZe1]; rfl
                            have hA2 := rwA_ok hA hk htot
                            have hZ1 : ZOK Z1 := by rw [hZe1]; exact zP_ok hZ hA2
                            have hA1 := hZ1.1
                            have hsh := rwA_sh htot
                            have hk1 : k < aN (zA Z1) := by rw [hz1, hsh.1]; exact hk
                            have hS1 : SUMI (zA Z1) := by rw [hz1]; exact SUMI.rw hA hS hk htot
                            have hP1 : SHP (zA Z) (zA Z1) := by rw [hz1]; exact hsh
                            have hr1 : rkA (zA Z1) k = 0 := by rw [hz1]; exact hr2
                            have ho1 := rk_z hA1 hk1 hr1
                            have hs1 := sr_0 hA1 hk1 ho1.1 ho1.2
                            have hg2 : gpA a2 k = 0 := by rw [← hz1]; exact hs1.2.1
                            have hd1 : dsA (zA Z1) k = 0 := by rw [dsA, hr1]; exact ds_0 (hA1.2.2 k hk1).1
                            obtain ⟨fo1, hob1⟩ := hWw1.obj
                            refine r_if_neN (tgt := 181) C dL_sorts_154 (by decide) (by omega) (fun c154 => ?_) (fun c154 => ?_)
                            · exact absurd c154 (by omega)
                            · refine r_aload_n C dL_sorts_157 rfl 4 rfl ?_
                              refine r_iload_n C dL_sorts_158 rfl 5 rfl ?_
                              refine r_bipush (v := nI 6) C dL_sorts_159 (by decide) ?_
                              refine r_callV (As := [.int (nI k), .int (nI 6)]) C (c_X6_stackOf_p6 (b0 := b0) (Z := Z1) (k := k)  (by first | assumption | omega) (by first | assumption | omega) (by first | assumption | omega)) wM_L_15 wI_X6_stackOf wN_X6 wC_X6_stackOf wV_X6_stackOf hd_X6_stackOf ⟨Nat.le_of_ble_eq_true rfl, Nat.le_of_ble_eq_true rfl⟩ rfl hob1 rfl rfl (Nat.le_of_ble_eq_true rfl) dL_sorts_161 ⟨(Nat.le_of_ble_eq_true rfl), (Nat.le_of_ble_eq_true rfl)⟩ (fun rv n2 σ2 hp => ?_)
                              obtain ⟨rfl, rfl, rfl⟩ := hp
                              refine V.eq (σ2 := σw1) (n2 := nw1) (st2 := [.int (bI (srA (zA Z1) k))]) rfl rfl rfl rfl ?_
                              refine V.top (y := nI 1) (by rw [hs1.1]; rfl) ?_
                              refine r_iconst (v := nI 1) C dL_sorts_164 (by decide) ?_
                              refine r_icmp_neN (tgt := 181) C dL_sorts_165 (by decide) (by decide) (by decide) (fun z => absurd z (by decide)) (fun _ => ?_)
                              refine r_aload_n C dL_sorts_168 rfl 4 rfl ?_
                              refine r_iload_n C dL_sorts_169 rfl 5 rfl ?_
                              refine r_iconst (v := nI 0) C dL_sorts_170 (by decide) ?_
                              refine r_callV (As := [.int (nI k), .int (nI 0)]) C (c_X6_fewest_pc (b0 := b0) (Z := Z1) (k := k)  (by first | assumption | omega) (by first | assumption | omega) (by first | assumption | omega) (by first | assumption | omega)) wM_L_33 wI_X6_fewest wN_X6 wC_X6_fewest wV_X6_fewest hd_X6_fewest ⟨Nat.le_of_ble_eq_true rfl, Nat.le_of_ble_eq_true rfl⟩ rfl hob1 rfl rfl (Nat.le_of_ble_eq_true rfl) dL_sorts_171 ⟨(Nat.le_of_ble_eq_true rfl), (Nat.le_of_ble_eq_true rfl)⟩ (fun rv n2 σ2 hp => ?_)
                              obtain ⟨nw9, σw9, rfl, rfl, rfl, hWw9⟩ := hp
                              refine V.eq (σ2 := σw9) (n2 := nw9) (st2 := [.int (nI (dsA (zA Z1) k))]) rfl rfl rfl rfl ?_
                              obtain ⟨fo9, hob9⟩ := hWw9.obj
                              refine r_if_neN (tgt := 181) C dL_sorts_174 (by decide) (by omega) (fun c174 => ?_) (fun c174 => ?_)
                              · exact absurd c174 (by omega)
                              · refine r_iconst (v := nI 1) C dL_sorts_177 (by decide) ?_
                                refine r_goto (tgt := 182) C dL_sorts_178 (by decide) ?_
                                refine r_istore (lv2 := [(5, .int (nI 1)), (4, .int (nI (dwA (zA Z) k))), (3, .int (nI (gpA (zA Z) k))), (2, .int (nI (dsA (zA Z) k))), (0, .ref b0), (1, .int (nI k))]) C dL_sorts_182 (by decide) rfl ?_
                                refine r_iload C dL_sorts_184 0 rfl ?_
                                exact r_zret C (by decide) hr hlocks (Nat.le_of_ble_eq_true rfl) (Nat.le_of_ble_eq_true rfl) dL_sorts_186 (hpo _ _ _ ⟨nw9, σw9, Z1, rfl, rfl, rfl, hZ1, hS1, hP1, hWw9⟩)
