def smA (kd N sr o sd w : Nat) : Int32 :=
  match w with
  | 0 => nI (spw kd N sr 22 o sd).1
  | 1 => nI (spw kd N sr 22 o sd).2.1
  | _ => bI (spw kd N sr 22 o sd).2.2
theorem in_out3 {x : Int32} (h : x.toInt < 0 ∨ 12 < x.toInt) : decide (nI 3 ≤ x ∧ x ≤ nI 9) = false := by
  rw [decide_eq_false_iff_not]
  intro hh
  have h1 := Int32.le_iff_toInt_le.mp hh.1
  have h2 := Int32.le_iff_toInt_le.mp hh.2
  rw [nI_toInt (by decide)] at h1
  rw [nI_toInt (by decide)] at h2
  omega

abbrev rm_X7_simple_y : Room := { frames := 3, cells := 0, slots := 0, locals := 65 }
set_option maxRecDepth 100000 in
set_option maxHeartbeats 4000000 in
theorem c_X7_simple_y {l : Launch} {G : gG} {n : Nat} {σ : gS} {m0 : Nat} {xstates xtyped xat xreason xdone xkind xn xstrength : Int32} {fs fwas fbegun faside ftext fsize fburnt fnext ffar fthen fqueue frankAt fturnAt : Nat → Int32} {ns k kd N sr o sd : Nat} {w : Nat} (hns : fs 0 = nI ns) (hns5 : ns ≤ 5) (hkn : k < ns) (hst : StkAt fs k kd N sr o sd) (hv : Vld kd N sr o sd) (hw : w ≤ 2) : GM l G yX7_simple cX7_simple 7 (some .int) rm_X7_simple_y n (mW G σ m0 [xstates, xtyped, xat, xreason, xdone, xkind, xn, xstrength] [fs, fwas, fbegun, faside, ftext, fsize, fburnt, fnext, ffar, fthen, fqueue, frankAt, fturnAt]) [.ref m0, .int (nI k), .int (nI w)] (fun rv n2 σ2 => some (.int (smA kd N sr o sd w)) = rv ∧ n = n2 ∧ ∃ (f2 : Nat → Int32) (g2 : Nat → Int32), (mW G σ m0 [xstates, xtyped, xat, xreason, xdone, nI kd, nI N, nI sr] [fs, fwas, fbegun, faside, ftext, f2, g2, fnext, ffar, fthen, fqueue, frankAt, fturnAt]) = σ2) := by
  refine GM.intro (by decide +kernel) (Nat.le_of_ble_eq_true rfl) (fun p e s m args below meth c C hr hlocks hname po hpo => ?_)
  have C : Cx p s m args c cX7_simple 7 RX7 G := C
  have hk : k < 5 := by omega
  have hN6 := hv.1.N
  have hN1 := hv.1.2.1
  refine r_aload_n C dX7_simple_0 rfl 0 rfl ?_
  refine r_iload_n C dX7_simple_1 rfl 1 rfl ?_
  refine r_callV (As := [.int (nI k)]) C (c_X7_isStack (x := nI k) (ns := ns) (by first | assumption | omega)) wM_X7_98 wI_X7_isStack wN_X7 wC_X7_isStack wV_X7_isStack hd_X7_isStack ⟨Nat.le_of_ble_eq_true rfl, Nat.le_of_ble_eq_true rfl⟩ rfl (mW_o _ _ _ _ _) rfl rfl (Nat.le_of_ble_eq_true rfl) dX7_simple_2 ⟨Nat.le_of_ble_eq_true rfl, Nat.le_of_ble_eq_true rfl⟩ (fun rv n2 σ2 hp => ?_)
  obtain ⟨rfl, rfl, rfl⟩ := hp
  refine V.eq (σ2 := (mW G σ m0 [xstates, xtyped, xat, xreason, xdone, xkind, xn, xstrength] [fs, fwas, fbegun, faside, ftext, fsize, fburnt, fnext, ffar, fthen, fqueue, frankAt, fturnAt])) (n2 := n) (st2 := [.int (bI (isS (nI k) ns))]) rfl rfl rfl rfl ?_
  refine V.top (y := bI true) (congrArg bI (isS_t ns (by omega) k hkn)) ?_
  refine r_if_eqB (tgt := 17) C dX7_simple_5 (by decide) (fun z => absurd z (by decide)) (fun _ => ?_)
  refine r_iload_n C dX7_simple_8 rfl 2 rfl ?_
  refine r_iconst (v := nI 0) C dX7_simple_9 (by decide) ?_
  refine r_iconst (v := nI 2) C dX7_simple_10 (by decide) ?_
  refine r_callS (As := [.int (nI w), .int (nI 0), .int (nI 2)]) C (c_X7_in (v := nI w) (low := nI 0) (high := nI 2) ) wM_X7_50 wS_X7_in wN_X7 wC_X7_in hd_X7_in ⟨Nat.le_of_ble_eq_true rfl, Nat.le_of_ble_eq_true rfl⟩ rfl rfl (Nat.le_of_ble_eq_true rfl) dX7_simple_11 ⟨Nat.le_of_ble_eq_true rfl, Nat.le_of_ble_eq_true rfl⟩ (fun rv n2 σ2 hp => ?_)
  obtain ⟨rfl, rfl, rfl⟩ := hp
  refine V.eq (σ2 := (mW G σ m0 [xstates, xtyped, xat, xreason, xdone, xkind, xn, xstrength] [fs, fwas, fbegun, faside, ftext, fsize, fburnt, fnext, ffar, fthen, fqueue, frankAt, fturnAt])) (n2 := n) (st2 := [.int (bI (decide ((nI 0) ≤ (nI w) ∧ (nI w) ≤ (nI 2))))]) rfl rfl rfl rfl ?_
  refine V.top (y := bI true) (congrArg bI (in_N (by omega) (by omega) (by omega))) ?_
  refine r_if_neB (tgt := 20) C dX7_simple_14 (by decide) (fun _ => ?_) (fun z => absurd z (by decide))
  refine r_aload_n C dX7_simple_20 rfl 0 rfl ?_
  refine r_iload_n C dX7_simple_21 rfl 1 rfl ?_
  refine r_callV (As := [.int (nI k)]) C (c_X7_looks (k := k) (kd := kd) (N := N) (sr := sr) (o := o) (sd := sd) (by first | assumption | omega) (by first | assumption | omega) (by first | assumption | omega)) wM_X7_105 wI_X7_looks wN_X7 wC_X7_looks wV_X7_looks hd_X7_looks ⟨Nat.le_of_ble_eq_true rfl, Nat.le_of_ble_eq_true rfl⟩ rfl (mW_o _ _ _ _ _) rfl rfl (Nat.le_of_ble_eq_true rfl) dX7_simple_22 ⟨Nat.le_of_ble_eq_true rfl, Nat.le_of_ble_eq_true rfl⟩ (fun rv n2 σ2 hp => ?_)
  obtain ⟨rfl, rfl, fL, gL, rfl, hzL, hbL⟩ := hp
  refine V.eq (σ2 := (mW G σ m0 [xstates, xtyped, xat, xreason, xdone, nI kd, nI N, nI sr] [fs, fwas, fbegun, faside, ftext, fL, gL, fnext, ffar, fthen, fqueue, frankAt, fturnAt])) (n2 := n) (st2 := []) rfl rfl rfl rfl ?_
  refine r_iconst (v := nI 0) C dX7_simple_25 (by decide) ?_
  refine r_istore_n (lv2 := [(3, .int (nI 0)), (0, .ref m0), (1, .int (nI k)), (2, .int (nI w))]) C dX7_simple_26 rfl (by decide) rfl ?_
  refine r_iconst (v := nI 0) C dX7_simple_27 (by decide) ?_
  refine r_istore (lv2 := [(4, .int (nI 0)), (3, .int (nI 0)), (0, .ref m0), (1, .int (nI k)), (2, .int (nI w))]) C dX7_simple_28 (by decide) rfl ?_
  refine r_iconst (v := nI 1) C dX7_simple_30 (by decide) ?_
  refine r_istore (lv2 := [(5, .int (nI 1)), (4, .int (nI 0)), (3, .int (nI 0)), (0, .ref m0), (1, .int (nI k)), (2, .int (nI w))]) C dX7_simple_31 (by decide) rfl ?_
  have L33 : ∀ (fu : Nat) (o1 : Nat) (sd1 : Nat) (fu9 : Nat) (t : Nat) (wk : Nat) (b9 : Bool) (f : Nat → Int32) (g : Nat → Int32), (Vld kd N sr o1 sd1) → (∀ j, j < N → f j = nI (sz N o1 j)) → (∀ j, j < N → g j = nI (bt sd1 j)) → (enough kd N o1 sd1 fu9) → (t + (spw kd N sr fu9 o1 sd1).1 = (spw kd N sr 22 o sd).1) → (wk + (spw kd N sr fu9 o1 sd1).2.1 = (spw kd N sr 22 o sd).2.1) → ((b9 && (spw kd N sr fu9 o1 sd1).2.2) = (spw kd N sr 22 o sd).2.2) → (fu9) < fu → V p l e rm_X7_simple_y s m args below meth c G 7 (MQ below (gQ G po) args s rm_X7_simple_y.cells rm_X7_simple_y.slots (gF G)) 0 0 n (mW G σ m0 [xstates, xtyped, xat, xreason, xdone, nI kd, nI N, nI sr] [fs, fwas, fbegun, faside, ftext, f, g, fnext, ffar, fthen, fqueue, frankAt, fturnAt]) 33 [(0, .ref m0), (1, .int (nI k)), (2, .int (nI w)), (3, .int (nI t)), (4, .int (nI wk)), (5, .int (bI b9))] [] := by
    intro fu
    induction fu with
    | zero => intro o1 sd1 fu9 t wk b9 f g hv1 hf hg hen ht hwk hbb hm; exact absurd hm (Nat.not_lt_zero _)
    | succ fu ih33 =>
      intro o1 sd1 fu9 t wk b9 f g hv1 hf hg hen ht hwk hbb hm33
      refine r_aload_n C dX7_simple_33 rfl 0 rfl ?_
      refine r_callV (As := []) C (c_X7_isSorted (N := N) (o := o1) (sd := sd1) (hv1.1.N) (hv1.1.2.1) (hv1.2.1) (hf) (hg)) wM_X7_126 wI_X7_isSorted wN_X7 wC_X7_isSorted wV_X7_isSorted hd_X7_isSorted ⟨Nat.le_of_ble_eq_true rfl, Nat.le_of_ble_eq_true rfl⟩ rfl (mW_o _ _ _ _ _) rfl rfl (Nat.le_of_ble_eq_true rfl) dX7_simple_34 ⟨Nat.le_of_ble_eq_true rfl, Nat.le_of_ble_eq_true rfl⟩ (fun rv n2 σ2 hp => ?_)
      obtain ⟨rfl, rfl, rfl⟩ := hp
      refine V.eq (σ2 := (mW G σ m0 [xstates, xtyped, xat, xreason, xdone, nI kd, nI N, nI sr] [fs, fwas, fbegun, faside, ftext, f, g, fnext, ffar, fthen, fqueue, frankAt, fturnAt])) (n2 := n) (st2 := [.int (bI (srp N o1 sd1 N))]) rfl rfl rfl rfl ?_
      refine r_if_neB (tgt := 86) C dX7_simple_37 (by decide) (fun cz37 => ?_) (fun cz37 => ?_)
      · rw [spw_t cz37] at ht hwk hbb
        refine r_iload_n C dX7_simple_86 rfl 2 rfl ?_
        refine r_if_neN (tgt := 94) C dX7_simple_87 (by decide) (by omega) (fun cz87 => ?_) (fun cz87 => ?_)
        · refine r_iload_n C dX7_simple_94 rfl 2 rfl ?_
          refine r_iconst (v := nI 1) C dX7_simple_95 (by decide) ?_
          refine r_icmp_neN (tgt := 104) C dX7_simple_96 (by decide) (by omega) (by decide) (fun cz96 => ?_) (fun cz96 => ?_)
          · refine r_iload C dX7_simple_104 5 rfl ?_
            refine r_if_eqB (tgt := 113) C dX7_simple_106 (by decide) (fun cz106 => ?_) (fun cz106 => ?_)
            · refine r_iconst (v := nI 0) C dX7_simple_113 (by decide) ?_
              exact r_iret C hr hlocks (Nat.le_of_ble_eq_true rfl) (Nat.le_of_ble_eq_true rfl) dX7_simple_114 (hpo _ _ _ ⟨by first | (rw [show w = 0 by omega, smA]; rw [← ht]; rfl) | (rw [show w = 1 by omega, smA]; rw [← hwk]; rfl) | (rw [show w = 2 by omega]; show some (Value.int (bI (spw kd N sr 22 o sd).2.2)) = _; rw [← hbb, cz106]; rfl), rfl, f, g, rfl⟩)
            · refine r_iconst (v := nI 1) C dX7_simple_109 (by decide) ?_
              refine r_goto (tgt := 114) C dX7_simple_110 (by decide) ?_
              exact r_iret C hr hlocks (Nat.le_of_ble_eq_true rfl) (Nat.le_of_ble_eq_true rfl) dX7_simple_114 (hpo _ _ _ ⟨by first | (rw [show w = 0 by omega, smA]; rw [← ht]; rfl) | (rw [show w = 1 by omega, smA]; rw [← hwk]; rfl) | (rw [show w = 2 by omega]; show some (Value.int (bI (spw kd N sr 22 o sd).2.2)) = _; rw [← hbb, cz106]; rfl), rfl, f, g, rfl⟩)
          · refine r_iload C dX7_simple_99 4 rfl ?_
            refine r_goto (tgt := 114) C dX7_simple_101 (by decide) ?_
            exact r_iret C hr hlocks (Nat.le_of_ble_eq_true rfl) (Nat.le_of_ble_eq_true rfl) dX7_simple_114 (hpo _ _ _ ⟨by first | (rw [show w = 0 by omega, smA]; rw [← ht]; rfl) | (rw [show w = 1 by omega, smA]; rw [← hwk]; rfl) | (rw [show w = 2 by omega]; show some (Value.int (bI (spw kd N sr 22 o sd).2.2)) = _; rw [← hbb, cz106]; rfl), rfl, f, g, rfl⟩)
        · refine r_iload_n C dX7_simple_90 rfl 3 rfl ?_
          refine r_goto (tgt := 114) C dX7_simple_91 (by decide) ?_
          exact r_iret C hr hlocks (Nat.le_of_ble_eq_true rfl) (Nat.le_of_ble_eq_true rfl) dX7_simple_114 (hpo _ _ _ ⟨by first | (rw [show w = 0 by omega, smA]; rw [← ht]; rfl) | (rw [show w = 1 by omega, smA]; rw [← hwk]; rfl) | (rw [show w = 2 by omega]; show some (Value.int (bI (spw kd N sr 22 o sd).2.2)) = _; rw [← hbb, cz106]; rfl), rfl, f, g, rfl⟩)
      · have hsm := smt_ok hv1 cz37
        obtain ⟨w9, rfl, hen9⟩ := enough_s hv1 cz37 hen
        rw [spw_f cz37] at ht hwk hbb
        refine r_aload_n C dX7_simple_40 rfl 0 rfl ?_
        refine r_callV (As := []) C (c_X7_simpleTurn (kd := kd) (N := N) (o := o1) (sd := sd1) (hv1.1.N) (hv1.1.2.1) (hv1.2.1) (hf) (hg) (hv1.1.1) (cz37)) wM_X7_156 wI_X7_simpleTurn wN_X7 wC_X7_simpleTurn wV_X7_simpleTurn hd_X7_simpleTurn ⟨Nat.le_of_ble_eq_true rfl, Nat.le_of_ble_eq_true rfl⟩ rfl (mW_o _ _ _ _ _) rfl rfl (Nat.le_of_ble_eq_true rfl) dX7_simple_41 ⟨Nat.le_of_ble_eq_true rfl, Nat.le_of_ble_eq_true rfl⟩ (fun rv n2 σ2 hp => ?_)
        obtain ⟨rfl, rfl, rfl⟩ := hp
        refine V.eq (σ2 := (mW G σ m0 [xstates, xtyped, xat, xreason, xdone, nI kd, nI N, nI sr] [fs, fwas, fbegun, faside, ftext, f, g, fnext, ffar, fthen, fqueue, frankAt, fturnAt])) (n2 := n) (st2 := [.int (nI (smt (sid kd) N o1 sd1))]) rfl rfl rfl rfl ?_
        refine r_istore (lv2 := [(6, .int (nI (smt (sid kd) N o1 sd1))), (0, .ref m0), (1, .int (nI k)), (2, .int (nI w)), (3, .int (nI t)), (4, .int (nI wk)), (5, .int (bI b9))]) C dX7_simple_44 (by decide) rfl ?_
        have L65 : ∀ (b8 : Bool), (b8 = (b9 && al kd sr N o1 sd1 (smt (sid kd) N o1 sd1))) → V p l e rm_X7_simple_y s m args below meth c G 7 (MQ below (gQ G po) args s rm_X7_simple_y.cells rm_X7_simple_y.slots (gF G)) 0 0 n (mW G σ m0 [xstates, xtyped, xat, xreason, xdone, nI kd, nI N, nI sr] [fs, fwas, fbegun, faside, ftext, f, g, fnext, ffar, fthen, fqueue, frankAt, fturnAt]) 65 [(0, .ref m0), (1, .int (nI k)), (2, .int (nI w)), (3, .int (nI t)), (4, .int (nI wk)), (5, .int (bI b9)), (6, .int (nI (smt (sid kd) N o1 sd1)))] [.int (bI b8)] := by
          intro b8 hb8
          refine r_istore (lv2 := [(5, .int (bI b8)), (0, .ref m0), (1, .int (nI k)), (2, .int (nI w)), (3, .int (nI t)), (4, .int (nI wk)), (6, .int (nI (smt (sid kd) N o1 sd1)))]) C dX7_simple_65 (by decide) rfl ?_
          refine r_aload_n C dX7_simple_67 rfl 1 rfl ?_
          refine r_iload C dX7_simple_68 6 rfl ?_
          refine r_callV (As := [.int (nI (smt (sid kd) N o1 sd1))]) C (c_X7_turns (kd := kd) (N := N) (o := o1) (sd := sd1) (k := smt (sid kd) N o1 sd1) (hv1.1.N) (hv1.1.2.1) (hv1.2.1) (hf) (hg) (hv1.1.1) (hv1.2.2) (hsm.1.1) (hsm.1.2)) wM_X7_116 wI_X7_turns wN_X7 wC_X7_turns wV_X7_turns hd_X7_turns ⟨Nat.le_of_ble_eq_true rfl, Nat.le_of_ble_eq_true rfl⟩ rfl (mW_o _ _ _ _ _) rfl rfl (Nat.le_of_ble_eq_true rfl) dX7_simple_70 ⟨Nat.le_of_ble_eq_true rfl, Nat.le_of_ble_eq_true rfl⟩ (fun rv n2 σ2 hp => ?_)
          obtain ⟨rfl, rfl, fT, gT, rfl, hzT, hbT⟩ := hp
          refine V.eq (σ2 := (mW G σ m0 [xstates, xtyped, xat, xreason, xdone, nI kd, nI N, nI sr] [fs, fwas, fbegun, faside, ftext, fT, gT, fnext, ffar, fthen, fqueue, frankAt, fturnAt])) (n2 := n) (st2 := []) rfl rfl rfl rfl ?_
          refine r_iinc (v := nI (t + 1)) (lv2 := [(3, .int (nI (t + 1))), (5, .int (bI b8)), (0, .ref m0), (1, .int (nI k)), (2, .int (nI w)), (4, .int (nI wk)), (6, .int (nI (smt (sid kd) N o1 sd1)))]) C dX7_simple_73 (k := 4) rfl (nI_add _ 1) (by decide) rfl ?_
          refine r_iload C dX7_simple_76 5 rfl ?_
          refine r_iload C dX7_simple_78 6 rfl ?_
          refine r_iaddN C dX7_simple_80 ?_
          refine r_istore (lv2 := [(4, .int (nI (wk + (smt (sid kd) N o1 sd1)))), (3, .int (nI (t + 1))), (5, .int (bI b8)), (0, .ref m0), (1, .int (nI k)), (2, .int (nI w)), (6, .int (nI (smt (sid kd) N o1 sd1)))]) C dX7_simple_81 (by decide) rfl ?_
          refine r_goto (tgt := 33) C dX7_simple_83 (by decide) ?_
          refine V.sub (lv2 := [(0, .ref m0), (1, .int (nI k)), (2, .int (nI w)), (3, .int (nI (t + 1))), (4, .int (nI (wk + (smt (sid kd) N o1 sd1)))), (5, .int (bI b8))]) [3, 4, 5, 1, 0, 2] rfl ?_
          exact ih33 (smO (sid kd) N o1 sd1) (smS (sid kd) N o1 sd1) w9 (t + 1) (wk + (smt (sid kd) N o1 sd1)) b8 fT gT (hv1.tn hsm.1.2) (hzT) (hbT) (hen9) (by rw [← ht, Nat.add_assoc, Nat.add_comm 1]) (by rw [← hwk, Nat.add_assoc, Nat.add_comm (smt (sid kd) N o1 sd1)]) (by rw [← hbb, hb8, Bool.and_assoc]) (by omega)
        refine r_iload C dX7_simple_46 6 rfl ?_
        refine r_if_eqB (tgt := 64) C dX7_simple_48 (by decide) (fun cz48 => ?_) (fun cz48 => ?_)
        · refine r_iconst (v := nI 0) C dX7_simple_64 (by decide) ?_
          refine V.sub (lv2 := [(0, .ref m0), (1, .int (nI k)), (2, .int (nI w)), (3, .int (nI t)), (4, .int (nI wk)), (5, .int (bI b9)), (6, .int (nI (smt (sid kd) N o1 sd1)))]) [1, 2, 3, 4, 5, 6, 0] rfl ?_
          refine V.eq (σ2 := (mW G σ m0 [xstates, xtyped, xat, xreason, xdone, nI kd, nI N, nI sr] [fs, fwas, fbegun, faside, ftext, f, g, fnext, ffar, fthen, fqueue, frankAt, fturnAt])) (lv2 := [(0, .ref m0), (1, .int (nI k)), (2, .int (nI w)), (3, .int (nI t)), (4, .int (nI wk)), (5, .int (bI b9)), (6, .int (nI (smt (sid kd) N o1 sd1)))]) (st2 := [.int (bI false)]) rfl rfl rfl (by rw [(show nI 0 = bI false from rfl)]) ?_
          exact L65 false (by first | (rw [cz48, cz57]; rfl) | (rw [cz48]; rfl))
        · refine r_aload_n C dX7_simple_51 rfl 1 rfl ?_
          refine r_iload C dX7_simple_52 0 rfl ?_
          refine r_callV (As := [.int (nI (smt (sid kd) N o1 sd1))]) C (c_X7_can (kd := kd) (N := N) (o := o1) (sd := sd1) (sr := sr) (k := smt (sid kd) N o1 sd1) (hv1.1.N) (hv1.1.2.1) (hv1.2.1) (hf) (hg) (hv1.1.1) (hv1.1.sr) (hsm.1.1) (hsm.1.2)) wM_X7_112 wI_X7_can wN_X7 wC_X7_can wV_X7_can hd_X7_can ⟨Nat.le_of_ble_eq_true rfl, Nat.le_of_ble_eq_true rfl⟩ rfl (mW_o _ _ _ _ _) rfl rfl (Nat.le_of_ble_eq_true rfl) dX7_simple_54 ⟨Nat.le_of_ble_eq_true rfl, Nat.le_of_ble_eq_true rfl⟩ (fun rv n2 σ2 hp => ?_)
          obtain ⟨rfl, rfl, rfl⟩ := hp
          refine V.eq (σ2 := (mW G σ m0 [xstates, xtyped, xat, xreason, xdone, nI kd, nI N, nI sr] [fs, fwas, fbegun, faside, ftext, f, g, fnext, ffar, fthen, fqueue, frankAt, fturnAt])) (n2 := n) (st2 := [.int (bI (al kd sr N o1 sd1 (smt (sid kd) N o1 sd1)))]) rfl rfl rfl rfl ?_
          refine r_if_eqB (tgt := 64) C dX7_simple_57 (by decide) (fun cz57 => ?_) (fun cz57 => ?_)
          · refine r_iconst (v := nI 0) C dX7_simple_64 (by decide) ?_
            refine V.sub (lv2 := [(0, .ref m0), (1, .int (nI k)), (2, .int (nI w)), (3, .int (nI t)), (4, .int (nI wk)), (5, .int (bI b9)), (6, .int (nI (smt (sid kd) N o1 sd1)))]) [1, 2, 3, 4, 5, 6, 0] rfl ?_
            refine V.eq (σ2 := (mW G σ m0 [xstates, xtyped, xat, xreason, xdone, nI kd, nI N, nI sr] [fs, fwas, fbegun, faside, ftext, f, g, fnext, ffar, fthen, fqueue, frankAt, fturnAt])) (lv2 := [(0, .ref m0), (1, .int (nI k)), (2, .int (nI w)), (3, .int (nI t)), (4, .int (nI wk)), (5, .int (bI b9)), (6, .int (nI (smt (sid kd) N o1 sd1)))]) (st2 := [.int (bI false)]) rfl rfl rfl (by rw [(show nI 0 = bI false from rfl)]) ?_
            exact L65 false (by first | (rw [cz48, cz57]; rfl) | (rw [cz48]; rfl))
          · refine r_iconst (v := nI 1) C dX7_simple_60 (by decide) ?_
            refine r_goto (tgt := 65) C dX7_simple_61 (by decide) ?_
            refine V.sub (lv2 := [(0, .ref m0), (1, .int (nI k)), (2, .int (nI w)), (3, .int (nI t)), (4, .int (nI wk)), (5, .int (bI b9)), (6, .int (nI (smt (sid kd) N o1 sd1)))]) [1, 2, 3, 4, 5, 6, 0] rfl ?_
            refine V.eq (σ2 := (mW G σ m0 [xstates, xtyped, xat, xreason, xdone, nI kd, nI N, nI sr] [fs, fwas, fbegun, faside, ftext, f, g, fnext, ffar, fthen, fqueue, frankAt, fturnAt])) (lv2 := [(0, .ref m0), (1, .int (nI k)), (2, .int (nI w)), (3, .int (nI t)), (4, .int (nI wk)), (5, .int (bI b9)), (6, .int (nI (smt (sid kd) N o1 sd1)))]) (st2 := [.int (bI true)]) rfl rfl rfl (by rw [(show nI 1 = bI true from rfl)]) ?_
            exact L65 true (by first | (rw [cz48, cz57]; rfl) | (rw [cz48]; rfl))
  refine V.sub (lv2 := [(0, .ref m0), (1, .int (nI k)), (2, .int (nI w)), (3, .int (nI 0)), (4, .int (nI 0)), (5, .int (nI 1))]) [3, 4, 5, 2, 1, 0] rfl ?_
  refine V.eq (σ2 := (mW G σ m0 [xstates, xtyped, xat, xreason, xdone, nI kd, nI N, nI sr] [fs, fwas, fbegun, faside, ftext, fL, gL, fnext, ffar, fthen, fqueue, frankAt, fturnAt])) (lv2 := [(0, .ref m0), (1, .int (nI k)), (2, .int (nI w)), (3, .int (nI 0)), (4, .int (nI 0)), (5, .int (bI true))]) (st2 := []) rfl rfl (by rw [(show nI 1 = bI true from rfl)]) rfl ?_
  exact L33 _ o sd 22 0 0 true fL gL (hv) (hzL) (hbL) (enough_22 hv) (by omega) (by omega) (Bool.true_and _) (Nat.lt_succ_self _)

abbrev rm_X7_bestTurn_y : Room := { frames := 3, cells := 0, slots := 0, locals := 65 }
set_option maxRecDepth 100000 in
set_option maxHeartbeats 4000000 in
theorem c_X7_bestTurn_y {l : Launch} {G : gG} {n : Nat} {σ : gS} {m0 : Nat} {xstates xtyped xat xreason xdone xkind xn xstrength : Int32} {fs fwas fbegun faside ftext fsize fburnt fnext ffar fthen fqueue frankAt fturnAt : Nat → Int32} {ns k kd N sr o sd : Nat} (hns : fs 0 = nI ns) (hns5 : ns ≤ 5) (hkn : k < ns) (hst : StkAt fs k kd N sr o sd) (hv : Vld kd N sr o sd) : GM l G yX7_bestTurn cX7_bestTurn 7 (some .int) rm_X7_bestTurn_y n (mW G σ m0 [xstates, xtyped, xat, xreason, xdone, xkind, xn, xstrength] [fs, fwas, fbegun, faside, ftext, fsize, fburnt, fnext, ffar, fthen, fqueue, frankAt, fturnAt]) [.ref m0, .int (nI k)] (fun rv n2 σ2 => some (.int (fnd (bst kd N sr o sd N).1)) = rv ∧ n = n2 ∧ ∃ (f2 : Nat → Int32) (g2 : Nat → Int32), (mW G σ m0 [xstates, xtyped, xat, xreason, xdone, nI kd, nI N, nI sr] [fs, fwas, fbegun, faside, ftext, f2, g2, fnext, ffar, fthen, fqueue, frankAt, fturnAt]) = σ2) := by
  refine GM.intro (by decide +kernel) (Nat.le_of_ble_eq_true rfl) (fun p e s m args below meth c C hr hlocks hname po hpo => ?_)
  have C : Cx p s m args c cX7_bestTurn 7 RX7 G := C
  have hk : k < 5 := by omega
  have hN6 := hv.1.N
  have hN1 := hv.1.2.1
  refine r_aload_n C dX7_bestTurn_0 rfl 0 rfl ?_
  refine r_iload_n C dX7_bestTurn_1 rfl 1 rfl ?_
  refine r_callV (As := [.int (nI k)]) C (c_X7_isStack (x := nI k) (ns := ns) (by first | assumption | omega)) wM_X7_98 wI_X7_isStack wN_X7 wC_X7_isStack wV_X7_isStack hd_X7_isStack ⟨Nat.le_of_ble_eq_true rfl, Nat.le_of_ble_eq_true rfl⟩ rfl (mW_o _ _ _ _ _) rfl rfl (Nat.le_of_ble_eq_true rfl) dX7_bestTurn_2 ⟨Nat.le_of_ble_eq_true rfl, Nat.le_of_ble_eq_true rfl⟩ (fun rv n2 σ2 hp => ?_)
  obtain ⟨rfl, rfl, rfl⟩ := hp
  refine V.eq (σ2 := (mW G σ m0 [xstates, xtyped, xat, xreason, xdone, xkind, xn, xstrength] [fs, fwas, fbegun, faside, ftext, fsize, fburnt, fnext, ffar, fthen, fqueue, frankAt, fturnAt])) (n2 := n) (st2 := [.int (bI (isS (nI k) ns))]) rfl rfl rfl rfl ?_
  refine V.top (y := bI true) (congrArg bI (isS_t ns (by omega) k hkn)) ?_
  refine r_if_neB (tgt := 11) C dX7_bestTurn_5 (by decide) (fun _ => ?_) (fun z => absurd z (by decide))
  refine r_aload_n C dX7_bestTurn_11 rfl 0 rfl ?_
  refine r_iload_n C dX7_bestTurn_12 rfl 1 rfl ?_
  refine r_callV (As := [.int (nI k)]) C (c_X7_looks (k := k) (kd := kd) (N := N) (sr := sr) (o := o) (sd := sd) (by first | assumption | omega) (by first | assumption | omega) (by first | assumption | omega)) wM_X7_105 wI_X7_looks wN_X7 wC_X7_looks wV_X7_looks hd_X7_looks ⟨Nat.le_of_ble_eq_true rfl, Nat.le_of_ble_eq_true rfl⟩ rfl (mW_o _ _ _ _ _) rfl rfl (Nat.le_of_ble_eq_true rfl) dX7_bestTurn_13 ⟨Nat.le_of_ble_eq_true rfl, Nat.le_of_ble_eq_true rfl⟩ (fun rv n2 σ2 hp => ?_)
  obtain ⟨rfl, rfl, fL, gL, rfl, hzL, hbL⟩ := hp
  refine V.eq (σ2 := (mW G σ m0 [xstates, xtyped, xat, xreason, xdone, nI kd, nI N, nI sr] [fs, fwas, fbegun, faside, ftext, fL, gL, fnext, ffar, fthen, fqueue, frankAt, fturnAt])) (n2 := n) (st2 := []) rfl rfl rfl rfl ?_
  refine r_ldc C wQ_X7_149 dX7_bestTurn_16 ?_
  refine r_istore_n (lv2 := [(2, .int (-1000004)), (0, .ref m0), (1, .int (nI k))]) C dX7_bestTurn_18 rfl (by decide) rfl ?_
  refine r_bipush (v := nI 9) C dX7_bestTurn_19 (by decide) ?_
  refine r_istore_n (lv2 := [(3, .int (nI 9)), (2, .int (-1000004)), (0, .ref m0), (1, .int (nI k))]) C dX7_bestTurn_21 rfl (by decide) rfl ?_
  refine r_iconst (v := nI 1) C dX7_bestTurn_22 (by decide) ?_
  refine r_istore (lv2 := [(4, .int (nI 1)), (3, .int (nI 9)), (2, .int (-1000004)), (0, .ref m0), (1, .int (nI k))]) C dX7_bestTurn_23 (by decide) rfl ?_
  have L25 : ∀ (fu : Nat) (i : Nat) (f : Nat → Int32) (g : Nat → Int32), (i ≤ N) → (∀ j, j < N → f j = nI (sz N o j)) → (∀ j, j < N → g j = nI (bt sd j)) → (N + 1 - i) < fu → V p l e rm_X7_bestTurn_y s m args below meth c G 7 (MQ below (gQ G po) args s rm_X7_bestTurn_y.cells rm_X7_bestTurn_y.slots (gF G)) 0 0 n (mW G σ m0 [xstates, xtyped, xat, xreason, xdone, nI kd, nI N, nI sr] [fs, fwas, fbegun, faside, ftext, f, g, fnext, ffar, fthen, fqueue, frankAt, fturnAt]) 25 [(0, .ref m0), (1, .int (nI k)), (2, .int (fnd (bst kd N sr o sd i).1)), (3, .int (nI ((bst kd N sr o sd i).2))), (4, .int (nI (i + 1)))] [] := by
    intro fu
    induction fu with
    | zero => intro i f g hi hf hg hm; exact absurd hm (Nat.not_lt_zero _)
    | succ fu ih25 =>
      intro i f g hi hf hg hm25
      refine r_iload C dX7_bestTurn_25 4 rfl ?_
      refine r_aload_n C dX7_bestTurn_27 rfl 0 rfl ?_
      refine rm_get (v := .int (nI N)) C 11 (by decide) wF_X7_59 rfl dX7_bestTurn_28 ?_
      refine r_icmp_gtN (tgt := 102) C dX7_bestTurn_31 (by decide) (by omega) (by omega) (fun cz31 => ?_) (fun cz31 => ?_)
      · have hiN : i = N := by omega
        refine r_iload_n C dX7_bestTurn_102 rfl 2 rfl ?_
        exact r_iret C hr hlocks (Nat.le_of_ble_eq_true rfl) (Nat.le_of_ble_eq_true rfl) dX7_bestTurn_103 (hpo _ _ _ ⟨by rw [hiN], rfl, f, g, rfl⟩)
      · refine r_aload_n C dX7_bestTurn_34 rfl 0 rfl ?_
        refine r_iload C dX7_bestTurn_35 4 rfl ?_
        refine r_callV (As := [.int (nI (i + 1))]) C (c_X7_can (kd := kd) (N := N) (o := o) (sd := sd) (sr := sr) (k := i + 1) (hv.1.N) (hv.1.2.1) (hv.2.1) (hf) (hg) (hv.1.1) (hv.1.sr) (by omega) (by omega)) wM_X7_112 wI_X7_can wN_X7 wC_X7_can wV_X7_can hd_X7_can ⟨Nat.le_of_ble_eq_true rfl, Nat.le_of_ble_eq_true rfl⟩ rfl (mW_o _ _ _ _ _) rfl rfl (Nat.le_of_ble_eq_true rfl) dX7_bestTurn_37 ⟨Nat.le_of_ble_eq_true rfl, Nat.le_of_ble_eq_true rfl⟩ (fun rv n2 σ2 hp => ?_)
        obtain ⟨rfl, rfl, rfl⟩ := hp
        refine V.eq (σ2 := (mW G σ m0 [xstates, xtyped, xat, xreason, xdone, nI kd, nI N, nI sr] [fs, fwas, fbegun, faside, ftext, f, g, fnext, ffar, fthen, fqueue, frankAt, fturnAt])) (n2 := n) (st2 := [.int (bI (al kd sr N o sd (i + 1)))]) rfl rfl rfl rfl ?_
        refine r_istore (lv2 := [(5, .int (bI (al kd sr N o sd (i + 1)))), (0, .ref m0), (1, .int (nI k)), (2, .int (fnd (bst kd N sr o sd i).1)), (3, .int (nI ((bst kd N sr o sd i).2))), (4, .int (nI (i + 1)))]) C dX7_bestTurn_40 (by decide) rfl ?_
        refine r_aload_n C dX7_bestTurn_42 rfl 1 rfl ?_
        refine r_iload C dX7_bestTurn_43 5 rfl ?_
        refine r_callV (As := [.int (nI (i + 1))]) C (c_X7_turns (kd := kd) (N := N) (o := o) (sd := sd) (k := i + 1) (hv.1.N) (hv.1.2.1) (hv.2.1) (hf) (hg) (hv.1.1) (hv.2.2) (by omega) (by omega)) wM_X7_116 wI_X7_turns wN_X7 wC_X7_turns wV_X7_turns hd_X7_turns ⟨Nat.le_of_ble_eq_true rfl, Nat.le_of_ble_eq_true rfl⟩ rfl (mW_o _ _ _ _ _) rfl rfl (Nat.le_of_ble_eq_true rfl) dX7_bestTurn_45 ⟨Nat.le_of_ble_eq_true rfl, Nat.le_of_ble_eq_true rfl⟩ (fun rv n2 σ2 hp => ?_)
        obtain ⟨rfl, rfl, fT, gT, rfl, hzT, hbT⟩ := hp
        refine V.eq (σ2 := (mW G σ m0 [xstates, xtyped, xat, xreason, xdone, nI kd, nI N, nI sr] [fs, fwas, fbegun, faside, ftext, fT, gT, fnext, ffar, fthen, fqueue, frankAt, fturnAt])) (n2 := n) (st2 := []) rfl rfl rfl rfl ?_
        refine r_iload C dX7_bestTurn_48 0 rfl ?_
        have L62 : ∀ (v9 : Nat), (v9 = bv kd N sr o sd (i + 1)) → V p l e rm_X7_bestTurn_y s m args below meth c G 7 (MQ below (gQ G po) args s rm_X7_bestTurn_y.cells rm_X7_bestTurn_y.slots (gF G)) 0 0 n (mW G σ m0 [xstates, xtyped, xat, xreason, xdone, nI kd, nI N, nI sr] [fs, fwas, fbegun, faside, ftext, fT, gT, fnext, ffar, fthen, fqueue, frankAt, fturnAt]) 62 [(0, .ref m0), (1, .int (nI k)), (2, .int (fnd (bst kd N sr o sd i).1)), (3, .int (nI ((bst kd N sr o sd i).2))), (4, .int (nI (i + 1))), (5, .int (bI (al kd sr N o sd (i + 1))))] [.int (nI v9)] := by
          intro v9 hv9
          refine r_istore (lv2 := [(6, .int (nI v9)), (0, .ref m0), (1, .int (nI k)), (2, .int (fnd (bst kd N sr o sd i).1)), (3, .int (nI ((bst kd N sr o sd i).2))), (4, .int (nI (i + 1))), (5, .int (bI (al kd sr N o sd (i + 1))))]) C dX7_bestTurn_62 (by decide) rfl ?_
          refine r_aload_n C dX7_bestTurn_64 rfl 1 rfl ?_
          refine r_iload C dX7_bestTurn_65 5 rfl ?_
          refine r_callV (As := [.int (nI (i + 1))]) C (c_X7_turns (kd := kd) (N := N) (o := tnO N o (i + 1)) (sd := tnS (sid kd) sd (i + 1)) (k := i + 1) (hv.1.N) (hv.1.2.1) (tnO_lt hv.1.N hv.2.1 (by omega)) (hzT) (hbT) (hv.1.1) (tnS_lt hv.1.N hv.2.2 (by omega)) (by omega) (by omega)) wM_X7_116 wI_X7_turns wN_X7 wC_X7_turns wV_X7_turns hd_X7_turns ⟨Nat.le_of_ble_eq_true rfl, Nat.le_of_ble_eq_true rfl⟩ rfl (mW_o _ _ _ _ _) rfl rfl (Nat.le_of_ble_eq_true rfl) dX7_bestTurn_67 ⟨Nat.le_of_ble_eq_true rfl, Nat.le_of_ble_eq_true rfl⟩ (fun rv n2 σ2 hp => ?_)
          obtain ⟨rfl, rfl, fU, gU, rfl, hzU, hbU⟩ := hp
          refine V.eq (σ2 := (mW G σ m0 [xstates, xtyped, xat, xreason, xdone, nI kd, nI N, nI sr] [fs, fwas, fbegun, faside, ftext, fU, gU, fnext, ffar, fthen, fqueue, frankAt, fturnAt])) (n2 := n) (st2 := []) rfl rfl rfl rfl ?_
          refine r_iload C dX7_bestTurn_70 0 rfl ?_
          have hb9 := bst_le kd N sr o sd i
          have hg9 := gp_lt (sid kd) hN6 (tnO N o (i + 1)) (tnS (sid kd) sd (i + 1))
          have hv31 : v9 < 2 ^ 31 := by rw [hv9]; unfold bv; split <;> omega
          refine r_iload_n C dX7_bestTurn_72 rfl 4 rfl ?_
          have L82 : ∀ (fd : Int32), (fd = fnd (bst kd N sr o sd (i + 1)).1) → V p l e rm_X7_bestTurn_y s m args below meth c G 7 (MQ below (gQ G po) args s rm_X7_bestTurn_y.cells rm_X7_bestTurn_y.slots (gF G)) 0 0 n (mW G σ m0 [xstates, xtyped, xat, xreason, xdone, nI kd, nI N, nI sr] [fs, fwas, fbegun, faside, ftext, fU, gU, fnext, ffar, fthen, fqueue, frankAt, fturnAt]) 82 [(0, .ref m0), (1, .int (nI k)), (2, .int (fnd (bst kd N sr o sd i).1)), (3, .int (nI ((bst kd N sr o sd i).2))), (4, .int (nI (i + 1))), (5, .int (bI (al kd sr N o sd (i + 1)))), (6, .int (nI v9))] [.int fd] := by
            intro fd hfd
            refine r_istore_n (lv2 := [(2, .int fd), (0, .ref m0), (1, .int (nI k)), (3, .int (nI ((bst kd N sr o sd i).2))), (4, .int (nI (i + 1))), (5, .int (bI (al kd sr N o sd (i + 1)))), (6, .int (nI v9))]) C dX7_bestTurn_82 rfl (by decide) rfl ?_
            refine r_iload C dX7_bestTurn_83 6 rfl ?_
            refine r_iload_n C dX7_bestTurn_85 rfl 3 rfl ?_
            have L95 : ∀ (fw : Nat), (fw = (bst kd N sr o sd (i + 1)).2) → V p l e rm_X7_bestTurn_y s m args below meth c G 7 (MQ below (gQ G po) args s rm_X7_bestTurn_y.cells rm_X7_bestTurn_y.slots (gF G)) 0 0 n (mW G σ m0 [xstates, xtyped, xat, xreason, xdone, nI kd, nI N, nI sr] [fs, fwas, fbegun, faside, ftext, fU, gU, fnext, ffar, fthen, fqueue, frankAt, fturnAt]) 95 [(0, .ref m0), (1, .int (nI k)), (2, .int fd), (3, .int (nI ((bst kd N sr o sd i).2))), (4, .int (nI (i + 1))), (5, .int (bI (al kd sr N o sd (i + 1)))), (6, .int (nI v9))] [.int (nI fw)] := by
              intro fw hfw
              refine r_istore_n (lv2 := [(3, .int (nI fw)), (0, .ref m0), (1, .int (nI k)), (2, .int fd), (4, .int (nI (i + 1))), (5, .int (bI (al kd sr N o sd (i + 1)))), (6, .int (nI v9))]) C dX7_bestTurn_95 rfl (by decide) rfl ?_
              refine r_iinc (v := nI (i + 2)) (lv2 := [(4, .int (nI (i + 2))), (3, .int (nI fw)), (0, .ref m0), (1, .int (nI k)), (2, .int fd), (5, .int (bI (al kd sr N o sd (i + 1)))), (6, .int (nI v9))]) C dX7_bestTurn_96 (k := 4) rfl (nI_add _ 1) (by decide) rfl ?_
              refine r_goto (tgt := 25) C dX7_bestTurn_99 (by decide) ?_
              refine V.sub (lv2 := [(0, .ref m0), (1, .int (nI k)), (2, .int fd), (3, .int (nI fw)), (4, .int (nI (i + 2)))]) [2, 3, 4, 1, 0] rfl ?_
              refine V.eq (σ2 := (mW G σ m0 [xstates, xtyped, xat, xreason, xdone, nI kd, nI N, nI sr] [fs, fwas, fbegun, faside, ftext, fU, gU, fnext, ffar, fthen, fqueue, frankAt, fturnAt])) (lv2 := [(0, .ref m0), (1, .int (nI k)), (2, .int (fnd (bst kd N sr o sd (i + 1)).1)), (3, .int (nI ((bst kd N sr o sd (i + 1)).2))), (4, .int (nI ((i + 1) + 1)))]) (st2 := []) rfl rfl (by rw [(show fd = fnd (bst kd N sr o sd (i + 1)).1 from hfd), (show nI fw = nI ((bst kd N sr o sd (i + 1)).2) from congrArg nI hfw), (show nI (i + 2) = nI ((i + 1) + 1) from congrArg nI (show i + 2 = (i + 1) + 1 by omega))]) rfl ?_
              exact ih25 (i + 1) fU gU (by omega) (fun j hj => by rw [hzU j hj, tnO_in hN6 hv.2.1 (by omega)]) (fun j hj => by rw [hbU j hj, tnS_in hN6 hv.2.2 (by omega)]) (by omega)
            refine r_icmp_geN (tgt := 94) C dX7_bestTurn_86 (by decide) (by omega) (by omega) (fun cz86 => ?_) (fun cz86 => ?_)
            · refine r_iload_n C dX7_bestTurn_94 rfl 3 rfl ?_
              refine V.sub (lv2 := [(0, .ref m0), (1, .int (nI k)), (2, .int fd), (3, .int (nI ((bst kd N sr o sd i).2))), (4, .int (nI (i + 1))), (5, .int (bI (al kd sr N o sd (i + 1)))), (6, .int (nI v9))]) [1, 2, 0, 3, 4, 5, 6] rfl ?_
              exact L95 ((bst kd N sr o sd i).2) (by first | (rw [bst, ← hv9, if_pos cz86]; done) | (rw [bst, ← hv9, if_neg (Nat.not_lt.mpr cz86)]))
            · refine r_iload C dX7_bestTurn_89 6 rfl ?_
              refine r_goto (tgt := 95) C dX7_bestTurn_91 (by decide) ?_
              refine V.sub (lv2 := [(0, .ref m0), (1, .int (nI k)), (2, .int fd), (3, .int (nI ((bst kd N sr o sd i).2))), (4, .int (nI (i + 1))), (5, .int (bI (al kd sr N o sd (i + 1)))), (6, .int (nI v9))]) [1, 2, 0, 3, 4, 5, 6] rfl ?_
              exact L95 v9 (by first | (rw [bst, ← hv9, if_pos cz86]; done) | (rw [bst, ← hv9, if_neg (Nat.not_lt.mpr cz86)]))
          refine r_icmp_geN (tgt := 81) C dX7_bestTurn_73 (by decide) (by omega) (by omega) (fun cz73 => ?_) (fun cz73 => ?_)
          · refine r_iload_n C dX7_bestTurn_81 rfl 3 rfl ?_
            refine V.sub (lv2 := [(0, .ref m0), (1, .int (nI k)), (2, .int (fnd (bst kd N sr o sd i).1)), (3, .int (nI ((bst kd N sr o sd i).2))), (4, .int (nI (i + 1))), (5, .int (bI (al kd sr N o sd (i + 1)))), (6, .int (nI v9))]) [1, 2, 3, 4, 5, 6, 0] rfl ?_
            exact L82 (fnd (bst kd N sr o sd i).1) (by first | (rw [bst, ← hv9, if_pos cz73]; rfl) | (rw [bst, ← hv9, if_neg (Nat.not_lt.mpr cz73)]))
          · refine r_iload C dX7_bestTurn_76 5 rfl ?_
            refine r_goto (tgt := 82) C dX7_bestTurn_78 (by decide) ?_
            refine V.sub (lv2 := [(0, .ref m0), (1, .int (nI k)), (2, .int (fnd (bst kd N sr o sd i).1)), (3, .int (nI ((bst kd N sr o sd i).2))), (4, .int (nI (i + 1))), (5, .int (bI (al kd sr N o sd (i + 1)))), (6, .int (nI v9))]) [1, 2, 3, 4, 5, 6, 0] rfl ?_
            exact L82 (nI (i + 1)) (by first | (rw [bst, ← hv9, if_pos cz73]; rfl) | (rw [bst, ← hv9, if_neg (Nat.not_lt.mpr cz73)]))
        refine r_if_eqB (tgt := 60) C dX7_bestTurn_50 (by decide) (fun cz50 => ?_) (fun cz50 => ?_)
        · refine r_bipush (v := nI 9) C dX7_bestTurn_60 (by decide) ?_
          refine V.sub (lv2 := [(0, .ref m0), (1, .int (nI k)), (2, .int (fnd (bst kd N sr o sd i).1)), (3, .int (nI ((bst kd N sr o sd i).2))), (4, .int (nI (i + 1))), (5, .int (bI (al kd sr N o sd (i + 1))))]) [1, 2, 3, 4, 5, 0] rfl ?_
          exact L62 9 (by simp [bv, cz50])
        · refine r_aload_n C dX7_bestTurn_53 rfl 1 rfl ?_
          refine r_callV (As := []) C (c_X7_gaps (kd := kd) (N := N) (o := tnO N o (i + 1)) (sd := tnS (sid kd) sd (i + 1)) (hv.1.N) (hv.1.2.1) (tnO_lt hv.1.N hv.2.1 (by omega)) (hzT) (hbT) (hv.1.1)) wM_X7_109 wI_X7_gaps wN_X7 wC_X7_gaps wV_X7_gaps hd_X7_gaps ⟨Nat.le_of_ble_eq_true rfl, Nat.le_of_ble_eq_true rfl⟩ rfl (mW_o _ _ _ _ _) rfl rfl (Nat.le_of_ble_eq_true rfl) dX7_bestTurn_54 ⟨Nat.le_of_ble_eq_true rfl, Nat.le_of_ble_eq_true rfl⟩ (fun rv n2 σ2 hp => ?_)
          obtain ⟨rfl, rfl, rfl⟩ := hp
          refine V.eq (σ2 := (mW G σ m0 [xstates, xtyped, xat, xreason, xdone, nI kd, nI N, nI sr] [fs, fwas, fbegun, faside, ftext, fT, gT, fnext, ffar, fthen, fqueue, frankAt, fturnAt])) (n2 := n) (st2 := [.int (nI (gp (sid kd) N (tnO N o (i + 1)) (tnS (sid kd) sd (i + 1))))]) rfl rfl rfl rfl ?_
          refine r_goto (tgt := 62) C dX7_bestTurn_57 (by decide) ?_
          refine V.sub (lv2 := [(0, .ref m0), (1, .int (nI k)), (2, .int (fnd (bst kd N sr o sd i).1)), (3, .int (nI ((bst kd N sr o sd i).2))), (4, .int (nI (i + 1))), (5, .int (bI (al kd sr N o sd (i + 1))))]) [1, 2, 3, 4, 5, 0] rfl ?_
          exact L62 (gp (sid kd) N (tnO N o (i + 1)) (tnS (sid kd) sd (i + 1))) (by simp [bv, cz50])
  refine V.sub (lv2 := [(0, .ref m0), (1, .int (nI k)), (2, .int (-1000004)), (3, .int (nI 9)), (4, .int (nI 1))]) [3, 4, 2, 1, 0] rfl ?_
  refine V.eq (σ2 := (mW G σ m0 [xstates, xtyped, xat, xreason, xdone, nI kd, nI N, nI sr] [fs, fwas, fbegun, faside, ftext, fL, gL, fnext, ffar, fthen, fqueue, frankAt, fturnAt])) (lv2 := [(0, .ref m0), (1, .int (nI k)), (2, .int (fnd (bst kd N sr o sd 0).1)), (3, .int (nI ((bst kd N sr o sd 0).2))), (4, .int (nI (0 + 1)))]) (st2 := []) rfl rfl (by rw [(show (-1000004) = fnd (bst kd N sr o sd 0).1 from rfl), (show nI 9 = nI ((bst kd N sr o sd 0).2) from rfl), (show nI 1 = nI (0 + 1) from congrArg nI (show 1 = 0 + 1 by omega))]) rfl ?_
  exact L25 _ 0 fL gL (by omega) (hzL) (hbL) (Nat.lt_succ_self _)

abbrev rm_X7_ofAll : Room := { frames := 3, cells := 0, slots := 0, locals := 64 }
set_option maxRecDepth 100000 in
set_option maxHeartbeats 4000000 in
theorem c_X7_ofAll {l : Launch} {G : gG} {n : Nat} {σ : gS} {m0 : Nat} {xstates xtyped xat xreason xdone xkind xn xstrength : Int32} {fs fwas fbegun faside ftext fsize fburnt fnext ffar fthen fqueue frankAt fturnAt : Nat → Int32} {a : AK} {w : Nat} (hM : MR fs a) (hA : AOK a) (hw : 1 ≤ w ∧ w ≤ 2) : GM l G yX7_ofAll cX7_ofAll 4 (some .int) rm_X7_ofAll n (mW G σ m0 [xstates, xtyped, xat, xreason, xdone, xkind, xn, xstrength] [fs, fwas, fbegun, faside, ftext, fsize, fburnt, fnext, ffar, fthen, fqueue, frankAt, fturnAt]) [.ref m0, .int (nI w)] (fun rv n2 σ2 => some (.int (nI (ofa a w (aN a)))) = rv ∧ n = n2 ∧ ∃ (k2 : Int32) (n3 : Int32) (r2 : Int32) (f2 : Nat → Int32) (g2 : Nat → Int32), (mW G σ m0 [xstates, xtyped, xat, xreason, xdone, k2, n3, r2] [fs, fwas, fbegun, faside, ftext, f2, g2, fnext, ffar, fthen, fqueue, frankAt, fturnAt]) = σ2) := by
  refine GM.intro (by decide +kernel) (Nat.le_of_ble_eq_true rfl) (fun p e s m args below meth c C hr hlocks hname po hpo => ?_)
  have C : Cx p s m args c cX7_ofAll 4 RX7 G := C
  have hA1 := hA.1
  refine r_iconst (v := nI 0) C dX7_ofAll_0 (by decide) ?_
  refine r_istore_n (lv2 := [(2, .int (nI 0)), (0, .ref m0), (1, .int (nI w))]) C dX7_ofAll_1 rfl (by decide) rfl ?_
  refine r_iconst (v := nI 0) C dX7_ofAll_2 (by decide) ?_
  refine r_istore_n (lv2 := [(3, .int (nI 0)), (2, .int (nI 0)), (0, .ref m0), (1, .int (nI w))]) C dX7_ofAll_3 rfl (by decide) rfl ?_
  have L4 : ∀ (fu : Nat) (i : Nat) (k1 : Int32) (n1 : Int32) (r1 : Int32) (f : Nat → Int32) (g : Nat → Int32), (i ≤ aN a) → (aN a + 1 - i) < fu → V p l e rm_X7_ofAll s m args below meth c G 4 (MQ below (gQ G po) args s rm_X7_ofAll.cells rm_X7_ofAll.slots (gF G)) 0 0 n (mW G σ m0 [xstates, xtyped, xat, xreason, xdone, k1, n1, r1] [fs, fwas, fbegun, faside, ftext, f, g, fnext, ffar, fthen, fqueue, frankAt, fturnAt]) 4 [(0, .ref m0), (1, .int (nI w)), (2, .int (nI (ofa a w i))), (3, .int (nI i))] [] := by
    intro fu
    induction fu with
    | zero => intro i k1 n1 r1 f g hi hm; exact absurd hm (Nat.not_lt_zero _)
    | succ fu ih4 =>
      intro i k1 n1 r1 f g hi hm4
      refine r_iload_n C dX7_ofAll_4 rfl 3 rfl ?_
      refine r_aload_n C dX7_ofAll_5 rfl 0 rfl ?_
      refine rm_get (v := .ref (m0 + 1)) C 0 (by decide) wF_X7_7 rfl dX7_ofAll_6 ?_
      refine r_iconst (v := nI 0) C dX7_ofAll_9 (by decide) ?_
      refine rm_ald (f := fs) (len := 38) C 0 rfl rfl (by decide) (by decide) dX7_ofAll_10 ?_
      refine V.top (y := nI (aN a)) (hM.1) ?_
      refine r_icmp_geN (tgt := 52) C dX7_ofAll_11 (by decide) (by omega) (by omega) (fun cz11 => ?_) (fun cz11 => ?_)
      · have hiN : i = aN a := by omega
        refine r_iload_n C dX7_ofAll_52 rfl 2 rfl ?_
        exact r_iret C hr hlocks (Nat.le_of_ble_eq_true rfl) (Nat.le_of_ble_eq_true rfl) dX7_ofAll_53 (hpo _ _ _ ⟨by rw [hiN], rfl, k1, n1, r1, f, g, rfl⟩)
      · refine r_aload_n C dX7_ofAll_14 rfl 0 rfl ?_
        refine r_iload_n C dX7_ofAll_15 rfl 3 rfl ?_
        refine r_callV (As := [.int (nI i)]) C (c_X7_looks (k := i) (kd := aKd a i) (N := aCk a i) (sr := aSr a i) (o := aO a i) (sd := aSd a i) (by have := hA.1; omega) ((hM.2.2.2.2 i cz11).1) (hA.2.2 i cz11)) wM_X7_105 wI_X7_looks wN_X7 wC_X7_looks wV_X7_looks hd_X7_looks ⟨Nat.le_of_ble_eq_true rfl, Nat.le_of_ble_eq_true rfl⟩ rfl (mW_o _ _ _ _ _) rfl rfl (Nat.le_of_ble_eq_true rfl) dX7_ofAll_16 ⟨Nat.le_of_ble_eq_true rfl, Nat.le_of_ble_eq_true rfl⟩ (fun rv n2 σ2 hp => ?_)
        obtain ⟨rfl, rfl, fL, gL, rfl, hzL, hbL⟩ := hp
        refine V.eq (σ2 := (mW G σ m0 [xstates, xtyped, xat, xreason, xdone, nI (aKd a i), nI (aCk a i), nI (aSr a i)] [fs, fwas, fbegun, faside, ftext, fL, gL, fnext, ffar, fthen, fqueue, frankAt, fturnAt])) (n2 := n) (st2 := []) rfl rfl rfl rfl ?_
        refine r_iload_n C dX7_ofAll_19 rfl 2 rfl ?_
        refine r_iload_n C dX7_ofAll_20 rfl 1 rfl ?_
        refine r_iconst (v := nI 1) C dX7_ofAll_21 (by decide) ?_
        refine r_icmp_neN (tgt := 40) C dX7_ofAll_22 (by decide) (by omega) (by decide) (fun cz22 => ?_) (fun cz22 => ?_)
        · refine r_aload_n C dX7_ofAll_40 rfl 0 rfl ?_
          refine r_callV (As := []) C (c_X7_gaps (kd := aKd a i) (N := aCk a i) (o := aO a i) (sd := aSd a i) ((hA.2.2 i cz11).1.N) ((hA.2.2 i cz11).1.2.1) ((hA.2.2 i cz11).2.1) (hzL) (hbL) ((hA.2.2 i cz11).1.1)) wM_X7_109 wI_X7_gaps wN_X7 wC_X7_gaps wV_X7_gaps hd_X7_gaps ⟨Nat.le_of_ble_eq_true rfl, Nat.le_of_ble_eq_true rfl⟩ rfl (mW_o _ _ _ _ _) rfl rfl (Nat.le_of_ble_eq_true rfl) dX7_ofAll_41 ⟨Nat.le_of_ble_eq_true rfl, Nat.le_of_ble_eq_true rfl⟩ (fun rv n2 σ2 hp => ?_)
          obtain ⟨rfl, rfl, rfl⟩ := hp
          refine V.eq (σ2 := (mW G σ m0 [xstates, xtyped, xat, xreason, xdone, nI (aKd a i), nI (aCk a i), nI (aSr a i)] [fs, fwas, fbegun, faside, ftext, fL, gL, fnext, ffar, fthen, fqueue, frankAt, fturnAt])) (n2 := n) (st2 := [.int (nI (gp (sid (aKd a i)) (aCk a i) (aO a i) (aSd a i))), .int (nI (ofa a w i))]) rfl rfl rfl rfl ?_
          refine r_iaddN C dX7_ofAll_44 ?_
          refine r_istore_n (lv2 := [(2, .int (nI (ofa a w i + (gp (sid (aKd a i)) (aCk a i) (aO a i) (aSd a i))))), (0, .ref m0), (1, .int (nI w)), (3, .int (nI i))]) C dX7_ofAll_45 rfl (by decide) rfl ?_
          refine r_iinc (v := nI (i + 1)) (lv2 := [(3, .int (nI (i + 1))), (2, .int (nI (ofa a w i + (gp (sid (aKd a i)) (aCk a i) (aO a i) (aSd a i))))), (0, .ref m0), (1, .int (nI w))]) C dX7_ofAll_46 (k := 3) rfl (nI_add _ 1) (by decide) rfl ?_
          refine r_goto (tgt := 4) C dX7_ofAll_49 (by decide) ?_
          refine V.sub (lv2 := [(0, .ref m0), (1, .int (nI w)), (2, .int (nI (ofa a w i + (gp (sid (aKd a i)) (aCk a i) (aO a i) (aSd a i))))), (3, .int (nI (i + 1)))]) [2, 3, 1, 0] rfl ?_
          refine V.eq (σ2 := (mW G σ m0 [xstates, xtyped, xat, xreason, xdone, (nI (aKd a i)), (nI (aCk a i)), (nI (aSr a i))] [fs, fwas, fbegun, faside, ftext, fL, gL, fnext, ffar, fthen, fqueue, frankAt, fturnAt])) (lv2 := [(0, .ref m0), (1, .int (nI w)), (2, .int (nI (ofa a w (i + 1)))), (3, .int (nI (i + 1)))]) (st2 := []) rfl rfl (by rw [(show nI (ofa a w i + (gp (sid (aKd a i)) (aCk a i) (aO a i) (aSd a i))) = nI (ofa a w (i + 1)) from by first | (simp [ofa, cz22, cz29]; done) | (simp [ofa, gpA, cz22]; done))]) rfl ?_
          exact ih4 (i + 1) (nI (aKd a i)) (nI (aCk a i)) (nI (aSr a i)) fL gL (by omega) (by omega)
        · refine r_aload_n C dX7_ofAll_25 rfl 0 rfl ?_
          refine r_callV (As := []) C (c_X7_isSorted (N := aCk a i) (o := aO a i) (sd := aSd a i) ((hA.2.2 i cz11).1.N) ((hA.2.2 i cz11).1.2.1) ((hA.2.2 i cz11).2.1) (hzL) (hbL)) wM_X7_126 wI_X7_isSorted wN_X7 wC_X7_isSorted wV_X7_isSorted hd_X7_isSorted ⟨Nat.le_of_ble_eq_true rfl, Nat.le_of_ble_eq_true rfl⟩ rfl (mW_o _ _ _ _ _) rfl rfl (Nat.le_of_ble_eq_true rfl) dX7_ofAll_26 ⟨Nat.le_of_ble_eq_true rfl, Nat.le_of_ble_eq_true rfl⟩ (fun rv n2 σ2 hp => ?_)
          obtain ⟨rfl, rfl, rfl⟩ := hp
          refine V.eq (σ2 := (mW G σ m0 [xstates, xtyped, xat, xreason, xdone, nI (aKd a i), nI (aCk a i), nI (aSr a i)] [fs, fwas, fbegun, faside, ftext, fL, gL, fnext, ffar, fthen, fqueue, frankAt, fturnAt])) (n2 := n) (st2 := [.int (bI (srp (aCk a i) (aO a i) (aSd a i) (aCk a i))), .int (nI (ofa a w i))]) rfl rfl rfl rfl ?_
          refine r_if_eqB (tgt := 36) C dX7_ofAll_29 (by decide) (fun cz29 => ?_) (fun cz29 => ?_)
          · refine r_iconst (v := nI 0) C dX7_ofAll_36 (by decide) ?_
            refine r_goto (tgt := 44) C dX7_ofAll_37 (by decide) ?_
            refine r_iaddN C dX7_ofAll_44 ?_
            refine r_istore_n (lv2 := [(2, .int (nI (ofa a w i + 0))), (0, .ref m0), (1, .int (nI w)), (3, .int (nI i))]) C dX7_ofAll_45 rfl (by decide) rfl ?_
            refine r_iinc (v := nI (i + 1)) (lv2 := [(3, .int (nI (i + 1))), (2, .int (nI (ofa a w i + 0))), (0, .ref m0), (1, .int (nI w))]) C dX7_ofAll_46 (k := 3) rfl (nI_add _ 1) (by decide) rfl ?_
            refine r_goto (tgt := 4) C dX7_ofAll_49 (by decide) ?_
            refine V.sub (lv2 := [(0, .ref m0), (1, .int (nI w)), (2, .int (nI (ofa a w i + 0))), (3, .int (nI (i + 1)))]) [2, 3, 1, 0] rfl ?_
            refine V.eq (σ2 := (mW G σ m0 [xstates, xtyped, xat, xreason, xdone, (nI (aKd a i)), (nI (aCk a i)), (nI (aSr a i))] [fs, fwas, fbegun, faside, ftext, fL, gL, fnext, ffar, fthen, fqueue, frankAt, fturnAt])) (lv2 := [(0, .ref m0), (1, .int (nI w)), (2, .int (nI (ofa a w (i + 1)))), (3, .int (nI (i + 1)))]) (st2 := []) rfl rfl (by rw [(show nI (ofa a w i + 0) = nI (ofa a w (i + 1)) from by first | (simp [ofa, cz22, cz29]; done) | (simp [ofa, gpA, cz22]; done))]) rfl ?_
            exact ih4 (i + 1) (nI (aKd a i)) (nI (aCk a i)) (nI (aSr a i)) fL gL (by omega) (by omega)
          · refine r_iconst (v := nI 1) C dX7_ofAll_32 (by decide) ?_
            refine r_goto (tgt := 44) C dX7_ofAll_33 (by decide) ?_
            refine r_iaddN C dX7_ofAll_44 ?_
            refine r_istore_n (lv2 := [(2, .int (nI (ofa a w i + 1))), (0, .ref m0), (1, .int (nI w)), (3, .int (nI i))]) C dX7_ofAll_45 rfl (by decide) rfl ?_
            refine r_iinc (v := nI (i + 1)) (lv2 := [(3, .int (nI (i + 1))), (2, .int (nI (ofa a w i + 1))), (0, .ref m0), (1, .int (nI w))]) C dX7_ofAll_46 (k := 3) rfl (nI_add _ 1) (by decide) rfl ?_
            refine r_goto (tgt := 4) C dX7_ofAll_49 (by decide) ?_
            refine V.sub (lv2 := [(0, .ref m0), (1, .int (nI w)), (2, .int (nI (ofa a w i + 1))), (3, .int (nI (i + 1)))]) [2, 3, 1, 0] rfl ?_
            refine V.eq (σ2 := (mW G σ m0 [xstates, xtyped, xat, xreason, xdone, (nI (aKd a i)), (nI (aCk a i)), (nI (aSr a i))] [fs, fwas, fbegun, faside, ftext, fL, gL, fnext, ffar, fthen, fqueue, frankAt, fturnAt])) (lv2 := [(0, .ref m0), (1, .int (nI w)), (2, .int (nI (ofa a w (i + 1)))), (3, .int (nI (i + 1)))]) (st2 := []) rfl rfl (by rw [(show nI (ofa a w i + 1) = nI (ofa a w (i + 1)) from by first | (simp [ofa, cz22, cz29]; done) | (simp [ofa, gpA, cz22]; done))]) rfl ?_
            exact ih4 (i + 1) (nI (aKd a i)) (nI (aCk a i)) (nI (aSr a i)) fL gL (by omega) (by omega)
  refine V.sub (lv2 := [(0, .ref m0), (1, .int (nI w)), (2, .int (nI 0)), (3, .int (nI 0))]) [2, 3, 1, 0] rfl ?_
  refine V.eq (σ2 := (mW G σ m0 [xstates, xtyped, xat, xreason, xdone, xkind, xn, xstrength] [fs, fwas, fbegun, faside, ftext, fsize, fburnt, fnext, ffar, fthen, fqueue, frankAt, fturnAt])) (lv2 := [(0, .ref m0), (1, .int (nI w)), (2, .int (nI (ofa a w 0))), (3, .int (nI 0))]) (st2 := []) rfl rfl (by rw [(show nI 0 = nI (ofa a w 0) from rfl)]) rfl ?_
  exact L4 _ 0 xkind xn xstrength fsize fburnt (by omega) (Nat.lt_succ_self _)

abbrev rm_X7_count_y : Room := { frames := 4, cells := 0, slots := 0, locals := 87 }
set_option maxRecDepth 100000 in
set_option maxHeartbeats 4000000 in
theorem c_X7_count_y {l : Launch} {G : gG} {n : Nat} {σ : gS} {m0 : Nat} {xat xreason xdone xkind xn xstrength : Int32} {fs fwas fbegun faside ftext fsize fburnt fnext ffar fthen fqueue frankAt fturnAt : Nat → Int32} {a : AK} {sc tn w : Nat} (hM : MR fs a) (hA : AOK a) (hw : w ≤ 12) (hsc : sc ≤ 4) (htn : tn ≤ 50) : GM l G yX7_count cX7_count 2 (some .int) rm_X7_count_y n (mW G σ m0 [nI sc, nI tn, xat, xreason, xdone, xkind, xn, xstrength] [fs, fwas, fbegun, faside, ftext, fsize, fburnt, fnext, ffar, fthen, fqueue, frankAt, fturnAt]) [.ref m0, .int (nI w)] (fun rv n2 σ2 => some (.int (cntA a sc tn w)) = rv ∧ n = n2 ∧ ∃ (k2 : Int32) (n3 : Int32) (r2 : Int32) (f2 : Nat → Int32) (g2 : Nat → Int32), (mW G σ m0 [nI sc, nI tn, xat, xreason, xdone, k2, n3, r2] [fs, fwas, fbegun, faside, ftext, f2, g2, fnext, ffar, fthen, fqueue, frankAt, fturnAt]) = σ2) := by
  refine GM.intro (by decide +kernel) (Nat.le_of_ble_eq_true rfl) (fun p e s m args below meth c C hr hlocks hname po hpo => ?_)
  have C : Cx p s m args c cX7_count 2 RX7 G := C
  refine r_iload_n C dX7_count_0 rfl 1 rfl ?_
  by_cases hsw1 : (nI w).toInt < 0 ∨ 12 < (nI w).toInt
  · exact absurd hsw1 (by rw [nI_toInt (by omega)]; omega)
  · obtain ⟨hlo, hhi⟩ := not_or.mp hsw1
    rcases (show (nI w).toInt = 0 ∨ (nI w).toInt = 1 ∨ (nI w).toInt = 2 ∨ (nI w).toInt = 3 ∨ (nI w).toInt = 4 ∨ (nI w).toInt = 5 ∨ (nI w).toInt = 6 ∨ (nI w).toInt = 7 ∨ (nI w).toInt = 8 ∨ (nI w).toInt = 9 ∨ (nI w).toInt = 10 ∨ (nI w).toInt = 11 ∨ (nI w).toInt = 12 by omega) with hz | hz | hz | hz | hz | hz | hz | hz | hz | hz | hz | hz | hz
    · refine r_tableIn (tgt := 68) C dX7_count_1 hlo hhi (by rw [hz]; rfl) (by decide) ?_
      refine r_aload_n C dX7_count_68 rfl 0 rfl ?_
      refine rm_get (v := .ref (m0 + 1)) C 0 (by decide) wF_X7_7 rfl dX7_count_69 ?_
      refine r_iconst (v := nI 0) C dX7_count_72 (by decide) ?_
      refine rm_ald (f := fs) (len := 38) C 0 rfl rfl (by decide) (by decide) dX7_count_73 ?_
      refine V.top (y := nI (aN a)) (hM.1) ?_
      exact r_iret C hr hlocks (Nat.le_of_ble_eq_true rfl) (Nat.le_of_ble_eq_true rfl) dX7_count_74 (hpo _ _ _ ⟨by have h5 : w = 0 := (by rw [nI_toInt (by omega)] at hz; omega); rw [h5]; rfl, rfl, xkind, xn, xstrength, fsize, fburnt, rfl⟩)
    · refine r_tableIn (tgt := 75) C dX7_count_1 hlo hhi (by rw [hz]; rfl) (by decide) ?_
      refine r_aload_n C dX7_count_75 rfl 0 rfl ?_
      refine r_iload_n C dX7_count_76 rfl 1 rfl ?_
      refine r_callV (As := [.int (nI w)]) C (c_X7_ofAll (a := a) (w := w) (by first | assumption | omega) (by first | assumption | omega) (by rw [nI_toInt (by omega)] at hz; omega)) wM_X7_159 wI_X7_ofAll wN_X7 wC_X7_ofAll wV_X7_ofAll hd_X7_ofAll ⟨Nat.le_of_ble_eq_true rfl, Nat.le_of_ble_eq_true rfl⟩ rfl (mW_o _ _ _ _ _) rfl rfl (Nat.le_of_ble_eq_true rfl) dX7_count_77 ⟨Nat.le_of_ble_eq_true rfl, Nat.le_of_ble_eq_true rfl⟩ (fun rv n2 σ2 hp => ?_)
      obtain ⟨rfl, rfl, k2_1, n3_2, r2_3, f2_4, g2_5, rfl⟩ := hp
      refine V.eq (σ2 := (mW G σ m0 [nI sc, nI tn, xat, xreason, xdone, k2_1, n3_2, r2_3] [fs, fwas, fbegun, faside, ftext, f2_4, g2_5, fnext, ffar, fthen, fqueue, frankAt, fturnAt])) (n2 := n) (st2 := [.int (nI (ofa a w (aN a)))]) rfl rfl rfl rfl ?_
      exact r_iret C hr hlocks (Nat.le_of_ble_eq_true rfl) (Nat.le_of_ble_eq_true rfl) dX7_count_80 (hpo _ _ _ ⟨by first | (have h5 : w = 1 := (by rw [nI_toInt (by omega)] at hz; omega); rw [h5]; rfl) | (have h5 : w = 2 := (by rw [nI_toInt (by omega)] at hz; omega); rw [h5]; rfl), rfl, k2_1, n3_2, r2_3, f2_4, g2_5, rfl⟩)
    · refine r_tableIn (tgt := 75) C dX7_count_1 hlo hhi (by rw [hz]; rfl) (by decide) ?_
      refine r_aload_n C dX7_count_75 rfl 0 rfl ?_
      refine r_iload_n C dX7_count_76 rfl 1 rfl ?_
      refine r_callV (As := [.int (nI w)]) C (c_X7_ofAll (a := a) (w := w) (by first | assumption | omega) (by first | assumption | omega) (by rw [nI_toInt (by omega)] at hz; omega)) wM_X7_159 wI_X7_ofAll wN_X7 wC_X7_ofAll wV_X7_ofAll hd_X7_ofAll ⟨Nat.le_of_ble_eq_true rfl, Nat.le_of_ble_eq_true rfl⟩ rfl (mW_o _ _ _ _ _) rfl rfl (Nat.le_of_ble_eq_true rfl) dX7_count_77 ⟨Nat.le_of_ble_eq_true rfl, Nat.le_of_ble_eq_true rfl⟩ (fun rv n2 σ2 hp => ?_)
      obtain ⟨rfl, rfl, k2_6, n3_7, r2_8, f2_9, g2_10, rfl⟩ := hp
      refine V.eq (σ2 := (mW G σ m0 [nI sc, nI tn, xat, xreason, xdone, k2_6, n3_7, r2_8] [fs, fwas, fbegun, faside, ftext, f2_9, g2_10, fnext, ffar, fthen, fqueue, frankAt, fturnAt])) (n2 := n) (st2 := [.int (nI (ofa a w (aN a)))]) rfl rfl rfl rfl ?_
      exact r_iret C hr hlocks (Nat.le_of_ble_eq_true rfl) (Nat.le_of_ble_eq_true rfl) dX7_count_80 (hpo _ _ _ ⟨by first | (have h5 : w = 1 := (by rw [nI_toInt (by omega)] at hz; omega); rw [h5]; rfl) | (have h5 : w = 2 := (by rw [nI_toInt (by omega)] at hz; omega); rw [h5]; rfl), rfl, k2_6, n3_7, r2_8, f2_9, g2_10, rfl⟩)
    · have hw3 : 3 ≤ w ∧ w ≤ 9 := (by rw [nI_toInt (by omega)] at hz; omega)
      refine r_tableIn (tgt := 112) C dX7_count_1 hlo hhi (by rw [hz]; rfl) (by decide) ?_
      refine r_iload_n C dX7_count_112 rfl 1 rfl ?_
      refine r_iconst (v := nI 3) C dX7_count_113 (by decide) ?_
      refine r_bipush (v := nI 9) C dX7_count_114 (by decide) ?_
      refine r_callS (As := [.int (nI w), .int (nI 3), .int (nI 9)]) C (c_X7_in (v := nI w) (low := nI 3) (high := nI 9) ) wM_X7_50 wS_X7_in wN_X7 wC_X7_in hd_X7_in ⟨Nat.le_of_ble_eq_true rfl, Nat.le_of_ble_eq_true rfl⟩ rfl rfl (Nat.le_of_ble_eq_true rfl) dX7_count_116 ⟨Nat.le_of_ble_eq_true rfl, Nat.le_of_ble_eq_true rfl⟩ (fun rv n2 σ2 hp => ?_)
      obtain ⟨rfl, rfl, rfl⟩ := hp
      refine V.eq (σ2 := (mW G σ m0 [nI sc, nI tn, xat, xreason, xdone, xkind, xn, xstrength] [fs, fwas, fbegun, faside, ftext, fsize, fburnt, fnext, ffar, fthen, fqueue, frankAt, fturnAt])) (n2 := n) (st2 := [.int (bI (decide ((nI 3) ≤ (nI w) ∧ (nI w) ≤ (nI 9))))]) rfl rfl rfl rfl ?_
      refine V.top (y := bI true) (congrArg bI (in_N hw3.1 hw3.2 (by omega))) ?_
      refine r_if_eqB (tgt := 135) C dX7_count_119 (by decide) (fun z => absurd z (by decide)) (fun _ => ?_)
      refine r_aload_n C dX7_count_122 rfl 0 rfl ?_
      refine rm_get (v := .ref (m0 + 1)) C 0 (by decide) wF_X7_7 rfl dX7_count_123 ?_
      refine r_iconst (v := nI 1) C dX7_count_126 (by decide) ?_
      refine r_iload_n C dX7_count_127 rfl 1 rfl ?_
      refine r_iaddN C dX7_count_128 ?_
      refine r_iconst (v := nI 3) C dX7_count_129 (by decide) ?_
      refine r_isubN C dX7_count_130 (by omega) ?_
      refine rm_ald (f := fs) (len := 38) C 0 rfl rfl (by decide) (by omega) dX7_count_131 ?_
      refine r_goto (tgt := 137) C dX7_count_132 (by decide) ?_
      exact r_iret C hr hlocks (Nat.le_of_ble_eq_true rfl) (Nat.le_of_ble_eq_true rfl) dX7_count_137 (hpo _ _ _ ⟨by rw [cnt_mid hM hw3.1 hw3.2], rfl, xkind, xn, xstrength, fsize, fburnt, rfl⟩)
    · have hw3 : 3 ≤ w ∧ w ≤ 9 := (by rw [nI_toInt (by omega)] at hz; omega)
      refine r_tableIn (tgt := 112) C dX7_count_1 hlo hhi (by rw [hz]; rfl) (by decide) ?_
      refine r_iload_n C dX7_count_112 rfl 1 rfl ?_
      refine r_iconst (v := nI 3) C dX7_count_113 (by decide) ?_
      refine r_bipush (v := nI 9) C dX7_count_114 (by decide) ?_
      refine r_callS (As := [.int (nI w), .int (nI 3), .int (nI 9)]) C (c_X7_in (v := nI w) (low := nI 3) (high := nI 9) ) wM_X7_50 wS_X7_in wN_X7 wC_X7_in hd_X7_in ⟨Nat.le_of_ble_eq_true rfl, Nat.le_of_ble_eq_true rfl⟩ rfl rfl (Nat.le_of_ble_eq_true rfl) dX7_count_116 ⟨Nat.le_of_ble_eq_true rfl, Nat.le_of_ble_eq_true rfl⟩ (fun rv n2 σ2 hp => ?_)
      obtain ⟨rfl, rfl, rfl⟩ := hp
      refine V.eq (σ2 := (mW G σ m0 [nI sc, nI tn, xat, xreason, xdone, xkind, xn, xstrength] [fs, fwas, fbegun, faside, ftext, fsize, fburnt, fnext, ffar, fthen, fqueue, frankAt, fturnAt])) (n2 := n) (st2 := [.int (bI (decide ((nI 3) ≤ (nI w) ∧ (nI w) ≤ (nI 9))))]) rfl rfl rfl rfl ?_
      refine V.top (y := bI true) (congrArg bI (in_N hw3.1 hw3.2 (by omega))) ?_
      refine r_if_eqB (tgt := 135) C dX7_count_119 (by decide) (fun z => absurd z (by decide)) (fun _ => ?_)
      refine r_aload_n C dX7_count_122 rfl 0 rfl ?_
      refine rm_get (v := .ref (m0 + 1)) C 0 (by decide) wF_X7_7 rfl dX7_count_123 ?_
      refine r_iconst (v := nI 1) C dX7_count_126 (by decide) ?_
      refine r_iload_n C dX7_count_127 rfl 1 rfl ?_
      refine r_iaddN C dX7_count_128 ?_
      refine r_iconst (v := nI 3) C dX7_count_129 (by decide) ?_
      refine r_isubN C dX7_count_130 (by omega) ?_
      refine rm_ald (f := fs) (len := 38) C 0 rfl rfl (by decide) (by omega) dX7_count_131 ?_
      refine r_goto (tgt := 137) C dX7_count_132 (by decide) ?_
      exact r_iret C hr hlocks (Nat.le_of_ble_eq_true rfl) (Nat.le_of_ble_eq_true rfl) dX7_count_137 (hpo _ _ _ ⟨by rw [cnt_mid hM hw3.1 hw3.2], rfl, xkind, xn, xstrength, fsize, fburnt, rfl⟩)
    · have hw3 : 3 ≤ w ∧ w ≤ 9 := (by rw [nI_toInt (by omega)] at hz; omega)
      refine r_tableIn (tgt := 112) C dX7_count_1 hlo hhi (by rw [hz]; rfl) (by decide) ?_
      refine r_iload_n C dX7_count_112 rfl 1 rfl ?_
      refine r_iconst (v := nI 3) C dX7_count_113 (by decide) ?_
      refine r_bipush (v := nI 9) C dX7_count_114 (by decide) ?_
      refine r_callS (As := [.int (nI w), .int (nI 3), .int (nI 9)]) C (c_X7_in (v := nI w) (low := nI 3) (high := nI 9) ) wM_X7_50 wS_X7_in wN_X7 wC_X7_in hd_X7_in ⟨Nat.le_of_ble_eq_true rfl, Nat.le_of_ble_eq_true rfl⟩ rfl rfl (Nat.le_of_ble_eq_true rfl) dX7_count_116 ⟨Nat.le_of_ble_eq_true rfl, Nat.le_of_ble_eq_true rfl⟩ (fun rv n2 σ2 hp => ?_)
      obtain ⟨rfl, rfl, rfl⟩ := hp
      refine V.eq (σ2 := (mW G σ m0 [nI sc, nI tn, xat, xreason, xdone, xkind, xn, xstrength] [fs, fwas, fbegun, faside, ftext, fsize, fburnt, fnext, ffar, fthen, fqueue, frankAt, fturnAt])) (n2 := n) (st2 := [.int (bI (decide ((nI 3) ≤ (nI w) ∧ (nI w) ≤ (nI 9))))]) rfl rfl rfl rfl ?_
      refine V.top (y := bI true) (congrArg bI (in_N hw3.1 hw3.2 (by omega))) ?_
      refine r_if_eqB (tgt := 135) C dX7_count_119 (by decide) (fun z => absurd z (by decide)) (fun _ => ?_)
      refine r_aload_n C dX7_count_122 rfl 0 rfl ?_
      refine rm_get (v := .ref (m0 + 1)) C 0 (by decide) wF_X7_7 rfl dX7_count_123 ?_
      refine r_iconst (v := nI 1) C dX7_count_126 (by decide) ?_
      refine r_iload_n C dX7_count_127 rfl 1 rfl ?_
      refine r_iaddN C dX7_count_128 ?_
      refine r_iconst (v := nI 3) C dX7_count_129 (by decide) ?_
      refine r_isubN C dX7_count_130 (by omega) ?_
      refine rm_ald (f := fs) (len := 38) C 0 rfl rfl (by decide) (by omega) dX7_count_131 ?_
      refine r_goto (tgt := 137) C dX7_count_132 (by decide) ?_
      exact r_iret C hr hlocks (Nat.le_of_ble_eq_true rfl) (Nat.le_of_ble_eq_true rfl) dX7_count_137 (hpo _ _ _ ⟨by rw [cnt_mid hM hw3.1 hw3.2], rfl, xkind, xn, xstrength, fsize, fburnt, rfl⟩)
    · have hw3 : 3 ≤ w ∧ w ≤ 9 := (by rw [nI_toInt (by omega)] at hz; omega)
      refine r_tableIn (tgt := 112) C dX7_count_1 hlo hhi (by rw [hz]; rfl) (by decide) ?_
      refine r_iload_n C dX7_count_112 rfl 1 rfl ?_
      refine r_iconst (v := nI 3) C dX7_count_113 (by decide) ?_
      refine r_bipush (v := nI 9) C dX7_count_114 (by decide) ?_
      refine r_callS (As := [.int (nI w), .int (nI 3), .int (nI 9)]) C (c_X7_in (v := nI w) (low := nI 3) (high := nI 9) ) wM_X7_50 wS_X7_in wN_X7 wC_X7_in hd_X7_in ⟨Nat.le_of_ble_eq_true rfl, Nat.le_of_ble_eq_true rfl⟩ rfl rfl (Nat.le_of_ble_eq_true rfl) dX7_count_116 ⟨Nat.le_of_ble_eq_true rfl, Nat.le_of_ble_eq_true rfl⟩ (fun rv n2 σ2 hp => ?_)
      obtain ⟨rfl, rfl, rfl⟩ := hp
      refine V.eq (σ2 := (mW G σ m0 [nI sc, nI tn, xat, xreason, xdone, xkind, xn, xstrength] [fs, fwas, fbegun, faside, ftext, fsize, fburnt, fnext, ffar, fthen, fqueue, frankAt, fturnAt])) (n2 := n) (st2 := [.int (bI (decide ((nI 3) ≤ (nI w) ∧ (nI w) ≤ (nI 9))))]) rfl rfl rfl rfl ?_
      refine V.top (y := bI true) (congrArg bI (in_N hw3.1 hw3.2 (by omega))) ?_
      refine r_if_eqB (tgt := 135) C dX7_count_119 (by decide) (fun z => absurd z (by decide)) (fun _ => ?_)
      refine r_aload_n C dX7_count_122 rfl 0 rfl ?_
      refine rm_get (v := .ref (m0 + 1)) C 0 (by decide) wF_X7_7 rfl dX7_count_123 ?_
      refine r_iconst (v := nI 1) C dX7_count_126 (by decide) ?_
      refine r_iload_n C dX7_count_127 rfl 1 rfl ?_
      refine r_iaddN C dX7_count_128 ?_
      refine r_iconst (v := nI 3) C dX7_count_129 (by decide) ?_
      refine r_isubN C dX7_count_130 (by omega) ?_
      refine rm_ald (f := fs) (len := 38) C 0 rfl rfl (by decide) (by omega) dX7_count_131 ?_
      refine r_goto (tgt := 137) C dX7_count_132 (by decide) ?_
      exact r_iret C hr hlocks (Nat.le_of_ble_eq_true rfl) (Nat.le_of_ble_eq_true rfl) dX7_count_137 (hpo _ _ _ ⟨by rw [cnt_mid hM hw3.1 hw3.2], rfl, xkind, xn, xstrength, fsize, fburnt, rfl⟩)
    · have hw3 : 3 ≤ w ∧ w ≤ 9 := (by rw [nI_toInt (by omega)] at hz; omega)
      refine r_tableIn (tgt := 112) C dX7_count_1 hlo hhi (by rw [hz]; rfl) (by decide) ?_
      refine r_iload_n C dX7_count_112 rfl 1 rfl ?_
      refine r_iconst (v := nI 3) C dX7_count_113 (by decide) ?_
      refine r_bipush (v := nI 9) C dX7_count_114 (by decide) ?_
      refine r_callS (As := [.int (nI w), .int (nI 3), .int (nI 9)]) C (c_X7_in (v := nI w) (low := nI 3) (high := nI 9) ) wM_X7_50 wS_X7_in wN_X7 wC_X7_in hd_X7_in ⟨Nat.le_of_ble_eq_true rfl, Nat.le_of_ble_eq_true rfl⟩ rfl rfl (Nat.le_of_ble_eq_true rfl) dX7_count_116 ⟨Nat.le_of_ble_eq_true rfl, Nat.le_of_ble_eq_true rfl⟩ (fun rv n2 σ2 hp => ?_)
      obtain ⟨rfl, rfl, rfl⟩ := hp
      refine V.eq (σ2 := (mW G σ m0 [nI sc, nI tn, xat, xreason, xdone, xkind, xn, xstrength] [fs, fwas, fbegun, faside, ftext, fsize, fburnt, fnext, ffar, fthen, fqueue, frankAt, fturnAt])) (n2 := n) (st2 := [.int (bI (decide ((nI 3) ≤ (nI w) ∧ (nI w) ≤ (nI 9))))]) rfl rfl rfl rfl ?_
      refine V.top (y := bI true) (congrArg bI (in_N hw3.1 hw3.2 (by omega))) ?_
      refine r_if_eqB (tgt := 135) C dX7_count_119 (by decide) (fun z => absurd z (by decide)) (fun _ => ?_)
      refine r_aload_n C dX7_count_122 rfl 0 rfl ?_
      refine rm_get (v := .ref (m0 + 1)) C 0 (by decide) wF_X7_7 rfl dX7_count_123 ?_
      refine r_iconst (v := nI 1) C dX7_count_126 (by decide) ?_
      refine r_iload_n C dX7_count_127 rfl 1 rfl ?_
      refine r_iaddN C dX7_count_128 ?_
      refine r_iconst (v := nI 3) C dX7_count_129 (by decide) ?_
      refine r_isubN C dX7_count_130 (by omega) ?_
      refine rm_ald (f := fs) (len := 38) C 0 rfl rfl (by decide) (by omega) dX7_count_131 ?_
      refine r_goto (tgt := 137) C dX7_count_132 (by decide) ?_
      exact r_iret C hr hlocks (Nat.le_of_ble_eq_true rfl) (Nat.le_of_ble_eq_true rfl) dX7_count_137 (hpo _ _ _ ⟨by rw [cnt_mid hM hw3.1 hw3.2], rfl, xkind, xn, xstrength, fsize, fburnt, rfl⟩)
    · have hw3 : 3 ≤ w ∧ w ≤ 9 := (by rw [nI_toInt (by omega)] at hz; omega)
      refine r_tableIn (tgt := 112) C dX7_count_1 hlo hhi (by rw [hz]; rfl) (by decide) ?_
      refine r_iload_n C dX7_count_112 rfl 1 rfl ?_
      refine r_iconst (v := nI 3) C dX7_count_113 (by decide) ?_
      refine r_bipush (v := nI 9) C dX7_count_114 (by decide) ?_
      refine r_callS (As := [.int (nI w), .int (nI 3), .int (nI 9)]) C (c_X7_in (v := nI w) (low := nI 3) (high := nI 9) ) wM_X7_50 wS_X7_in wN_X7 wC_X7_in hd_X7_in ⟨Nat.le_of_ble_eq_true rfl, Nat.le_of_ble_eq_true rfl⟩ rfl rfl (Nat.le_of_ble_eq_true rfl) dX7_count_116 ⟨Nat.le_of_ble_eq_true rfl, Nat.le_of_ble_eq_true rfl⟩ (fun rv n2 σ2 hp => ?_)
      obtain ⟨rfl, rfl, rfl⟩ := hp
      refine V.eq (σ2 := (mW G σ m0 [nI sc, nI tn, xat, xreason, xdone, xkind, xn, xstrength] [fs, fwas, fbegun, faside, ftext, fsize, fburnt, fnext, ffar, fthen, fqueue, frankAt, fturnAt])) (n2 := n) (st2 := [.int (bI (decide ((nI 3) ≤ (nI w) ∧ (nI w) ≤ (nI 9))))]) rfl rfl rfl rfl ?_
      refine V.top (y := bI true) (congrArg bI (in_N hw3.1 hw3.2 (by omega))) ?_
      refine r_if_eqB (tgt := 135) C dX7_count_119 (by decide) (fun z => absurd z (by decide)) (fun _ => ?_)
      refine r_aload_n C dX7_count_122 rfl 0 rfl ?_
      refine rm_get (v := .ref (m0 + 1)) C 0 (by decide) wF_X7_7 rfl dX7_count_123 ?_
      refine r_iconst (v := nI 1) C dX7_count_126 (by decide) ?_
      refine r_iload_n C dX7_count_127 rfl 1 rfl ?_
      refine r_iaddN C dX7_count_128 ?_
      refine r_iconst (v := nI 3) C dX7_count_129 (by decide) ?_
      refine r_isubN C dX7_count_130 (by omega) ?_
      refine rm_ald (f := fs) (len := 38) C 0 rfl rfl (by decide) (by omega) dX7_count_131 ?_
      refine r_goto (tgt := 137) C dX7_count_132 (by decide) ?_
      exact r_iret C hr hlocks (Nat.le_of_ble_eq_true rfl) (Nat.le_of_ble_eq_true rfl) dX7_count_137 (hpo _ _ _ ⟨by rw [cnt_mid hM hw3.1 hw3.2], rfl, xkind, xn, xstrength, fsize, fburnt, rfl⟩)
    · have hw3 : 3 ≤ w ∧ w ≤ 9 := (by rw [nI_toInt (by omega)] at hz; omega)
      refine r_tableIn (tgt := 112) C dX7_count_1 hlo hhi (by rw [hz]; rfl) (by decide) ?_
      refine r_iload_n C dX7_count_112 rfl 1 rfl ?_
      refine r_iconst (v := nI 3) C dX7_count_113 (by decide) ?_
      refine r_bipush (v := nI 9) C dX7_count_114 (by decide) ?_
      refine r_callS (As := [.int (nI w), .int (nI 3), .int (nI 9)]) C (c_X7_in (v := nI w) (low := nI 3) (high := nI 9) ) wM_X7_50 wS_X7_in wN_X7 wC_X7_in hd_X7_in ⟨Nat.le_of_ble_eq_true rfl, Nat.le_of_ble_eq_true rfl⟩ rfl rfl (Nat.le_of_ble_eq_true rfl) dX7_count_116 ⟨Nat.le_of_ble_eq_true rfl, Nat.le_of_ble_eq_true rfl⟩ (fun rv n2 σ2 hp => ?_)
      obtain ⟨rfl, rfl, rfl⟩ := hp
      refine V.eq (σ2 := (mW G σ m0 [nI sc, nI tn, xat, xreason, xdone, xkind, xn, xstrength] [fs, fwas, fbegun, faside, ftext, fsize, fburnt, fnext, ffar, fthen, fqueue, frankAt, fturnAt])) (n2 := n) (st2 := [.int (bI (decide ((nI 3) ≤ (nI w) ∧ (nI w) ≤ (nI 9))))]) rfl rfl rfl rfl ?_
      refine V.top (y := bI true) (congrArg bI (in_N hw3.1 hw3.2 (by omega))) ?_
      refine r_if_eqB (tgt := 135) C dX7_count_119 (by decide) (fun z => absurd z (by decide)) (fun _ => ?_)
      refine r_aload_n C dX7_count_122 rfl 0 rfl ?_
      refine rm_get (v := .ref (m0 + 1)) C 0 (by decide) wF_X7_7 rfl dX7_count_123 ?_
      refine r_iconst (v := nI 1) C dX7_count_126 (by decide) ?_
      refine r_iload_n C dX7_count_127 rfl 1 rfl ?_
      refine r_iaddN C dX7_count_128 ?_
      refine r_iconst (v := nI 3) C dX7_count_129 (by decide) ?_
      refine r_isubN C dX7_count_130 (by omega) ?_
      refine rm_ald (f := fs) (len := 38) C 0 rfl rfl (by decide) (by omega) dX7_count_131 ?_
      refine r_goto (tgt := 137) C dX7_count_132 (by decide) ?_
      exact r_iret C hr hlocks (Nat.le_of_ble_eq_true rfl) (Nat.le_of_ble_eq_true rfl) dX7_count_137 (hpo _ _ _ ⟨by rw [cnt_mid hM hw3.1 hw3.2], rfl, xkind, xn, xstrength, fsize, fburnt, rfl⟩)
    · refine r_tableIn (tgt := 81) C dX7_count_1 hlo hhi (by rw [hz]; rfl) (by decide) ?_
      refine r_aload_n C dX7_count_81 rfl 0 rfl ?_
      refine rm_get (v := .ref (m0 + 1)) C 0 (by decide) wF_X7_7 rfl dX7_count_82 ?_
      refine r_iconst (v := nI 2) C dX7_count_85 (by decide) ?_
      refine rm_ald (f := fs) (len := 38) C 0 rfl rfl (by decide) (by decide) dX7_count_86 ?_
      refine V.top (y := aTu a 0) (hM.2.2.1 0 (by decide)) ?_
      refine r_aload_n C dX7_count_87 rfl 0 rfl ?_
      refine rm_get (v := .ref (m0 + 1)) C 0 (by decide) wF_X7_7 rfl dX7_count_88 ?_
      refine r_iconst (v := nI 3) C dX7_count_91 (by decide) ?_
      refine rm_ald (f := fs) (len := 38) C 0 rfl rfl (by decide) (by decide) dX7_count_92 ?_
      refine V.top (y := aTu a 1) (hM.2.2.1 1 (by decide)) ?_
      refine r_iadd C dX7_count_93 ?_
      refine r_aload_n C dX7_count_94 rfl 0 rfl ?_
      refine rm_get (v := .ref (m0 + 1)) C 0 (by decide) wF_X7_7 rfl dX7_count_95 ?_
      refine r_iconst (v := nI 4) C dX7_count_98 (by decide) ?_
      refine rm_ald (f := fs) (len := 38) C 0 rfl rfl (by decide) (by decide) dX7_count_99 ?_
      refine V.top (y := aTu a 2) (hM.2.2.1 2 (by decide)) ?_
      refine r_iadd C dX7_count_100 ?_
      exact r_iret C hr hlocks (Nat.le_of_ble_eq_true rfl) (Nat.le_of_ble_eq_true rfl) dX7_count_101 (hpo _ _ _ ⟨by have h5 : w = 10 := (by rw [nI_toInt (by omega)] at hz; omega); rw [h5]; rfl, rfl, xkind, xn, xstrength, fsize, fburnt, rfl⟩)
    · refine r_tableIn (tgt := 102) C dX7_count_1 hlo hhi (by rw [hz]; rfl) (by decide) ?_
      refine r_aload_n C dX7_count_102 rfl 0 rfl ?_
      refine rm_get (v := .int (nI sc)) C 4 (by decide) wF_X7_55 rfl dX7_count_103 ?_
      exact r_iret C hr hlocks (Nat.le_of_ble_eq_true rfl) (Nat.le_of_ble_eq_true rfl) dX7_count_106 (hpo _ _ _ ⟨by have h5 : w = 11 := (by rw [nI_toInt (by omega)] at hz; omega); rw [h5]; rfl, rfl, xkind, xn, xstrength, fsize, fburnt, rfl⟩)
    · refine r_tableIn (tgt := 107) C dX7_count_1 hlo hhi (by rw [hz]; rfl) (by decide) ?_
      refine r_aload_n C dX7_count_107 rfl 0 rfl ?_
      refine rm_get (v := .int (nI tn)) C 6 (by decide) wF_X7_162 rfl dX7_count_108 ?_
      exact r_iret C hr hlocks (Nat.le_of_ble_eq_true rfl) (Nat.le_of_ble_eq_true rfl) dX7_count_111 (hpo _ _ _ ⟨by have h5 : w = 12 := (by rw [nI_toInt (by omega)] at hz; omega); rw [h5]; rfl, rfl, xkind, xn, xstrength, fsize, fburnt, rfl⟩)

abbrev rm_X7_count_x : Room := { frames := 1, cells := 0, slots := 0, locals := 22 }
set_option maxRecDepth 100000 in
set_option maxHeartbeats 4000000 in
theorem c_X7_count_x {l : Launch} {G : gG} {n : Nat} {σ : gS} {m0 : Nat} {xstates xtyped xat xreason xdone xkind xn xstrength : Int32} {fs fwas fbegun faside ftext fsize fburnt fnext ffar fthen fqueue frankAt fturnAt : Nat → Int32} {x : Int32} (hbad : x.toInt < 0 ∨ 12 < x.toInt) : GM l G yX7_count cX7_count 2 (some .int) rm_X7_count_x n (mW G σ m0 [xstates, xtyped, xat, xreason, xdone, xkind, xn, xstrength] [fs, fwas, fbegun, faside, ftext, fsize, fburnt, fnext, ffar, fthen, fqueue, frankAt, fturnAt]) [.ref m0, .int x] (fun rv n2 σ2 => some (.int (-1000001)) = rv ∧ n = n2 ∧ (mW G σ m0 [xstates, xtyped, xat, xreason, xdone, xkind, xn, xstrength] [fs, fwas, fbegun, faside, ftext, fsize, fburnt, fnext, ffar, fthen, fqueue, frankAt, fturnAt]) = σ2) := by
  refine GM.intro (by decide +kernel) (Nat.le_of_ble_eq_true rfl) (fun p e s m args below meth c C hr hlocks hname po hpo => ?_)
  have C : Cx p s m args c cX7_count 2 RX7 G := C
  refine r_iload_n C dX7_count_0 rfl 1 rfl ?_
  by_cases hsw1 : (x).toInt < 0 ∨ 12 < (x).toInt
  · refine r_tableOut (tgt := 112) C dX7_count_1 hsw1 (by decide) ?_
    refine r_iload_n C dX7_count_112 rfl 1 rfl ?_
    refine r_iconst (v := nI 3) C dX7_count_113 (by decide) ?_
    refine r_bipush (v := nI 9) C dX7_count_114 (by decide) ?_
    refine r_callS (As := [.int x, .int (nI 3), .int (nI 9)]) C (c_X7_in (v := x) (low := nI 3) (high := nI 9) ) wM_X7_50 wS_X7_in wN_X7 wC_X7_in hd_X7_in ⟨Nat.le_of_ble_eq_true rfl, Nat.le_of_ble_eq_true rfl⟩ rfl rfl (Nat.le_of_ble_eq_true rfl) dX7_count_116 ⟨Nat.le_of_ble_eq_true rfl, Nat.le_of_ble_eq_true rfl⟩ (fun rv n2 σ2 hp => ?_)
    obtain ⟨rfl, rfl, rfl⟩ := hp
    refine V.eq (σ2 := (mW G σ m0 [xstates, xtyped, xat, xreason, xdone, xkind, xn, xstrength] [fs, fwas, fbegun, faside, ftext, fsize, fburnt, fnext, ffar, fthen, fqueue, frankAt, fturnAt])) (n2 := n) (st2 := [.int (bI (decide ((nI 3) ≤ x ∧ x ≤ (nI 9))))]) rfl rfl rfl rfl ?_
    refine V.top (y := bI false) (congrArg bI (in_out3 hbad)) ?_
    refine r_if_eqB (tgt := 135) C dX7_count_119 (by decide) (fun _ => ?_) (fun z => absurd z (by decide))
    refine r_ldc C wQ_X7_54 dX7_count_135 ?_
    exact r_iret C hr hlocks (Nat.le_of_ble_eq_true rfl) (Nat.le_of_ble_eq_true rfl) dX7_count_137 (hpo _ _ _ ⟨rfl, rfl, rfl⟩)
  · obtain ⟨hlo, hhi⟩ := not_or.mp hsw1
    rcases (show (x).toInt = 0 ∨ (x).toInt = 1 ∨ (x).toInt = 2 ∨ (x).toInt = 3 ∨ (x).toInt = 4 ∨ (x).toInt = 5 ∨ (x).toInt = 6 ∨ (x).toInt = 7 ∨ (x).toInt = 8 ∨ (x).toInt = 9 ∨ (x).toInt = 10 ∨ (x).toInt = 11 ∨ (x).toInt = 12 by omega) with hz | hz | hz | hz | hz | hz | hz | hz | hz | hz | hz | hz | hz
    · exact absurd hz (by omega)
    · exact absurd hz (by omega)
    · exact absurd hz (by omega)
    · exact absurd hz (by omega)
    · exact absurd hz (by omega)
    · exact absurd hz (by omega)
    · exact absurd hz (by omega)
    · exact absurd hz (by omega)
    · exact absurd hz (by omega)
    · exact absurd hz (by omega)
    · exact absurd hz (by omega)
    · exact absurd hz (by omega)
    · exact absurd hz (by omega)
