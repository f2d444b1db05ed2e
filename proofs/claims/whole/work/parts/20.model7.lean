theorem nxV_ng {kd sr N r m : Nat} (hh : shOK kd N sr) (hr : r < rR (sid kd) N) (hm : m ≤ N) (h : ¬ 0 ≤ nxV kd sr N r m) : aR1 kd sr N r m = false := by
  cases g : aR1 kd sr N r m with
  | false => rfl
  | true =>
    rw [nxV, g] at h
    have h1 := nx_lt (sb := sid kd) hh.N hr hm
    have h2 := rR_le hh
    exact absurd (nI_pos' (by omega)) h
theorem nxV_nn {kd sr N r m : Nat} (h : 0 ≤ nxV kd sr N r m) : aR1 kd sr N r m = true := by
  cases g : aR1 kd sr N r m with
  | true => rfl
  | false =>
    rw [nxV, if_neg (by rw [g]; decide)] at h
    exact absurd h (by decide)

abbrev rm_X7_leads : Room := { frames := 3, cells := 0, slots := 0, locals := 65 }
set_option maxRecDepth 100000 in
set_option maxHeartbeats 4000000 in
theorem c_X7_leads {l : Launch} {G : gG} {n : Nat} {σ : gS} {m0 : Nat} {xstates xtyped xat xreason xdone xkind xn xstrength : Int32} {fs fwas fbegun faside ftext fsize fburnt fnext ffar fthen fqueue frankAt fturnAt : Nat → Int32} {k kd N sr o sd : Nat} (hk : k < 5) (hst : StkAt fs k kd N sr o sd) (hv : Vld kd N sr o sd) : GM l G yX7_leads cX7_leads 6 (some .int) rm_X7_leads n (mW G σ m0 [xstates, xtyped, xat, xreason, xdone, xkind, xn, xstrength] [fs, fwas, fbegun, faside, ftext, fsize, fburnt, fnext, ffar, fthen, fqueue, frankAt, fturnAt]) [.ref m0, .int (nI k)] (fun rv n2 σ2 => some (.int (nI (rk (sid kd) N o sd))) = rv ∧ n = n2 ∧ ∃ (f3 : Nat → Int32) (f2 : Nat → Int32) (g2 : Nat → Int32), (mW G σ m0 [xstates, xtyped, xat, xreason, xdone, nI kd, nI N, nI sr] [fs, fwas, fbegun, faside, ftext, f2, g2, f3, ffar, fthen, fqueue, frankAt, fturnAt]) = σ2 ∧ (NxIs f3 kd sr N (rR (sid kd) N)) ∧ (∀ j, j < N → f2 j = nI (sz N o j)) ∧ (∀ j, j < N → g2 j = nI (bt sd j))) := by
  refine GM.intro (by decide +kernel) (Nat.le_of_ble_eq_true rfl) (fun p e s m args below meth c C hr hlocks hname po hpo => ?_)
  have C : Cx p s m args c cX7_leads 6 RX7 G := C
  have hN6 := hv.1.N
  have hRl := rR_le hv.1
  refine r_aload_n C dX7_leads_0 rfl 0 rfl ?_
  refine r_iload_n C dX7_leads_1 rfl 1 rfl ?_
  refine r_callV (As := [.int (nI k)]) C (c_X7_looks (k := k) (kd := kd) (N := N) (sr := sr) (o := o) (sd := sd) (by first | assumption | omega) (by first | assumption | omega) (by first | assumption | omega)) wM_X7_105 wI_X7_looks wN_X7 wC_X7_looks wV_X7_looks hd_X7_looks ⟨Nat.le_of_ble_eq_true rfl, Nat.le_of_ble_eq_true rfl⟩ rfl (mW_o _ _ _ _ _) rfl rfl (Nat.le_of_ble_eq_true rfl) dX7_leads_2 ⟨Nat.le_of_ble_eq_true rfl, Nat.le_of_ble_eq_true rfl⟩ (fun rv n2 σ2 hp => ?_)
  obtain ⟨rfl, rfl, fL, gL, rfl, hzL, hbL⟩ := hp
  refine V.eq (σ2 := (mW G σ m0 [xstates, xtyped, xat, xreason, xdone, nI kd, nI N, nI sr] [fs, fwas, fbegun, faside, ftext, fL, gL, fnext, ffar, fthen, fqueue, frankAt, fturnAt])) (n2 := n) (st2 := []) rfl rfl rfl rfl ?_
  refine r_aload_n C dX7_leads_5 rfl 0 rfl ?_
  refine r_callV (As := []) C (c_X7_rank (kd := kd) (N := N) (o := o) (sd := sd) (hv.1.N) (hv.1.2.1) (hv.2.1) (hzL) (hbL) (hv.1.1) (hv.2.2)) wM_X7_130 wI_X7_rank wN_X7 wC_X7_rank wV_X7_rank hd_X7_rank ⟨Nat.le_of_ble_eq_true rfl, Nat.le_of_ble_eq_true rfl⟩ rfl (mW_o _ _ _ _ _) rfl rfl (Nat.le_of_ble_eq_true rfl) dX7_leads_6 ⟨Nat.le_of_ble_eq_true rfl, Nat.le_of_ble_eq_true rfl⟩ (fun rv n2 σ2 hp => ?_)
  obtain ⟨rfl, rfl, rfl⟩ := hp
  refine V.eq (σ2 := (mW G σ m0 [xstates, xtyped, xat, xreason, xdone, nI kd, nI N, nI sr] [fs, fwas, fbegun, faside, ftext, fL, gL, fnext, ffar, fthen, fqueue, frankAt, fturnAt])) (n2 := n) (st2 := [.int (nI (rk (sid kd) N o sd))]) rfl rfl rfl rfl ?_
  refine r_istore_n (lv2 := [(2, .int (nI (rk (sid kd) N o sd))), (0, .ref m0), (1, .int (nI k))]) C dX7_leads_9 rfl (by decide) rfl ?_
  refine r_iconst (v := nI 0) C dX7_leads_10 (by decide) ?_
  refine r_istore_n (lv2 := [(3, .int (nI 0)), (2, .int (nI (rk (sid kd) N o sd))), (0, .ref m0), (1, .int (nI k))]) C dX7_leads_11 rfl (by decide) rfl ?_
  have L12 : ∀ (fu : Nat) (r : Nat) (nf : Nat → Int32) (f0 : Nat → Int32) (g0 : Nat → Int32), (r ≤ rR (sid kd) N) → (NxIs nf kd sr N r) → (rR (sid kd) N + 1 - r) < fu → V p l e rm_X7_leads s m args below meth c G 6 (MQ below (gQ G po) args s rm_X7_leads.cells rm_X7_leads.slots (gF G)) 0 0 n (mW G σ m0 [xstates, xtyped, xat, xreason, xdone, nI kd, nI N, nI sr] [fs, fwas, fbegun, faside, ftext, f0, g0, nf, ffar, fthen, fqueue, frankAt, fturnAt]) 12 [(0, .ref m0), (1, .int (nI k)), (2, .int (nI (rk (sid kd) N o sd))), (3, .int (nI r))] [] := by
    intro fu
    induction fu with
    | zero => intro r nf f0 g0 hr9 hnf hm; exact absurd hm (Nat.not_lt_zero _)
    | succ fu ih12 =>
      intro r nf f0 g0 hr9 hnf hm12
      refine r_iload_n C dX7_leads_12 rfl 3 rfl ?_
      refine r_aload_n C dX7_leads_13 rfl 0 rfl ?_
      refine r_callV (As := []) C (c_X7_all (kd := kd) (N := N) (hv.1.N) (hv.1.1)) wM_X7_136 wI_X7_all wN_X7 wC_X7_all wV_X7_all hd_X7_all ⟨Nat.le_of_ble_eq_true rfl, Nat.le_of_ble_eq_true rfl⟩ rfl (mW_o _ _ _ _ _) rfl rfl (Nat.le_of_ble_eq_true rfl) dX7_leads_14 ⟨Nat.le_of_ble_eq_true rfl, Nat.le_of_ble_eq_true rfl⟩ (fun rv n2 σ2 hp => ?_)
      obtain ⟨rfl, rfl, rfl⟩ := hp
      refine V.eq (σ2 := (mW G σ m0 [xstates, xtyped, xat, xreason, xdone, nI kd, nI N, nI sr] [fs, fwas, fbegun, faside, ftext, f0, g0, nf, ffar, fthen, fqueue, frankAt, fturnAt])) (n2 := n) (st2 := [.int (nI (fac N * sm (sid kd) N)), .int (nI r)]) rfl rfl rfl rfl ?_
      refine V.top (y := nI (rR (sid kd) N)) (rfl) ?_
      refine r_icmp_geN (tgt := 96) C dX7_leads_17 (by decide) (by omega) (by omega) (fun cz17 => ?_) (fun cz17 => ?_)
      · refine r_aload_n C dX7_leads_96 rfl 0 rfl ?_
        refine r_iload_n C dX7_leads_97 rfl 1 rfl ?_
        refine r_callV (As := [.int (nI k)]) C (c_X7_looks (k := k) (kd := kd) (N := N) (sr := sr) (o := o) (sd := sd) (by first | assumption | omega) (by first | assumption | omega) (by first | assumption | omega)) wM_X7_105 wI_X7_looks wN_X7 wC_X7_looks wV_X7_looks hd_X7_looks ⟨Nat.le_of_ble_eq_true rfl, Nat.le_of_ble_eq_true rfl⟩ rfl (mW_o _ _ _ _ _) rfl rfl (Nat.le_of_ble_eq_true rfl) dX7_leads_98 ⟨Nat.le_of_ble_eq_true rfl, Nat.le_of_ble_eq_true rfl⟩ (fun rv n2 σ2 hp => ?_)
        obtain ⟨rfl, rfl, fM, gM, rfl, hzM, hbM⟩ := hp
        refine V.eq (σ2 := (mW G σ m0 [xstates, xtyped, xat, xreason, xdone, nI kd, nI N, nI sr] [fs, fwas, fbegun, faside, ftext, fM, gM, nf, ffar, fthen, fqueue, frankAt, fturnAt])) (n2 := n) (st2 := []) rfl rfl rfl rfl ?_
        refine r_iload_n C dX7_leads_101 rfl 2 rfl ?_
        exact r_iret C hr hlocks (Nat.le_of_ble_eq_true rfl) (Nat.le_of_ble_eq_true rfl) dX7_leads_102 (hpo _ _ _ ⟨rfl, rfl, nf, fM, gM, rfl, by rw [show rR (sid kd) N = r by omega]; exact hnf, hzM, hbM⟩)
      · refine r_aload_n C dX7_leads_20 rfl 0 rfl ?_
        refine r_iload_n C dX7_leads_21 rfl 3 rfl ?_
        refine r_callV (As := [.int (nI r)]) C (c_X7_unranks (kd := kd) (N := N) (o := oR (sid kd) N r) (sd := sR (sid kd) N r) (r := r) (hv.1.N) (hv.1.2.1) (oR_lt cz17) (hv.1.1) (sR_lt) (rk_R _ _ _)) wM_X7_139 wI_X7_unranks wN_X7 wC_X7_unranks wV_X7_unranks hd_X7_unranks ⟨Nat.le_of_ble_eq_true rfl, Nat.le_of_ble_eq_true rfl⟩ rfl (mW_o _ _ _ _ _) rfl rfl (Nat.le_of_ble_eq_true rfl) dX7_leads_22 ⟨Nat.le_of_ble_eq_true rfl, Nat.le_of_ble_eq_true rfl⟩ (fun rv n2 σ2 hp => ?_)
        obtain ⟨rfl, rfl, fU, gU, rfl, hzU, hbU⟩ := hp
        refine V.eq (σ2 := (mW G σ m0 [xstates, xtyped, xat, xreason, xdone, nI kd, nI N, nI sr] [fs, fwas, fbegun, faside, ftext, fU, gU, nf, ffar, fthen, fqueue, frankAt, fturnAt])) (n2 := n) (st2 := []) rfl rfl rfl rfl ?_
        refine r_iconst (v := nI 1) C dX7_leads_25 (by decide) ?_
        refine r_istore (lv2 := [(4, .int (nI 1)), (0, .ref m0), (1, .int (nI k)), (2, .int (nI (rk (sid kd) N o sd))), (3, .int (nI r))]) C dX7_leads_26 (by decide) rfl ?_
        have L28 : ∀ (fu : Nat) (mm : Nat) (nf2 : Nat → Int32) (f : Nat → Int32) (g : Nat → Int32), (mm ≤ N) → (NxIs nf2 kd sr N r) → (∀ j, j < mm → nf2 (6 * r + j) = nxV kd sr N r (j + 1)) → (∀ j, j < N → f j = nI (sz N (oR (sid kd) N r) j)) → (∀ j, j < N → g j = nI (bt (sR (sid kd) N r) j)) → (N + 1 - mm) < fu → V p l e rm_X7_leads s m args below meth c G 6 (MQ below (gQ G po) args s rm_X7_leads.cells rm_X7_leads.slots (gF G)) 0 0 n (mW G σ m0 [xstates, xtyped, xat, xreason, xdone, nI kd, nI N, nI sr] [fs, fwas, fbegun, faside, ftext, f, g, nf2, ffar, fthen, fqueue, frankAt, fturnAt]) 28 [(0, .ref m0), (1, .int (nI k)), (2, .int (nI (rk (sid kd) N o sd))), (3, .int (nI r)), (4, .int (nI (mm + 1)))] [] := by
          intro fu
          induction fu with
          | zero => intro mm nf2 f g hm hn1 hn2 hf hg hm; exact absurd hm (Nat.not_lt_zero _)
          | succ fu ih28 =>
            intro mm nf2 f g hm hn1 hn2 hf hg hm28
            refine r_iload C dX7_leads_28 4 rfl ?_
            refine r_aload_n C dX7_leads_30 rfl 0 rfl ?_
            refine rm_get (v := .int (nI N)) C 11 (by decide) wF_X7_59 rfl dX7_leads_31 ?_
            refine r_icmp_gtN (tgt := 90) C dX7_leads_34 (by decide) (by omega) (by omega) (fun cz34 => ?_) (fun cz34 => ?_)
            · refine r_iinc (v := nI (r + 1)) (lv2 := [(3, .int (nI (r + 1))), (0, .ref m0), (1, .int (nI k)), (2, .int (nI (rk (sid kd) N o sd))), (4, .int (nI (mm + 1)))]) C dX7_leads_90 (k := 3) rfl (nI_add _ 1) (by decide) rfl ?_
              refine r_goto (tgt := 12) C dX7_leads_93 (by decide) ?_
              refine V.sub (lv2 := [(0, .ref m0), (1, .int (nI k)), (2, .int (nI (rk (sid kd) N o sd))), (3, .int (nI (r + 1)))]) [1, 2, 3, 0] rfl ?_
              exact ih12 (r + 1) nf2 f g (by omega) (nx_row (by omega) hn1 hn2) (by omega)
            · refine r_aload_n C dX7_leads_37 rfl 0 rfl ?_
              refine r_iload C dX7_leads_38 4 rfl ?_
              refine r_callV (As := [.int (nI (mm + 1))]) C (c_X7_can (kd := kd) (N := N) (o := oR (sid kd) N r) (sd := sR (sid kd) N r) (sr := sr) (k := mm + 1) (hv.1.N) (hv.1.2.1) (oR_lt cz17) (hf) (hg) (hv.1.1) (hv.1.sr) (by omega) (by omega)) wM_X7_112 wI_X7_can wN_X7 wC_X7_can wV_X7_can hd_X7_can ⟨Nat.le_of_ble_eq_true rfl, Nat.le_of_ble_eq_true rfl⟩ rfl (mW_o _ _ _ _ _) rfl rfl (Nat.le_of_ble_eq_true rfl) dX7_leads_40 ⟨Nat.le_of_ble_eq_true rfl, Nat.le_of_ble_eq_true rfl⟩ (fun rv n2 σ2 hp => ?_)
              obtain ⟨rfl, rfl, rfl⟩ := hp
              refine V.eq (σ2 := (mW G σ m0 [xstates, xtyped, xat, xreason, xdone, nI kd, nI N, nI sr] [fs, fwas, fbegun, faside, ftext, f, g, nf2, ffar, fthen, fqueue, frankAt, fturnAt])) (n2 := n) (st2 := [.int (bI (al kd sr N (oR (sid kd) N r) (sR (sid kd) N r) (mm + 1)))]) rfl rfl rfl rfl ?_
              refine V.top (y := bI (aR1 kd sr N r (mm + 1))) (rfl) ?_
              refine r_istore (lv2 := [(5, .int (bI (aR1 kd sr N r (mm + 1)))), (0, .ref m0), (1, .int (nI k)), (2, .int (nI (rk (sid kd) N o sd))), (3, .int (nI r)), (4, .int (nI (mm + 1)))]) C dX7_leads_43 (by decide) rfl ?_
              refine r_aload_n C dX7_leads_45 rfl 1 rfl ?_
              refine r_iload C dX7_leads_46 5 rfl ?_
              refine r_callV (As := [.int (nI (mm + 1))]) C (c_X7_turns (kd := kd) (N := N) (o := oR (sid kd) N r) (sd := sR (sid kd) N r) (k := mm + 1) (hv.1.N) (hv.1.2.1) (oR_lt cz17) (hf) (hg) (hv.1.1) (sR_lt) (by omega) (by omega)) wM_X7_116 wI_X7_turns wN_X7 wC_X7_turns wV_X7_turns hd_X7_turns ⟨Nat.le_of_ble_eq_true rfl, Nat.le_of_ble_eq_true rfl⟩ rfl (mW_o _ _ _ _ _) rfl rfl (Nat.le_of_ble_eq_true rfl) dX7_leads_48 ⟨Nat.le_of_ble_eq_true rfl, Nat.le_of_ble_eq_true rfl⟩ (fun rv n2 σ2 hp => ?_)
              obtain ⟨rfl, rfl, fT, gT, rfl, hzT, hbT⟩ := hp
              refine V.eq (σ2 := (mW G σ m0 [xstates, xtyped, xat, xreason, xdone, nI kd, nI N, nI sr] [fs, fwas, fbegun, faside, ftext, fT, gT, nf2, ffar, fthen, fqueue, frankAt, fturnAt])) (n2 := n) (st2 := []) rfl rfl rfl rfl ?_
              refine r_aload_n C dX7_leads_51 rfl 1 rfl ?_
              refine rm_get (v := .ref (m0 + 8)) C 15 (by decide) wF_X7_32 rfl dX7_leads_52 ?_
              refine r_bipush (v := nI 6) C dX7_leads_55 (by decide) ?_
              refine r_iload_n C dX7_leads_57 rfl 4 rfl ?_
              refine r_imulN C dX7_leads_58 ?_
              refine r_iload C dX7_leads_59 5 rfl ?_
              refine r_iaddN C dX7_leads_61 ?_
              refine r_iconst (v := nI 1) C dX7_leads_62 (by decide) ?_
              refine r_isubN C dX7_leads_63 (by omega) ?_
              refine r_iload C dX7_leads_64 0 rfl ?_
              refine r_if_eqB (tgt := 76) C dX7_leads_66 (by decide) (fun cz66 => ?_) (fun cz66 => ?_)
              · refine r_iconst (v := (-1)) C dX7_leads_76 (by decide) ?_
                refine rm_ast (f := nf2) (len := 23040) (A2 := [fs, fwas, fbegun, faside, ftext, fT, gT, (upd nf2 ((6 * r + (mm + 1)) - 1) (-1)), ffar, fthen, fqueue, frankAt, fturnAt]) C 7 rfl rfl (by decide) (by omega) rfl rfl dX7_leads_77 ?_
                refine r_aload_n C dX7_leads_78 rfl 1 rfl ?_
                refine r_iload C dX7_leads_79 5 rfl ?_
                refine r_callV (As := [.int (nI (mm + 1))]) C (c_X7_turns (kd := kd) (N := N) (o := tnO N (oR (sid kd) N r) (mm + 1)) (sd := tnS (sid kd) (sR (sid kd) N r) (mm + 1)) (k := mm + 1) (hv.1.N) (hv.1.2.1) (tnO_lt hv.1.N (oR_lt cz17) (by omega)) (hzT) (hbT) (hv.1.1) (tnS_lt hv.1.N sR_lt (by omega)) (by omega) (by omega)) wM_X7_116 wI_X7_turns wN_X7 wC_X7_turns wV_X7_turns hd_X7_turns ⟨Nat.le_of_ble_eq_true rfl, Nat.le_of_ble_eq_true rfl⟩ rfl (mW_o _ _ _ _ _) rfl rfl (Nat.le_of_ble_eq_true rfl) dX7_leads_81 ⟨Nat.le_of_ble_eq_true rfl, Nat.le_of_ble_eq_true rfl⟩ (fun rv n2 σ2 hp => ?_)
                obtain ⟨rfl, rfl, fV, gV, rfl, hzV, hbV⟩ := hp
                refine V.eq (σ2 := (mW G σ m0 [xstates, xtyped, xat, xreason, xdone, nI kd, nI N, nI sr] [fs, fwas, fbegun, faside, ftext, fV, gV, (upd nf2 ((6 * r + (mm + 1)) - 1) (-1)), ffar, fthen, fqueue, frankAt, fturnAt])) (n2 := n) (st2 := []) rfl rfl rfl rfl ?_
                refine r_iinc (v := nI (mm + 2)) (lv2 := [(4, .int (nI (mm + 2))), (5, .int (bI (aR1 kd sr N r (mm + 1)))), (0, .ref m0), (1, .int (nI k)), (2, .int (nI (rk (sid kd) N o sd))), (3, .int (nI r))]) C dX7_leads_84 (k := 5) rfl (nI_add _ 1) (by decide) rfl ?_
                refine r_goto (tgt := 28) C dX7_leads_87 (by decide) ?_
                refine V.sub (lv2 := [(0, .ref m0), (1, .int (nI k)), (2, .int (nI (rk (sid kd) N o sd))), (3, .int (nI r)), (4, .int (nI (mm + 2)))]) [2, 3, 4, 5, 0] rfl ?_
                refine V.eq (σ2 := (mW G σ m0 [xstates, xtyped, xat, xreason, xdone, nI kd, nI N, nI sr] [fs, fwas, fbegun, faside, ftext, fV, gV, (upd nf2 ((6 * r + (mm + 1)) - 1) (-1)), ffar, fthen, fqueue, frankAt, fturnAt])) (lv2 := [(0, .ref m0), (1, .int (nI k)), (2, .int (nI (rk (sid kd) N o sd))), (3, .int (nI r)), (4, .int (nI ((mm + 1) + 1)))]) (st2 := []) rfl rfl (by rw [(show nI (mm + 2) = nI ((mm + 1) + 1) from congrArg nI (show mm + 2 = (mm + 1) + 1 by omega))]) rfl ?_
                exact ih28 (mm + 1) (upd nf2 ((6 * r + (mm + 1)) - 1) (-1)) fV gV (by omega) ((nx_step hN6 (by omega) hn1 hn2 (by simp [nxV, cz66])).1) ((nx_step hN6 (by omega) hn1 hn2 (by simp [nxV, cz66])).2) (fun j hj => by rw [hzV j hj, tnO_in hN6 (oR_lt cz17) (by omega)]) (fun j hj => by rw [hbV j hj, tnS_in hN6 sR_lt (by omega)]) (by omega)
              · refine r_aload_n C dX7_leads_69 rfl 1 rfl ?_
                refine r_callV (As := []) C (c_X7_rank (kd := kd) (N := N) (o := tnO N (oR (sid kd) N r) (mm + 1)) (sd := tnS (sid kd) (sR (sid kd) N r) (mm + 1)) (hv.1.N) (hv.1.2.1) (tnO_lt hv.1.N (oR_lt cz17) (by omega)) (hzT) (hbT) (hv.1.1) (tnS_lt hv.1.N sR_lt (by omega))) wM_X7_130 wI_X7_rank wN_X7 wC_X7_rank wV_X7_rank hd_X7_rank ⟨Nat.le_of_ble_eq_true rfl, Nat.le_of_ble_eq_true rfl⟩ rfl (mW_o _ _ _ _ _) rfl rfl (Nat.le_of_ble_eq_true rfl) dX7_leads_70 ⟨Nat.le_of_ble_eq_true rfl, Nat.le_of_ble_eq_true rfl⟩ (fun rv n2 σ2 hp => ?_)
                obtain ⟨rfl, rfl, rfl⟩ := hp
                refine V.eq (σ2 := (mW G σ m0 [xstates, xtyped, xat, xreason, xdone, nI kd, nI N, nI sr] [fs, fwas, fbegun, faside, ftext, fT, gT, nf2, ffar, fthen, fqueue, frankAt, fturnAt])) (n2 := n) (st2 := [.int (nI (rk (sid kd) N (tnO N (oR (sid kd) N r) (mm + 1)) (tnS (sid kd) (sR (sid kd) N r) (mm + 1)))), .int (nI ((6 * r + (mm + 1)) - 1)), .ref (m0 + 8)]) rfl rfl rfl rfl ?_
                refine V.top (y := nI (nx (sid kd) N r (mm + 1))) (rfl) ?_
                refine r_goto (tgt := 77) C dX7_leads_73 (by decide) ?_
                refine rm_ast (f := nf2) (len := 23040) (A2 := [fs, fwas, fbegun, faside, ftext, fT, gT, (upd nf2 ((6 * r + (mm + 1)) - 1) (nI (nx (sid kd) N r (mm + 1)))), ffar, fthen, fqueue, frankAt, fturnAt]) C 7 rfl rfl (by decide) (by omega) rfl rfl dX7_leads_77 ?_
                refine r_aload_n C dX7_leads_78 rfl 1 rfl ?_
                refine r_iload C dX7_leads_79 5 rfl ?_
                refine r_callV (As := [.int (nI (mm + 1))]) C (c_X7_turns (kd := kd) (N := N) (o := tnO N (oR (sid kd) N r) (mm + 1)) (sd := tnS (sid kd) (sR (sid kd) N r) (mm + 1)) (k := mm + 1) (hv.1.N) (hv.1.2.1) (tnO_lt hv.1.N (oR_lt cz17) (by omega)) (hzT) (hbT) (hv.1.1) (tnS_lt hv.1.N sR_lt (by omega)) (by omega) (by omega)) wM_X7_116 wI_X7_turns wN_X7 wC_X7_turns wV_X7_turns hd_X7_turns ⟨Nat.le_of_ble_eq_true rfl, Nat.le_of_ble_eq_true rfl⟩ rfl (mW_o _ _ _ _ _) rfl rfl (Nat.le_of_ble_eq_true rfl) dX7_leads_81 ⟨Nat.le_of_ble_eq_true rfl, Nat.le_of_ble_eq_true rfl⟩ (fun rv n2 σ2 hp => ?_)
                obtain ⟨rfl, rfl, fV, gV, rfl, hzV, hbV⟩ := hp
                refine V.eq (σ2 := (mW G σ m0 [xstates, xtyped, xat, xreason, xdone, nI kd, nI N, nI sr] [fs, fwas, fbegun, faside, ftext, fV, gV, (upd nf2 ((6 * r + (mm + 1)) - 1) (nI (nx (sid kd) N r (mm + 1)))), ffar, fthen, fqueue, frankAt, fturnAt])) (n2 := n) (st2 := []) rfl rfl rfl rfl ?_
                refine r_iinc (v := nI (mm + 2)) (lv2 := [(4, .int (nI (mm + 2))), (5, .int (bI (aR1 kd sr N r (mm + 1)))), (0, .ref m0), (1, .int (nI k)), (2, .int (nI (rk (sid kd) N o sd))), (3, .int (nI r))]) C dX7_leads_84 (k := 5) rfl (nI_add _ 1) (by decide) rfl ?_
                refine r_goto (tgt := 28) C dX7_leads_87 (by decide) ?_
                refine V.sub (lv2 := [(0, .ref m0), (1, .int (nI k)), (2, .int (nI (rk (sid kd) N o sd))), (3, .int (nI r)), (4, .int (nI (mm + 2)))]) [2, 3, 4, 5, 0] rfl ?_
                refine V.eq (σ2 := (mW G σ m0 [xstates, xtyped, xat, xreason, xdone, nI kd, nI N, nI sr] [fs, fwas, fbegun, faside, ftext, fV, gV, (upd nf2 ((6 * r + (mm + 1)) - 1) (nI (nx (sid kd) N r (mm + 1)))), ffar, fthen, fqueue, frankAt, fturnAt])) (lv2 := [(0, .ref m0), (1, .int (nI k)), (2, .int (nI (rk (sid kd) N o sd))), (3, .int (nI r)), (4, .int (nI ((mm + 1) + 1)))]) (st2 := []) rfl rfl (by rw [(show nI (mm + 2) = nI ((mm + 1) + 1) from congrArg nI (show mm + 2 = (mm + 1) + 1 by omega))]) rfl ?_
                exact ih28 (mm + 1) (upd nf2 ((6 * r + (mm + 1)) - 1) (nI (nx (sid kd) N r (mm + 1)))) fV gV (by omega) ((nx_step hN6 (by omega) hn1 hn2 (by simp [nxV, cz66])).1) ((nx_step hN6 (by omega) hn1 hn2 (by simp [nxV, cz66])).2) (fun j hj => by rw [hzV j hj, tnO_in hN6 (oR_lt cz17) (by omega)]) (fun j hj => by rw [hbV j hj, tnS_in hN6 sR_lt (by omega)]) (by omega)
        refine V.sub (lv2 := [(0, .ref m0), (1, .int (nI k)), (2, .int (nI (rk (sid kd) N o sd))), (3, .int (nI r)), (4, .int (nI 1))]) [1, 2, 3, 4, 0] rfl ?_
        refine V.eq (σ2 := (mW G σ m0 [xstates, xtyped, xat, xreason, xdone, nI kd, nI N, nI sr] [fs, fwas, fbegun, faside, ftext, fU, gU, nf, ffar, fthen, fqueue, frankAt, fturnAt])) (lv2 := [(0, .ref m0), (1, .int (nI k)), (2, .int (nI (rk (sid kd) N o sd))), (3, .int (nI r)), (4, .int (nI (0 + 1)))]) (st2 := []) rfl rfl (by rw [(show nI 1 = nI (0 + 1) from congrArg nI (show 1 = 0 + 1 by omega))]) rfl ?_
        exact L28 _ 0 nf fU gU (by omega) (hnf) (fun j hj => absurd hj (Nat.not_lt_zero j)) (hzU) (hbU) (Nat.lt_succ_self _)
  refine V.sub (lv2 := [(0, .ref m0), (1, .int (nI k)), (2, .int (nI (rk (sid kd) N o sd))), (3, .int (nI 0))]) [2, 3, 1, 0] rfl ?_
  exact L12 _ 0 fnext fL gL (by omega) (fun a ha => absurd ha (Nat.not_lt_zero a)) (Nat.lt_succ_self _)

abbrev rm_X7_ways_y : Room := { frames := 4, cells := 0, slots := 0, locals := 90 }
set_option maxRecDepth 100000 in
set_option maxHeartbeats 4000000 in
theorem c_X7_ways_y {l : Launch} {G : gG} {n : Nat} {σ : gS} {m0 : Nat} {xstates xtyped xat xreason xdone xkind xn xstrength : Int32} {fs fwas fbegun faside ftext fsize fburnt fnext ffar fthen fqueue frankAt fturnAt : Nat → Int32} {ns k kd N sr o sd : Nat} {w : Nat} (hns : fs 0 = nI ns) (hns5 : ns ≤ 5) (hkn : k < ns) (hst : StkAt fs k kd N sr o sd) (hv : Vld kd N sr o sd) (hw : w ≤ 5) : GM l G yX7_ways cX7_ways 7 (some .int) rm_X7_ways_y n (mW G σ m0 [xstates, xtyped, xat, xreason, xdone, xkind, xn, xstrength] [fs, fwas, fbegun, faside, ftext, fsize, fburnt, fnext, ffar, fthen, fqueue, frankAt, fturnAt]) [.ref m0, .int (nI k), .int (nI w)] (fun rv n2 σ2 => some (.int (nI (wy kd sr N w (rk (sid kd) N o sd)))) = rv ∧ n = n2 ∧ ∃ (fr2 : Nat → Int32) (th9 : Nat → Int32) (f3 : Nat → Int32) (f2 : Nat → Int32) (g2 : Nat → Int32), (mW G σ m0 [xstates, xtyped, xat, xreason, xdone, nI kd, nI N, nI sr] [fs, fwas, fbegun, faside, ftext, f2, g2, f3, fr2, th9, fqueue, frankAt, fturnAt]) = σ2) := by
  refine GM.intro (by decide +kernel) (Nat.le_of_ble_eq_true rfl) (fun p e s m args below meth c C hr hlocks hname po hpo => ?_)
  have C : Cx p s m args c cX7_ways 7 RX7 G := C
  have hk : k < 5 := by omega
  have hN6 := hv.1.N
  have hN1 := hv.1.2.1
  have hRl := rR_le hv.1
  have hol := rk_ltR hv.2.1 hv.2.2
  refine r_aload_n C dX7_ways_0 rfl 0 rfl ?_
  refine r_iload_n C dX7_ways_1 rfl 1 rfl ?_
  refine r_callV (As := [.int (nI k)]) C (c_X7_isStack (x := nI k) (ns := ns) (by first | assumption | omega)) wM_X7_98 wI_X7_isStack wN_X7 wC_X7_isStack wV_X7_isStack hd_X7_isStack ⟨Nat.le_of_ble_eq_true rfl, Nat.le_of_ble_eq_true rfl⟩ rfl (mW_o _ _ _ _ _) rfl rfl (Nat.le_of_ble_eq_true rfl) dX7_ways_2 ⟨Nat.le_of_ble_eq_true rfl, Nat.le_of_ble_eq_true rfl⟩ (fun rv n2 σ2 hp => ?_)
  obtain ⟨rfl, rfl, rfl⟩ := hp
  refine V.eq (σ2 := (mW G σ m0 [xstates, xtyped, xat, xreason, xdone, xkind, xn, xstrength] [fs, fwas, fbegun, faside, ftext, fsize, fburnt, fnext, ffar, fthen, fqueue, frankAt, fturnAt])) (n2 := n) (st2 := [.int (bI (isS (nI k) ns))]) rfl rfl rfl rfl ?_
  refine V.top (y := bI true) (congrArg bI (isS_t ns (by omega) k hkn)) ?_
  refine r_if_eqB (tgt := 17) C dX7_ways_5 (by decide) (fun z => absurd z (by decide)) (fun _ => ?_)
  refine r_iload_n C dX7_ways_8 rfl 2 rfl ?_
  refine r_iconst (v := nI 0) C dX7_ways_9 (by decide) ?_
  refine r_iconst (v := nI 5) C dX7_ways_10 (by decide) ?_
  refine r_callS (As := [.int (nI w), .int (nI 0), .int (nI 5)]) C (c_X7_in (v := nI w) (low := nI 0) (high := nI 5) ) wM_X7_50 wS_X7_in wN_X7 wC_X7_in hd_X7_in ⟨Nat.le_of_ble_eq_true rfl, Nat.le_of_ble_eq_true rfl⟩ rfl rfl (Nat.le_of_ble_eq_true rfl) dX7_ways_11 ⟨Nat.le_of_ble_eq_true rfl, Nat.le_of_ble_eq_true rfl⟩ (fun rv n2 σ2 hp => ?_)
  obtain ⟨rfl, rfl, rfl⟩ := hp
  refine V.eq (σ2 := (mW G σ m0 [xstates, xtyped, xat, xreason, xdone, xkind, xn, xstrength] [fs, fwas, fbegun, faside, ftext, fsize, fburnt, fnext, ffar, fthen, fqueue, frankAt, fturnAt])) (n2 := n) (st2 := [.int (bI (decide ((nI 0) ≤ (nI w) ∧ (nI w) ≤ (nI 5))))]) rfl rfl rfl rfl ?_
  refine V.top (y := bI true) (congrArg bI (in_N (by omega) (by omega) (by omega))) ?_
  refine r_if_neB (tgt := 20) C dX7_ways_14 (by decide) (fun _ => ?_) (fun z => absurd z (by decide))
  refine r_aload_n C dX7_ways_20 rfl 0 rfl ?_
  refine r_iload_n C dX7_ways_21 rfl 1 rfl ?_
  refine r_callV (As := [.int (nI k)]) C (c_X7_leads (k := k) (kd := kd) (N := N) (sr := sr) (o := o) (sd := sd) (by first | assumption | omega) (by first | assumption | omega) (by first | assumption | omega)) wM_X7_143 wI_X7_leads wN_X7 wC_X7_leads wV_X7_leads hd_X7_leads ⟨Nat.le_of_ble_eq_true rfl, Nat.le_of_ble_eq_true rfl⟩ rfl (mW_o _ _ _ _ _) rfl rfl (Nat.le_of_ble_eq_true rfl) dX7_ways_22 ⟨Nat.le_of_ble_eq_true rfl, Nat.le_of_ble_eq_true rfl⟩ (fun rv n2 σ2 hp => ?_)
  obtain ⟨rfl, rfl, fN, fL, gL, rfl, hnx, hzL, hbL⟩ := hp
  refine V.eq (σ2 := (mW G σ m0 [xstates, xtyped, xat, xreason, xdone, nI kd, nI N, nI sr] [fs, fwas, fbegun, faside, ftext, fL, gL, fN, ffar, fthen, fqueue, frankAt, fturnAt])) (n2 := n) (st2 := [.int (nI (rk (sid kd) N o sd))]) rfl rfl rfl rfl ?_
  refine r_istore_n (lv2 := [(3, .int (nI (rk (sid kd) N o sd))), (0, .ref m0), (1, .int (nI k)), (2, .int (nI w))]) C dX7_ways_25 rfl (by decide) rfl ?_
  refine r_iconst (v := nI 0) C dX7_ways_26 (by decide) ?_
  refine r_istore (lv2 := [(4, .int (nI 0)), (3, .int (nI (rk (sid kd) N o sd))), (0, .ref m0), (1, .int (nI k)), (2, .int (nI w))]) C dX7_ways_27 (by decide) rfl ?_
  have L29 : ∀ (fu : Nat) (i : Nat) (f1 : Nat → Int32), (i ≤ rR (sid kd) N) → (∀ j, j < i → f1 j = nI (wy kd sr N 0 j)) → (rR (sid kd) N + 1 - i) < fu → V p l e rm_X7_ways_y s m args below meth c G 7 (MQ below (gQ G po) args s rm_X7_ways_y.cells rm_X7_ways_y.slots (gF G)) 0 0 n (mW G σ m0 [xstates, xtyped, xat, xreason, xdone, nI kd, nI N, nI sr] [fs, fwas, fbegun, faside, ftext, fL, gL, fN, f1, fthen, fqueue, frankAt, fturnAt]) 29 [(0, .ref m0), (1, .int (nI k)), (2, .int (nI w)), (3, .int (nI (rk (sid kd) N o sd))), (4, .int (nI i))] [] := by
    intro fu
    induction fu with
    | zero => intro i f1 hi hf1 hm; exact absurd hm (Nat.not_lt_zero _)
    | succ fu ih29 =>
      intro i f1 hi hf1 hm29
      refine r_iload C dX7_ways_29 4 rfl ?_
      refine r_aload_n C dX7_ways_31 rfl 0 rfl ?_
      refine r_callV (As := []) C (c_X7_all (kd := kd) (N := N) (hv.1.N) (hv.1.1)) wM_X7_136 wI_X7_all wN_X7 wC_X7_all wV_X7_all hd_X7_all ⟨Nat.le_of_ble_eq_true rfl, Nat.le_of_ble_eq_true rfl⟩ rfl (mW_o _ _ _ _ _) rfl rfl (Nat.le_of_ble_eq_true rfl) dX7_ways_32 ⟨Nat.le_of_ble_eq_true rfl, Nat.le_of_ble_eq_true rfl⟩ (fun rv n2 σ2 hp => ?_)
      obtain ⟨rfl, rfl, rfl⟩ := hp
      refine V.eq (σ2 := (mW G σ m0 [xstates, xtyped, xat, xreason, xdone, nI kd, nI N, nI sr] [fs, fwas, fbegun, faside, ftext, fL, gL, fN, f1, fthen, fqueue, frankAt, fturnAt])) (n2 := n) (st2 := [.int (nI (fac N * sm (sid kd) N)), .int (nI i)]) rfl rfl rfl rfl ?_
      refine V.top (y := nI (rR (sid kd) N)) (rfl) ?_
      refine r_icmp_geN (tgt := 61) C dX7_ways_35 (by decide) (by omega) (by omega) (fun cz35 => ?_) (fun cz35 => ?_)
      · refine r_iconst (v := nI 0) C dX7_ways_61 (by decide) ?_
        refine r_istore (lv2 := [(4, .int (nI 0)), (0, .ref m0), (1, .int (nI k)), (2, .int (nI w)), (3, .int (nI (rk (sid kd) N o sd)))]) C dX7_ways_62 (by decide) rfl ?_
        have L64 : ∀ (fu : Nat) (t : Nat) (ff : Nat → Int32) (th0 : Nat → Int32), (t ≤ w) → (∀ j, j < rR (sid kd) N → ff j = nI (wy kd sr N t j)) → (w + 1 - t) < fu → V p l e rm_X7_ways_y s m args below meth c G 7 (MQ below (gQ G po) args s rm_X7_ways_y.cells rm_X7_ways_y.slots (gF G)) 0 0 n (mW G σ m0 [xstates, xtyped, xat, xreason, xdone, nI kd, nI N, nI sr] [fs, fwas, fbegun, faside, ftext, fL, gL, fN, ff, th0, fqueue, frankAt, fturnAt]) 64 [(0, .ref m0), (1, .int (nI k)), (2, .int (nI w)), (3, .int (nI (rk (sid kd) N o sd))), (4, .int (nI t))] [] := by
          intro fu
          induction fu with
          | zero => intro t ff th0 ht hff hm; exact absurd hm (Nat.not_lt_zero _)
          | succ fu ih64 =>
            intro t ff th0 ht hff hm64
            refine r_iload C dX7_ways_64 4 rfl ?_
            refine r_iload_n C dX7_ways_66 rfl 2 rfl ?_
            refine r_icmp_geN (tgt := 200) C dX7_ways_67 (by decide) (by omega) (by omega) (fun cz67 => ?_) (fun cz67 => ?_)
            · have htw : t = w := by omega
              refine r_aload_n C dX7_ways_200 rfl 0 rfl ?_
              refine rm_get (v := .ref (m0 + 9)) C 16 (by decide) wF_X7_35 rfl dX7_ways_201 ?_
              refine r_iload_n C dX7_ways_204 rfl 3 rfl ?_
              have hxl := hol
              refine rm_ald (f := ff) (len := 3840) C 8 rfl rfl (by decide) (by omega) dX7_ways_205 ?_
              refine V.top (y := nI (wy kd sr N t (rk (sid kd) N o sd))) (hff (rk (sid kd) N o sd) hxl) ?_
              refine V.top (y := nI (wy kd sr N w (rk (sid kd) N o sd))) (by rw [htw]) ?_
              exact r_iret C hr hlocks (Nat.le_of_ble_eq_true rfl) (Nat.le_of_ble_eq_true rfl) dX7_ways_206 (hpo _ _ _ ⟨rfl, rfl, ff, th0, fN, fL, gL, rfl⟩)
            · refine r_iconst (v := nI 0) C dX7_ways_70 (by decide) ?_
              refine r_istore (lv2 := [(5, .int (nI 0)), (0, .ref m0), (1, .int (nI k)), (2, .int (nI w)), (3, .int (nI (rk (sid kd) N o sd))), (4, .int (nI t))]) C dX7_ways_71 (by decide) rfl ?_
              have L73 : ∀ (fu : Nat) (r : Nat) (th : Nat → Int32), (r ≤ rR (sid kd) N) → (∀ j, j < r → th j = nI (wy kd sr N (t + 1) j)) → (rR (sid kd) N + 1 - r) < fu → V p l e rm_X7_ways_y s m args below meth c G 7 (MQ below (gQ G po) args s rm_X7_ways_y.cells rm_X7_ways_y.slots (gF G)) 0 0 n (mW G σ m0 [xstates, xtyped, xat, xreason, xdone, nI kd, nI N, nI sr] [fs, fwas, fbegun, faside, ftext, fL, gL, fN, ff, th, fqueue, frankAt, fturnAt]) 73 [(0, .ref m0), (1, .int (nI k)), (2, .int (nI w)), (3, .int (nI (rk (sid kd) N o sd))), (4, .int (nI t)), (5, .int (nI r))] [] := by
                intro fu
                induction fu with
                | zero => intro r th hr9 hth hm; exact absurd hm (Nat.not_lt_zero _)
                | succ fu ih73 =>
                  intro r th hr9 hth hm73
                  refine r_iload C dX7_ways_73 5 rfl ?_
                  refine r_aload_n C dX7_ways_75 rfl 0 rfl ?_
                  refine r_callV (As := []) C (c_X7_all (kd := kd) (N := N) (hv.1.N) (hv.1.1)) wM_X7_136 wI_X7_all wN_X7 wC_X7_all wV_X7_all hd_X7_all ⟨Nat.le_of_ble_eq_true rfl, Nat.le_of_ble_eq_true rfl⟩ rfl (mW_o _ _ _ _ _) rfl rfl (Nat.le_of_ble_eq_true rfl) dX7_ways_76 ⟨Nat.le_of_ble_eq_true rfl, Nat.le_of_ble_eq_true rfl⟩ (fun rv n2 σ2 hp => ?_)
                  obtain ⟨rfl, rfl, rfl⟩ := hp
                  refine V.eq (σ2 := (mW G σ m0 [xstates, xtyped, xat, xreason, xdone, nI kd, nI N, nI sr] [fs, fwas, fbegun, faside, ftext, fL, gL, fN, ff, th, fqueue, frankAt, fturnAt])) (n2 := n) (st2 := [.int (nI (fac N * sm (sid kd) N)), .int (nI r)]) rfl rfl rfl rfl ?_
                  refine V.top (y := nI (rR (sid kd) N)) (rfl) ?_
                  refine r_icmp_geN (tgt := 162) C dX7_ways_79 (by decide) (by omega) (by omega) (fun cz79 => ?_) (fun cz79 => ?_)
                  · refine r_iconst (v := nI 0) C dX7_ways_162 (by decide) ?_
                    refine r_istore (lv2 := [(5, .int (nI 0)), (0, .ref m0), (1, .int (nI k)), (2, .int (nI w)), (3, .int (nI (rk (sid kd) N o sd))), (4, .int (nI t))]) C dX7_ways_163 (by decide) rfl ?_
                    have L165 : ∀ (fu : Nat) (i5 : Nat) (f5 : Nat → Int32), (i5 ≤ rR (sid kd) N) → (∀ j, j < i5 → f5 j = nI (wy kd sr N (t + 1) j)) → (rR (sid kd) N + 1 - i5) < fu → V p l e rm_X7_ways_y s m args below meth c G 7 (MQ below (gQ G po) args s rm_X7_ways_y.cells rm_X7_ways_y.slots (gF G)) 0 0 n (mW G σ m0 [xstates, xtyped, xat, xreason, xdone, nI kd, nI N, nI sr] [fs, fwas, fbegun, faside, ftext, fL, gL, fN, f5, th, fqueue, frankAt, fturnAt]) 165 [(0, .ref m0), (1, .int (nI k)), (2, .int (nI w)), (3, .int (nI (rk (sid kd) N o sd))), (4, .int (nI t)), (5, .int (nI i5))] [] := by
                      intro fu
                      induction fu with
                      | zero => intro i5 f5 hi5 hf5 hm; exact absurd hm (Nat.not_lt_zero _)
                      | succ fu ih165 =>
                        intro i5 f5 hi5 hf5 hm165
                        refine r_iload C dX7_ways_165 5 rfl ?_
                        refine r_aload_n C dX7_ways_167 rfl 0 rfl ?_
                        refine r_callV (As := []) C (c_X7_all (kd := kd) (N := N) (hv.1.N) (hv.1.1)) wM_X7_136 wI_X7_all wN_X7 wC_X7_all wV_X7_all hd_X7_all ⟨Nat.le_of_ble_eq_true rfl, Nat.le_of_ble_eq_true rfl⟩ rfl (mW_o _ _ _ _ _) rfl rfl (Nat.le_of_ble_eq_true rfl) dX7_ways_168 ⟨Nat.le_of_ble_eq_true rfl, Nat.le_of_ble_eq_true rfl⟩ (fun rv n2 σ2 hp => ?_)
                        obtain ⟨rfl, rfl, rfl⟩ := hp
                        refine V.eq (σ2 := (mW G σ m0 [xstates, xtyped, xat, xreason, xdone, nI kd, nI N, nI sr] [fs, fwas, fbegun, faside, ftext, fL, gL, fN, f5, th, fqueue, frankAt, fturnAt])) (n2 := n) (st2 := [.int (nI (fac N * sm (sid kd) N)), .int (nI i5)]) rfl rfl rfl rfl ?_
                        refine V.top (y := nI (rR (sid kd) N)) (rfl) ?_
                        refine r_icmp_geN (tgt := 194) C dX7_ways_171 (by decide) (by omega) (by omega) (fun cz171 => ?_) (fun cz171 => ?_)
                        · refine r_iinc (v := nI (t + 1)) (lv2 := [(4, .int (nI (t + 1))), (0, .ref m0), (1, .int (nI k)), (2, .int (nI w)), (3, .int (nI (rk (sid kd) N o sd))), (5, .int (nI i5))]) C dX7_ways_194 (k := 4) rfl (nI_add _ 1) (by decide) rfl ?_
                          refine r_goto (tgt := 64) C dX7_ways_197 (by decide) ?_
                          refine V.sub (lv2 := [(0, .ref m0), (1, .int (nI k)), (2, .int (nI w)), (3, .int (nI (rk (sid kd) N o sd))), (4, .int (nI (t + 1)))]) [1, 2, 3, 4, 0] rfl ?_
                          exact ih64 (t + 1) f5 th (by omega) (fun j hj => hf5 j (by omega)) (by omega)
                        · refine r_aload_n C dX7_ways_174 rfl 0 rfl ?_
                          refine rm_get (v := .ref (m0 + 9)) C 16 (by decide) wF_X7_35 rfl dX7_ways_175 ?_
                          refine r_iload C dX7_ways_178 5 rfl ?_
                          refine r_aload_n C dX7_ways_180 rfl 0 rfl ?_
                          refine rm_get (v := .ref (m0 + 10)) C 17 (by decide) wF_X7_38 rfl dX7_ways_181 ?_
                          refine r_iload C dX7_ways_184 5 rfl ?_
                          refine rm_ald (f := th) (len := 3840) C 9 rfl rfl (by decide) (by omega) dX7_ways_186 ?_
                          refine V.top (y := nI (wy kd sr N (t + 1) i5)) (hth i5 (by omega)) ?_
                          refine rm_ast (f := f5) (len := 3840) (A2 := [fs, fwas, fbegun, faside, ftext, fL, gL, fN, (upd f5 i5 (nI (wy kd sr N (t + 1) i5))), th, fqueue, frankAt, fturnAt]) C 8 rfl rfl (by decide) (by omega) rfl rfl dX7_ways_187 ?_
                          refine r_iinc (v := nI (i5 + 1)) (lv2 := [(5, .int (nI (i5 + 1))), (0, .ref m0), (1, .int (nI k)), (2, .int (nI w)), (3, .int (nI (rk (sid kd) N o sd))), (4, .int (nI t))]) C dX7_ways_188 (k := 5) rfl (nI_add _ 1) (by decide) rfl ?_
                          refine r_goto (tgt := 165) C dX7_ways_191 (by decide) ?_
                          refine V.sub (lv2 := [(0, .ref m0), (1, .int (nI k)), (2, .int (nI w)), (3, .int (nI (rk (sid kd) N o sd))), (4, .int (nI t)), (5, .int (nI (i5 + 1)))]) [1, 2, 3, 4, 5, 0] rfl ?_
                          exact ih165 (i5 + 1) (upd f5 i5 (nI (wy kd sr N (t + 1) i5))) (by omega) (fun j hj => upd_step (g := fun j => nI (wy kd sr N (t + 1) j)) hj hf5 rfl) (by omega)
                    refine V.sub (lv2 := [(0, .ref m0), (1, .int (nI k)), (2, .int (nI w)), (3, .int (nI (rk (sid kd) N o sd))), (4, .int (nI t)), (5, .int (nI 0))]) [1, 2, 3, 4, 5, 0] rfl ?_
                    exact L165 _ 0 ff (by omega) (fun j hj => absurd hj (Nat.not_lt_zero j)) (Nat.lt_succ_self _)
                  · refine r_aload_n C dX7_ways_82 rfl 0 rfl ?_
                    refine rm_get (v := .ref (m0 + 10)) C 17 (by decide) wF_X7_38 rfl dX7_ways_83 ?_
                    refine r_iload C dX7_ways_86 5 rfl ?_
                    refine r_iconst (v := nI 0) C dX7_ways_88 (by decide) ?_
                    refine rm_ast (f := th) (len := 3840) (A2 := [fs, fwas, fbegun, faside, ftext, fL, gL, fN, ff, (upd th r (nI 0)), fqueue, frankAt, fturnAt]) C 9 rfl rfl (by decide) (by omega) rfl rfl dX7_ways_89 ?_
                    refine r_iconst (v := nI 0) C dX7_ways_90 (by decide) ?_
                    refine r_istore (lv2 := [(6, .int (nI 0)), (0, .ref m0), (1, .int (nI k)), (2, .int (nI w)), (3, .int (nI (rk (sid kd) N o sd))), (4, .int (nI t)), (5, .int (nI r))]) C dX7_ways_91 (by decide) rfl ?_
                    have L93 : ∀ (fu : Nat) (q : Nat) (th2 : Nat → Int32), (q ≤ N) → (∀ j, j < r → th2 j = nI (wy kd sr N (t + 1) j)) → (th2 r = nI (wyp kd sr N t r q)) → (N + 1 - q) < fu → V p l e rm_X7_ways_y s m args below meth c G 7 (MQ below (gQ G po) args s rm_X7_ways_y.cells rm_X7_ways_y.slots (gF G)) 0 0 n (mW G σ m0 [xstates, xtyped, xat, xreason, xdone, nI kd, nI N, nI sr] [fs, fwas, fbegun, faside, ftext, fL, gL, fN, ff, th2, fqueue, frankAt, fturnAt]) 93 [(0, .ref m0), (1, .int (nI k)), (2, .int (nI w)), (3, .int (nI (rk (sid kd) N o sd))), (4, .int (nI t)), (5, .int (nI r)), (6, .int (nI q))] [] := by
                      intro fu
                      induction fu with
                      | zero => intro q th2 hq hth3 hth2 hm; exact absurd hm (Nat.not_lt_zero _)
                      | succ fu ih93 =>
                        intro q th2 hq hth3 hth2 hm93
                        refine r_iload C dX7_ways_93 6 rfl ?_
                        refine r_aload_n C dX7_ways_95 rfl 0 rfl ?_
                        refine rm_get (v := .int (nI N)) C 11 (by decide) wF_X7_59 rfl dX7_ways_96 ?_
                        refine r_icmp_geN (tgt := 156) C dX7_ways_99 (by decide) (by omega) (by omega) (fun cz99 => ?_) (fun cz99 => ?_)
                        · refine r_iinc (v := nI (r + 1)) (lv2 := [(5, .int (nI (r + 1))), (0, .ref m0), (1, .int (nI k)), (2, .int (nI w)), (3, .int (nI (rk (sid kd) N o sd))), (4, .int (nI t)), (6, .int (nI q))]) C dX7_ways_156 (k := 5) rfl (nI_add _ 1) (by decide) rfl ?_
                          refine r_goto (tgt := 73) C dX7_ways_159 (by decide) ?_
                          refine V.sub (lv2 := [(0, .ref m0), (1, .int (nI k)), (2, .int (nI w)), (3, .int (nI (rk (sid kd) N o sd))), (4, .int (nI t)), (5, .int (nI (r + 1)))]) [1, 2, 3, 4, 5, 0] rfl ?_
                          exact ih73 (r + 1) th2 (by omega) (fun j hj => by rcases Nat.lt_or_eq_of_le (Nat.le_of_lt_succ hj) with h | h; (exact hth3 j h); (rw [h, hth2, show q = N by omega, wy_s])) (by omega)
                        · refine r_aload_n C dX7_ways_102 rfl 0 rfl ?_
                          refine rm_get (v := .ref (m0 + 10)) C 17 (by decide) wF_X7_38 rfl dX7_ways_103 ?_
                          refine r_iload C dX7_ways_106 5 rfl ?_
                          refine r_dup2 C dX7_ways_108 rfl rfl ?_
                          refine rm_ald (f := th2) (len := 3840) C 9 rfl rfl (by decide) (by omega) dX7_ways_109 ?_
                          refine V.top (y := nI (wyp kd sr N t r q)) (hth2) ?_
                          refine r_aload_n C dX7_ways_110 rfl 0 rfl ?_
                          refine rm_get (v := .ref (m0 + 8)) C 15 (by decide) wF_X7_32 rfl dX7_ways_111 ?_
                          refine r_bipush (v := nI 6) C dX7_ways_114 (by decide) ?_
                          refine r_iload C dX7_ways_116 5 rfl ?_
                          refine r_imulN C dX7_ways_118 ?_
                          refine r_iload C dX7_ways_119 6 rfl ?_
                          refine r_iaddN C dX7_ways_121 ?_
                          refine rm_ald (f := fN) (len := 23040) C 7 rfl rfl (by decide) (by omega) dX7_ways_122 ?_
                          refine V.top (y := nxV kd sr N r (q + 1)) (hnx r cz79 q cz99) ?_
                          refine r_if_ge (tgt := 130) C dX7_ways_123 (by decide) (fun cz123 => ?_) (fun cz123 => ?_)
                          · have ha9 := nxV_nn cz123
                            refine r_aload_n C dX7_ways_130 rfl 0 rfl ?_
                            refine rm_get (v := .ref (m0 + 9)) C 16 (by decide) wF_X7_35 rfl dX7_ways_131 ?_
                            refine r_aload_n C dX7_ways_134 rfl 0 rfl ?_
                            refine rm_get (v := .ref (m0 + 8)) C 15 (by decide) wF_X7_32 rfl dX7_ways_135 ?_
                            refine r_bipush (v := nI 6) C dX7_ways_138 (by decide) ?_
                            refine r_iload C dX7_ways_140 5 rfl ?_
                            refine r_imulN C dX7_ways_142 ?_
                            refine r_iload C dX7_ways_143 6 rfl ?_
                            refine r_iaddN C dX7_ways_145 ?_
                            refine rm_ald (f := fN) (len := 23040) C 7 rfl rfl (by decide) (by omega) dX7_ways_146 ?_
                            refine V.top (y := nI (nx (sid kd) N r (q + 1))) (by rw [hnx r cz79 q cz99, nxV, if_pos ha9]) ?_
                            have hxl := nx_lt hN6 cz79 (show q + 1 ≤ N by omega)
                            refine rm_ald (f := ff) (len := 3840) C 8 rfl rfl (by decide) (by omega) dX7_ways_147 ?_
                            refine V.top (y := nI (wy kd sr N t (nx (sid kd) N r (q + 1)))) (hff (nx (sid kd) N r (q + 1)) hxl) ?_
                            refine r_iaddN C dX7_ways_148 ?_
                            refine rm_ast (f := th2) (len := 3840) (A2 := [fs, fwas, fbegun, faside, ftext, fL, gL, fN, ff, (upd th2 r (nI (wyp kd sr N t r q + (wy kd sr N t (nx (sid kd) N r (q + 1)))))), fqueue, frankAt, fturnAt]) C 9 rfl rfl (by decide) (by omega) rfl rfl dX7_ways_149 ?_
                            refine r_iinc (v := nI (q + 1)) (lv2 := [(6, .int (nI (q + 1))), (0, .ref m0), (1, .int (nI k)), (2, .int (nI w)), (3, .int (nI (rk (sid kd) N o sd))), (4, .int (nI t)), (5, .int (nI r))]) C dX7_ways_150 (k := 6) rfl (nI_add _ 1) (by decide) rfl ?_
                            refine r_goto (tgt := 93) C dX7_ways_153 (by decide) ?_
                            refine V.sub (lv2 := [(0, .ref m0), (1, .int (nI k)), (2, .int (nI w)), (3, .int (nI (rk (sid kd) N o sd))), (4, .int (nI t)), (5, .int (nI r)), (6, .int (nI (q + 1)))]) [1, 2, 3, 4, 5, 6, 0] rfl ?_
                            exact ih93 (q + 1) (upd th2 r (nI (wyp kd sr N t r q + (wy kd sr N t (nx (sid kd) N r (q + 1)))))) (by omega) (fun j hj => by rw [pk_un (by omega)]; exact hth3 j hj) (by rw [pk_us]; simp [wyp, ha9]) (by omega)
                          · have ha9 := nxV_ng hv.1 cz79 (by omega) cz123
                            refine r_iconst (v := nI 0) C dX7_ways_126 (by decide) ?_
                            refine r_goto (tgt := 148) C dX7_ways_127 (by decide) ?_
                            refine r_iaddN C dX7_ways_148 ?_
                            refine rm_ast (f := th2) (len := 3840) (A2 := [fs, fwas, fbegun, faside, ftext, fL, gL, fN, ff, (upd th2 r (nI (wyp kd sr N t r q + 0))), fqueue, frankAt, fturnAt]) C 9 rfl rfl (by decide) (by omega) rfl rfl dX7_ways_149 ?_
                            refine r_iinc (v := nI (q + 1)) (lv2 := [(6, .int (nI (q + 1))), (0, .ref m0), (1, .int (nI k)), (2, .int (nI w)), (3, .int (nI (rk (sid kd) N o sd))), (4, .int (nI t)), (5, .int (nI r))]) C dX7_ways_150 (k := 6) rfl (nI_add _ 1) (by decide) rfl ?_
                            refine r_goto (tgt := 93) C dX7_ways_153 (by decide) ?_
                            refine V.sub (lv2 := [(0, .ref m0), (1, .int (nI k)), (2, .int (nI w)), (3, .int (nI (rk (sid kd) N o sd))), (4, .int (nI t)), (5, .int (nI r)), (6, .int (nI (q + 1)))]) [1, 2, 3, 4, 5, 6, 0] rfl ?_
                            exact ih93 (q + 1) (upd th2 r (nI (wyp kd sr N t r q + 0))) (by omega) (fun j hj => by rw [pk_un (by omega)]; exact hth3 j hj) (by rw [pk_us]; simp [wyp, ha9]) (by omega)
                    refine V.sub (lv2 := [(0, .ref m0), (1, .int (nI k)), (2, .int (nI w)), (3, .int (nI (rk (sid kd) N o sd))), (4, .int (nI t)), (5, .int (nI r)), (6, .int (nI 0))]) [1, 2, 3, 4, 5, 6, 0] rfl ?_
                    exact L93 _ 0 (upd th r (nI 0)) (by omega) (fun j hj => by rw [pk_un (by omega)]; exact hth j hj) (by rw [pk_us]; rfl) (Nat.lt_succ_self _)
              refine V.sub (lv2 := [(0, .ref m0), (1, .int (nI k)), (2, .int (nI w)), (3, .int (nI (rk (sid kd) N o sd))), (4, .int (nI t)), (5, .int (nI 0))]) [1, 2, 3, 4, 5, 0] rfl ?_
              exact L73 _ 0 th0 (by omega) (fun j hj => absurd hj (Nat.not_lt_zero j)) (Nat.lt_succ_self _)
        refine V.sub (lv2 := [(0, .ref m0), (1, .int (nI k)), (2, .int (nI w)), (3, .int (nI (rk (sid kd) N o sd))), (4, .int (nI 0))]) [1, 2, 3, 4, 0] rfl ?_
        exact L64 _ 0 f1 fthen (by omega) (fun j hj => hf1 j (by omega)) (Nat.lt_succ_self _)
      · refine r_aload_n C dX7_ways_38 rfl 0 rfl ?_
        refine rm_get (v := .ref (m0 + 9)) C 16 (by decide) wF_X7_35 rfl dX7_ways_39 ?_
        refine r_iload C dX7_ways_42 4 rfl ?_
        refine r_iload C dX7_ways_44 4 rfl ?_
        refine r_if_neN (tgt := 53) C dX7_ways_46 (by decide) (by omega) (fun cz46 => ?_) (fun cz46 => ?_)
        · refine r_iconst (v := nI 0) C dX7_ways_53 (by decide) ?_
          refine rm_ast (f := f1) (len := 3840) (A2 := [fs, fwas, fbegun, faside, ftext, fL, gL, fN, (upd f1 i (nI 0)), fthen, fqueue, frankAt, fturnAt]) C 8 rfl rfl (by decide) (by omega) rfl rfl dX7_ways_54 ?_
          refine r_iinc (v := nI (i + 1)) (lv2 := [(4, .int (nI (i + 1))), (0, .ref m0), (1, .int (nI k)), (2, .int (nI w)), (3, .int (nI (rk (sid kd) N o sd)))]) C dX7_ways_55 (k := 4) rfl (nI_add _ 1) (by decide) rfl ?_
          refine r_goto (tgt := 29) C dX7_ways_58 (by decide) ?_
          refine V.sub (lv2 := [(0, .ref m0), (1, .int (nI k)), (2, .int (nI w)), (3, .int (nI (rk (sid kd) N o sd))), (4, .int (nI (i + 1)))]) [1, 2, 3, 4, 0] rfl ?_
          exact ih29 (i + 1) (upd f1 i (nI 0)) (by omega) (fun j hj => upd_step (g := fun j => nI (wy kd sr N 0 j)) hj hf1 (by simp [wy, cz46])) (by omega)
        · refine r_iconst (v := nI 1) C dX7_ways_49 (by decide) ?_
          refine r_goto (tgt := 54) C dX7_ways_50 (by decide) ?_
          refine rm_ast (f := f1) (len := 3840) (A2 := [fs, fwas, fbegun, faside, ftext, fL, gL, fN, (upd f1 i (nI 1)), fthen, fqueue, frankAt, fturnAt]) C 8 rfl rfl (by decide) (by omega) rfl rfl dX7_ways_54 ?_
          refine r_iinc (v := nI (i + 1)) (lv2 := [(4, .int (nI (i + 1))), (0, .ref m0), (1, .int (nI k)), (2, .int (nI w)), (3, .int (nI (rk (sid kd) N o sd)))]) C dX7_ways_55 (k := 4) rfl (nI_add _ 1) (by decide) rfl ?_
          refine r_goto (tgt := 29) C dX7_ways_58 (by decide) ?_
          refine V.sub (lv2 := [(0, .ref m0), (1, .int (nI k)), (2, .int (nI w)), (3, .int (nI (rk (sid kd) N o sd))), (4, .int (nI (i + 1)))]) [1, 2, 3, 4, 0] rfl ?_
          exact ih29 (i + 1) (upd f1 i (nI 1)) (by omega) (fun j hj => upd_step (g := fun j => nI (wy kd sr N 0 j)) hj hf1 (by simp [wy, cz46])) (by omega)
  refine V.sub (lv2 := [(0, .ref m0), (1, .int (nI k)), (2, .int (nI w)), (3, .int (nI (rk (sid kd) N o sd))), (4, .int (nI 0))]) [2, 3, 4, 1, 0] rfl ?_
  exact L29 _ 0 ffar (by omega) (fun j hj => absurd hj (Nat.not_lt_zero j)) (Nat.lt_succ_self _)
