def isL (kd sr N tu v r t last : Nat) : Bool := aR1 kd sr N r (t + 1) && (!(decide (t + 1 = last)) && decide (v + 1 + gpR kd N (nx (sid kd) N r (t + 1)) ≤ tu))
theorem isL_t {kd sr N tu v r t last : Nat} (h : isL kd sr N tu v r t last = true) : aR1 kd sr N r (t + 1) = true ∧ t + 1 ≠ last ∧ v + 1 + gpR kd N (nx (sid kd) N r (t + 1)) ≤ tu := by
  simp only [isL, Bool.and_eq_true, Bool.not_eq_true', decide_eq_true_eq, decide_eq_false_iff_not] at h
  exact ⟨h.1, h.2.1, h.2.2⟩
theorem isL_f {kd sr N w v r t last : Nat} (hv : v < w) (h : isL kd sr N w v r t last = false) : aR1 kd sr N r (t + 1) = false ∨ t + 1 = last ∨ w - v - 1 < gpR kd N (nx (sid kd) N r (t + 1)) := by
  simp only [isL, Bool.and_eq_false_iff, Bool.not_eq_false', decide_eq_true_eq, decide_eq_false_iff_not] at h
  rcases h with h | h | h
  · exact Or.inl h
  · exact Or.inr (Or.inl h)
  · exact Or.inr (Or.inr (by omega))
theorem isL_0 {kd sr N tu v r t last : Nat} (h : aR1 kd sr N r (t + 1) = false) : false = isL kd sr N tu v r t last := by simp [isL, h]
theorem isL_1 {kd sr N tu v r t last : Nat} (h : decide (t + 1 = last) = true) : false = isL kd sr N tu v r t last := by simp [isL, h]
theorem isL_2 {kd sr N tu v r t last : Nat} (h : tu < v + 1 + gpR kd N (nx (sid kd) N r (t + 1))) : false = isL kd sr N tu v r t last := by simp [isL, Nat.not_le.mpr h]
theorem isL_3 {kd sr N tu v r t last : Nat} (h : aR1 kd sr N r (t + 1) = true) (h2 : decide (t + 1 = last) = false) (h3 : v + 1 + gpR kd N (nx (sid kd) N r (t + 1)) ≤ tu) : true = isL kd sr N tu v r t last := by simp [isL, h, h2, h3]
theorem ag_0 {TA : Nat → Nat} {v x : Nat} (h : v = 0) : false = decide (x + 1 = lastL TA v) := by simp [lastL, h]
theorem ag_t {TA : Nat → Nat} {v x : Nat} (h : 0 < v) (h2 : TA (v - 1) = x + 1) : true = decide (x + 1 = lastL TA v) := by simp [lastL, Nat.ne_of_gt h, h2]
theorem ag_f {TA : Nat → Nat} {v x : Nat} (h : 0 < v) (h2 : TA (v - 1) ≠ x + 1) : false = decide (x + 1 = lastL TA v) := by simp [lastL, Nat.ne_of_gt h, Ne.symm h2]
theorem gpR_le (kd : Nat) {N : Nat} (hN : N ≤ 6) (r : Nat) : gpR kd N r ≤ 6 := by
  have := gpp_le (sid kd) N (oR (sid kd) N r) (sR (sid kd) N r) N
  unfold gpR gp
  omega
theorem gpR_rk {kd N o sd : Nat} (hs : sd < sm (sid kd) N) : gpR kd N (rk (sid kd) N o sd) = gp (sid kd) N o sd := by rw [gpR, oR_rk hs, sR_rk hs]
theorem lk_cut {kd sr N w r last : Nat} (h : w < gpR kd N r) : lkA kd sr N w r last = 0 := by
  cases w with
  | zero => rw [lkA, if_pos h]
  | succ w => rw [lkA, if_pos h]
theorem lk_init {kd sr N w r : Nat} (hN : N ≤ 6) (hr : r < rR (sid kd) N) (hg : gpR kd N r ≤ w) : LKI kd sr N w (fun _ => r) (fun _ => 0) (if r = 0 then 0 else 1) 1 (lkA kd sr N w r 0) := by
  by_cases h : r = 0
  · rw [if_pos h]
    refine ⟨by omega, fun j hj => absurd hj (Nat.not_lt_zero j), ?_⟩
    rw [h] at hg ⊢
    rw [lkA_0 hg]
    rfl
  · rw [if_neg h]
    refine ⟨by omega, fun j hj => ⟨hr, Nat.zero_le _⟩, ?_⟩
    simp only [remL, rlL, lastL]
    cases w with
    | zero => rw [lkA, if_neg (show ¬ 0 < gpR kd N r by omega), if_neg (Nat.lt_irrefl 0)]
    | succ w =>
      rw [lkA_s hg h, if_pos (Nat.succ_pos w)]
      simp
theorem upd_vr {ra : Nat → Int32} {RA : Nat → Nat} {dp x : Nat} (h1 : 1 ≤ dp) (h : ∀ j, j < dp → ra j = nI (RA j)) : ∀ j, j < dp + 1 → upd ra (dp - 1 + 1) (nI x) j = nI (va_up RA (dp - 1 + 1) x j) := fun j hj => by
  by_cases g : j = dp - 1 + 1
  · rw [g, pk_us, va_at1]
  · rw [pk_un g, va_ne1 g]; exact h j (by omega)
theorem upd_vt {ta : Nat → Int32} {TA : Nat → Nat} {dp x : Nat} (_ : 1 ≤ dp) (h : ∀ j, j < dp → ta j = nI (TA j)) : ∀ j, j < dp → upd ta (dp - 1) (nI x) j = nI (va_up TA (dp - 1) x j) := fun j hj => by
  by_cases g : j = dp - 1
  · rw [g, pk_us, va_at1]
  · rw [pk_un g, va_ne1 g]; exact h j hj
theorem upd_vs {ta : Nat → Int32} {TA : Nat → Nat} {dp x y : Nat} (h1 : 1 ≤ dp) (h : ∀ j, j < dp → ta j = nI (TA j)) : ∀ j, j < dp + 1 → upd (upd ta (dp - 1) (nI x)) (dp - 1 + 1) (nI y) j = nI (va_up (va_up TA (dp - 1) x) (dp - 1 + 1) y j) := fun j hj => by
  by_cases g : j = dp - 1 + 1
  · rw [g, pk_us, va_at1]
  · rw [pk_un g, va_ne1 g]; exact upd_vt h1 h j (by omega)
theorem upd_vp {ta : Nat → Int32} {TA : Nat → Nat} {dp x : Nat} (_ : 1 ≤ dp) (h : ∀ j, j < dp → ta j = nI (TA j)) : ∀ j, j < dp - 1 → upd ta (dp - 1) (nI x) j = nI (TA j) := fun j hj => by
  rw [pk_un (by omega)]; exact h j (by omega)
theorem lk_meas {a b c d : Nat} (h : a + 9 ^ c = b) (hm : b < d + 1) : a < d := by
  have : 0 < 9 ^ c := Nat.pos_of_ne_zero (by simp)
  omega

abbrev rm_X7_lookedAt_y : Room := { frames := 4, cells := 0, slots := 0, locals := 90 }
set_option maxRecDepth 100000 in
set_option maxHeartbeats 4000000 in
theorem c_X7_lookedAt_y {l : Launch} {G : gG} {n : Nat} {σ : gS} {m0 : Nat} {xstates xtyped xat xreason xdone xkind xn xstrength : Int32} {fs fwas fbegun faside ftext fsize fburnt fnext ffar fthen fqueue frankAt fturnAt : Nat → Int32} {ns k kd N sr o sd : Nat} {w : Nat} (hns : fs 0 = nI ns) (hns5 : ns ≤ 5) (hkn : k < ns) (hst : StkAt fs k kd N sr o sd) (hv : Vld kd N sr o sd) (hw : w ≤ 6) : GM l G yX7_lookedAt cX7_lookedAt 9 (some .int) rm_X7_lookedAt_y n (mW G σ m0 [xstates, xtyped, xat, xreason, xdone, xkind, xn, xstrength] [fs, fwas, fbegun, faside, ftext, fsize, fburnt, fnext, ffar, fthen, fqueue, frankAt, fturnAt]) [.ref m0, .int (nI k), .int (nI w)] (fun rv n2 σ2 => some (.int (nI (lkA kd sr N w (rk (sid kd) N o sd) 0))) = rv ∧ n = n2 ∧ ∃ (f3 : Nat → Int32) (r9 : Nat → Int32) (t9 : Nat → Int32) (f2 : Nat → Int32) (g2 : Nat → Int32), (mW G σ m0 [xstates, xtyped, xat, xreason, xdone, nI kd, nI N, nI sr] [fs, fwas, fbegun, faside, ftext, f2, g2, f3, ffar, fthen, fqueue, r9, t9]) = σ2) := by
  refine GM.intro (by decide +kernel) (Nat.le_of_ble_eq_true rfl) (fun p e s m args below meth c C hr hlocks hname po hpo => ?_)
  have C : Cx p s m args c cX7_lookedAt 9 RX7 G := C
  have hk : k < 5 := by omega
  have hN6 := hv.1.N
  have hN1 := hv.1.2.1
  have hRl := rR_le hv.1
  have hol := rk_ltR hv.2.1 hv.2.2
  refine r_aload_n C dX7_lookedAt_0 rfl 0 rfl ?_
  refine r_iload_n C dX7_lookedAt_1 rfl 1 rfl ?_
  refine r_callV (As := [.int (nI k)]) C (c_X7_isStack (x := nI k) (ns := ns) (by first | assumption | omega)) wM_X7_98 wI_X7_isStack wN_X7 wC_X7_isStack wV_X7_isStack hd_X7_isStack ⟨Nat.le_of_ble_eq_true rfl, Nat.le_of_ble_eq_true rfl⟩ rfl (mW_o _ _ _ _ _) rfl rfl (Nat.le_of_ble_eq_true rfl) dX7_lookedAt_2 ⟨Nat.le_of_ble_eq_true rfl, Nat.le_of_ble_eq_true rfl⟩ (fun rv n2 σ2 hp => ?_)
  obtain ⟨rfl, rfl, rfl⟩ := hp
  refine V.eq (σ2 := (mW G σ m0 [xstates, xtyped, xat, xreason, xdone, xkind, xn, xstrength] [fs, fwas, fbegun, faside, ftext, fsize, fburnt, fnext, ffar, fthen, fqueue, frankAt, fturnAt])) (n2 := n) (st2 := [.int (bI (isS (nI k) ns))]) rfl rfl rfl rfl ?_
  refine V.top (y := bI true) (congrArg bI (isS_t ns (by omega) k hkn)) ?_
  refine r_if_eqB (tgt := 18) C dX7_lookedAt_5 (by decide) (fun z => absurd z (by decide)) (fun _ => ?_)
  refine r_iload_n C dX7_lookedAt_8 rfl 2 rfl ?_
  refine r_iconst (v := nI 0) C dX7_lookedAt_9 (by decide) ?_
  refine r_bipush (v := nI 6) C dX7_lookedAt_10 (by decide) ?_
  refine r_callS (As := [.int (nI w), .int (nI 0), .int (nI 6)]) C (c_X7_in (v := nI w) (low := nI 0) (high := nI 6) ) wM_X7_50 wS_X7_in wN_X7 wC_X7_in hd_X7_in ⟨Nat.le_of_ble_eq_true rfl, Nat.le_of_ble_eq_true rfl⟩ rfl rfl (Nat.le_of_ble_eq_true rfl) dX7_lookedAt_12 ⟨Nat.le_of_ble_eq_true rfl, Nat.le_of_ble_eq_true rfl⟩ (fun rv n2 σ2 hp => ?_)
  obtain ⟨rfl, rfl, rfl⟩ := hp
  refine V.eq (σ2 := (mW G σ m0 [xstates, xtyped, xat, xreason, xdone, xkind, xn, xstrength] [fs, fwas, fbegun, faside, ftext, fsize, fburnt, fnext, ffar, fthen, fqueue, frankAt, fturnAt])) (n2 := n) (st2 := [.int (bI (decide ((nI 0) ≤ (nI w) ∧ (nI w) ≤ (nI 6))))]) rfl rfl rfl rfl ?_
  refine V.top (y := bI true) (congrArg bI (in_N (by omega) (by omega) (by omega))) ?_
  refine r_if_neB (tgt := 21) C dX7_lookedAt_15 (by decide) (fun _ => ?_) (fun z => absurd z (by decide))
  refine r_aload_n C dX7_lookedAt_21 rfl 0 rfl ?_
  refine rm_get (v := .ref (m0 + 12)) C 19 (by decide) wF_X7_44 rfl dX7_lookedAt_22 ?_
  refine r_iconst (v := nI 0) C dX7_lookedAt_25 (by decide) ?_
  refine r_aload_n C dX7_lookedAt_26 rfl 0 rfl ?_
  refine r_iload_n C dX7_lookedAt_27 rfl 1 rfl ?_
  refine r_callV (As := [.int (nI k)]) C (c_X7_leads (k := k) (kd := kd) (N := N) (sr := sr) (o := o) (sd := sd) (by first | assumption | omega) (by first | assumption | omega) (by first | assumption | omega)) wM_X7_143 wI_X7_leads wN_X7 wC_X7_leads wV_X7_leads hd_X7_leads ⟨Nat.le_of_ble_eq_true rfl, Nat.le_of_ble_eq_true rfl⟩ rfl (mW_o _ _ _ _ _) rfl rfl (Nat.le_of_ble_eq_true rfl) dX7_lookedAt_28 ⟨Nat.le_of_ble_eq_true rfl, Nat.le_of_ble_eq_true rfl⟩ (fun rv n2 σ2 hp => ?_)
  obtain ⟨rfl, rfl, fN, fL, gL, rfl, hnx, hzL, hbL⟩ := hp
  refine V.eq (σ2 := (mW G σ m0 [xstates, xtyped, xat, xreason, xdone, nI kd, nI N, nI sr] [fs, fwas, fbegun, faside, ftext, fL, gL, fN, ffar, fthen, fqueue, frankAt, fturnAt])) (n2 := n) (st2 := [.int (nI (rk (sid kd) N o sd)), .int (nI 0), .ref (m0 + 12)]) rfl rfl rfl rfl ?_
  refine rm_ast (f := frankAt) (len := 8) (A2 := [fs, fwas, fbegun, faside, ftext, fL, gL, fN, ffar, fthen, fqueue, (upd frankAt 0 (nI (rk (sid kd) N o sd))), fturnAt]) C 11 rfl rfl (by decide) (by decide) rfl rfl dX7_lookedAt_31 ?_
  refine r_aload_n C dX7_lookedAt_32 rfl 0 rfl ?_
  refine r_aload_n C dX7_lookedAt_33 rfl 0 rfl ?_
  refine rm_get (v := .ref (m0 + 12)) C 19 (by decide) wF_X7_44 rfl dX7_lookedAt_34 ?_
  refine r_iconst (v := nI 0) C dX7_lookedAt_37 (by decide) ?_
  refine rm_ald (f := (upd frankAt 0 (nI (rk (sid kd) N o sd)))) (len := 8) C 11 rfl rfl (by decide) (by decide) dX7_lookedAt_38 ?_
  refine V.top (y := nI (rk (sid kd) N o sd)) (pk_us) ?_
  refine r_callV (As := [.int (nI (rk (sid kd) N o sd))]) C (c_X7_gapsOf (kd := kd) (N := N) (o := o) (sd := sd) (r := (rk (sid kd) N o sd)) (hv.1.N) (hv.1.2.1) (hv.2.1) (hv.1.1) (hv.2.2) (rfl)) wM_X7_150 wI_X7_gapsOf wN_X7 wC_X7_gapsOf wV_X7_gapsOf hd_X7_gapsOf ⟨Nat.le_of_ble_eq_true rfl, Nat.le_of_ble_eq_true rfl⟩ rfl (mW_o _ _ _ _ _) rfl rfl (Nat.le_of_ble_eq_true rfl) dX7_lookedAt_39 ⟨Nat.le_of_ble_eq_true rfl, Nat.le_of_ble_eq_true rfl⟩ (fun rv n2 σ2 hp => ?_)
  obtain ⟨rfl, rfl, f2_1, g2_2, rfl, hz2_3, hb2_4⟩ := hp
  refine V.eq (σ2 := (mW G σ m0 [xstates, xtyped, xat, xreason, xdone, nI kd, nI N, nI sr] [fs, fwas, fbegun, faside, ftext, f2_1, g2_2, fN, ffar, fthen, fqueue, (upd frankAt 0 (nI (rk (sid kd) N o sd))), fturnAt])) (n2 := n) (st2 := [.int (nI (gp (sid kd) N o sd))]) rfl rfl rfl rfl ?_
  refine r_iload_n C dX7_lookedAt_42 rfl 2 rfl ?_
  have hg9 := gp_lt (sid kd) hN6 o sd
  refine r_icmp_leN (tgt := 48) C dX7_lookedAt_43 (by decide) (by omega) (by omega) (fun cz43 => ?_) (fun cz43 => ?_)
  · have hg0 : gpR kd N (rk (sid kd) N o sd) ≤ w := by rw [gpR_rk hv.2.2]; exact cz43
    refine r_iconst (v := nI 1) C dX7_lookedAt_48 (by decide) ?_
    refine r_istore_n (lv2 := [(3, .int (nI 1)), (0, .ref m0), (1, .int (nI k)), (2, .int (nI w))]) C dX7_lookedAt_49 rfl (by decide) rfl ?_
    refine r_aload_n C dX7_lookedAt_50 rfl 1 rfl ?_
    refine rm_get (v := .ref (m0 + 12)) C 19 (by decide) wF_X7_44 rfl dX7_lookedAt_51 ?_
    refine r_iconst (v := nI 0) C dX7_lookedAt_54 (by decide) ?_
    refine rm_ald (f := (upd frankAt 0 (nI (rk (sid kd) N o sd)))) (len := 8) C 11 rfl rfl (by decide) (by decide) dX7_lookedAt_55 ?_
    refine V.top (y := nI (rk (sid kd) N o sd)) (pk_us) ?_
    have L64 : ∀ (dep0 : Int32) (fj0 : Nat → Int32) (gj0 : Nat → Int32), (((rk (sid kd) N o sd) = 0 ∧ dep0 = -1) ∨ ((rk (sid kd) N o sd) ≠ 0 ∧ dep0 = nI 0)) → V p l e rm_X7_lookedAt_y s m args below meth c G 9 (MQ below (gQ G po) args s rm_X7_lookedAt_y.cells rm_X7_lookedAt_y.slots (gF G)) 0 0 n (mW G σ m0 [xstates, xtyped, xat, xreason, xdone, nI kd, nI N, nI sr] [fs, fwas, fbegun, faside, ftext, fj0, gj0, fN, ffar, fthen, fqueue, (upd frankAt 0 (nI (rk (sid kd) N o sd))), fturnAt]) 64 [(0, .ref m0), (1, .int (nI k)), (2, .int (nI w)), (3, .int (nI 1))] [.int dep0] := by
      intro dep0 fj0 gj0 hdep
      refine r_istore (lv2 := [(4, .int dep0), (0, .ref m0), (1, .int (nI k)), (2, .int (nI w)), (3, .int (nI 1))]) C dX7_lookedAt_64 (by decide) rfl ?_
      refine r_aload_n C dX7_lookedAt_66 rfl 1 rfl ?_
      refine rm_get (v := .ref (m0 + 13)) C 20 (by decide) wF_X7_47 rfl dX7_lookedAt_67 ?_
      refine r_iconst (v := nI 0) C dX7_lookedAt_70 (by decide) ?_
      refine r_iconst (v := nI 0) C dX7_lookedAt_71 (by decide) ?_
      refine rm_ast (f := fturnAt) (len := 8) (A2 := [fs, fwas, fbegun, faside, ftext, fj0, gj0, fN, ffar, fthen, fqueue, (upd frankAt 0 (nI (rk (sid kd) N o sd))), (upd fturnAt 0 (nI 0))]) C 12 rfl rfl (by decide) (by decide) rfl rfl dX7_lookedAt_72 ?_
      have L73 : ∀ (fu : Nat) (dp : Nat) (cnt : Nat) (RA : Nat → Nat) (TA : Nat → Nat) (ra : Nat → Int32) (ta : Nat → Int32) (f0 : Nat → Int32) (g0 : Nat → Int32), (LKI kd sr N w RA TA dp cnt (lkA kd sr N w (rk (sid kd) N o sd) 0)) → (∀ j, j < dp → ra j = nI (RA j)) → (∀ j, j < dp → ta j = nI (TA j)) → (muL N w TA dp) < fu → V p l e rm_X7_lookedAt_y s m args below meth c G 9 (MQ below (gQ G po) args s rm_X7_lookedAt_y.cells rm_X7_lookedAt_y.slots (gF G)) 0 0 n (mW G σ m0 [xstates, xtyped, xat, xreason, xdone, nI kd, nI N, nI sr] [fs, fwas, fbegun, faside, ftext, f0, g0, fN, ffar, fthen, fqueue, ra, ta]) 73 [(0, .ref m0), (1, .int (nI k)), (2, .int (nI w)), (3, .int (nI cnt)), (4, .int (nI dp + Int32.ofInt (-1)))] [] := by
        intro fu
        induction fu with
        | zero => intro dp cnt RA TA ra ta f0 g0 hL hra hta hm; exact absurd hm (Nat.not_lt_zero _)
        | succ fu ih73 =>
          intro dp cnt RA TA ra ta f0 g0 hL hra hta hm73
          refine r_iload C dX7_lookedAt_73 4 rfl ?_
          refine r_if_lt (tgt := 245) C dX7_lookedAt_75 (by decide) (fun cz75 => ?_) (fun cz75 => ?_)
          · have hdp0 : dp = 0 := by cases dp with | zero => rfl | succ z => rw [show nI (z + 1) + Int32.ofInt (-1) = nI z from nI_m1 (by omega)] at cz75; exact absurd cz75 (nI_pos (by have := hL.1; omega))
            refine r_iload_n C dX7_lookedAt_245 rfl 3 rfl ?_
            exact r_iret C hr hlocks (Nat.le_of_ble_eq_true rfl) (Nat.le_of_ble_eq_true rfl) dX7_lookedAt_246 (hpo _ _ _ ⟨by have h9 := hL.2.2; rw [hdp0] at h9; rw [← h9]; rfl, rfl, fN, ra, ta, f0, g0, rfl⟩)
          · have hdp1 : 1 ≤ dp := by cases dp with | zero => exact absurd (show (nI 0 + Int32.ofInt (-1)) < 0 by decide) cz75 | succ z => omega
            refine V.eq (lv2 := [(0, .ref m0), (1, .int (nI k)), (2, .int (nI w)), (3, .int (nI cnt)), (4, .int (nI (dp - 1)))]) rfl rfl (by rw [(show nI dp + Int32.ofInt (-1) = nI (dp - 1) from nI_m1 hdp1)]) rfl ?_
            have hLd := hL.1
            have hLv := hL.2.1 (dp - 1) (by omega)
            refine r_aload_n C dX7_lookedAt_78 rfl 0 rfl ?_
            refine rm_get (v := .ref (m0 + 13)) C 20 (by decide) wF_X7_47 rfl dX7_lookedAt_79 ?_
            refine r_iload C dX7_lookedAt_82 4 rfl ?_
            refine r_dup2 C dX7_lookedAt_84 rfl rfl ?_
            refine rm_ald (f := ta) (len := 8) C 12 rfl rfl (by decide) (by omega) dX7_lookedAt_85 ?_
            refine V.top (y := nI (TA (dp - 1))) (hta (dp - 1) (by omega)) ?_
            refine r_iconst (v := nI 1) C dX7_lookedAt_86 (by decide) ?_
            refine r_iaddN C dX7_lookedAt_87 ?_
            refine rm_ast (f := ta) (len := 8) (A2 := [fs, fwas, fbegun, faside, ftext, f0, g0, fN, ffar, fthen, fqueue, ra, (upd ta (dp - 1) (nI ((TA (dp - 1)) + 1)))]) C 12 rfl rfl (by decide) (by omega) rfl rfl dX7_lookedAt_88 ?_
            refine r_aload_n C dX7_lookedAt_89 rfl 0 rfl ?_
            refine rm_get (v := .ref (m0 + 13)) C 20 (by decide) wF_X7_47 rfl dX7_lookedAt_90 ?_
            refine r_iload C dX7_lookedAt_93 4 rfl ?_
            refine rm_ald (f := (upd ta (dp - 1) (nI ((TA (dp - 1)) + 1)))) (len := 8) C 12 rfl rfl (by decide) (by omega) dX7_lookedAt_95 ?_
            refine V.top (y := nI (TA (dp - 1) + 1)) (pk_us) ?_
            refine r_istore (lv2 := [(5, .int (nI (TA (dp - 1) + 1))), (0, .ref m0), (1, .int (nI k)), (2, .int (nI w)), (3, .int (nI cnt)), (4, .int (nI (dp - 1)))]) C dX7_lookedAt_96 (by decide) rfl ?_
            refine r_iload C dX7_lookedAt_98 0 rfl ?_
            refine r_aload_n C dX7_lookedAt_100 rfl 1 rfl ?_
            refine rm_get (v := .int (nI N)) C 11 (by decide) wF_X7_59 rfl dX7_lookedAt_101 ?_
            refine r_icmp_gtN (tgt := 113) C dX7_lookedAt_104 (by decide) (by omega) (by omega) (fun cz104 => ?_) (fun cz104 => ?_)
            · refine r_iinc (v := (nI (dp - 1)) + Int32.ofInt (-1)) (lv2 := [(4, .int ((nI (dp - 1)) + Int32.ofInt (-1))), (5, .int (nI (TA (dp - 1) + 1))), (0, .ref m0), (1, .int (nI k)), (2, .int (nI w)), (3, .int (nI cnt))]) C dX7_lookedAt_113 (k := 5) rfl rfl (by decide) rfl ?_
              refine r_goto (tgt := 242) C dX7_lookedAt_116 (by decide) ?_
              refine r_goto (tgt := 73) C dX7_lookedAt_242 (by decide) ?_
              refine V.sub (lv2 := [(0, .ref m0), (1, .int (nI k)), (2, .int (nI w)), (3, .int (nI cnt)), (4, .int ((nI (dp - 1)) + Int32.ofInt (-1)))]) [2, 3, 4, 5, 0] rfl ?_
              refine V.eq (σ2 := (mW G σ m0 [xstates, xtyped, xat, xreason, xdone, nI kd, nI N, nI sr] [fs, fwas, fbegun, faside, ftext, f0, g0, fN, ffar, fthen, fqueue, ra, (upd ta (dp - 1) (nI ((TA (dp - 1)) + 1)))])) (lv2 := [(0, .ref m0), (1, .int (nI k)), (2, .int (nI w)), (3, .int (nI cnt)), (4, .int (nI (dp - 1) + Int32.ofInt (-1)))]) (st2 := []) rfl rfl (by rw [(show (nI (dp - 1)) + Int32.ofInt (-1) = nI (dp - 1) + Int32.ofInt (-1) from rfl)]) rfl ?_
              exact ih73 (dp - 1) cnt RA TA ra (upd ta (dp - 1) (nI ((TA (dp - 1)) + 1))) f0 g0 (by first | exact (hL.pop hdp1 (Or.inl cz104)).1 | exact (hL.pop hdp1 (Or.inr cz110)).1 | (rw [hin, cz214]; exact hst.1) | (rw [hin, cz214]; exact hst.1)) (by first | exact hra | exact fun j hj => hra j (by omega) | exact upd_vr hdp1 hra) (by first | exact upd_vt hdp1 hta | exact upd_vs hdp1 hta | exact upd_vp hdp1 hta) (by first | (have g9 := (hL.pop hdp1 (Or.inl cz104)).2; omega) | (have g9 := (hL.pop hdp1 (Or.inr cz110)).2; omega) | exact lk_meas hst.2 hm73 | (have g9 := hst.2; omega))
            · refine r_iload C dX7_lookedAt_107 5 rfl ?_
              refine r_iload_n C dX7_lookedAt_109 rfl 3 rfl ?_
              refine r_icmp_neN (tgt := 119) C dX7_lookedAt_110 (by decide) (by omega) (by omega) (fun cz110 => ?_) (fun cz110 => ?_)
              · refine r_aload_n C dX7_lookedAt_119 rfl 1 rfl ?_
                refine rm_get (v := .ref (m0 + 8)) C 15 (by decide) wF_X7_32 rfl dX7_lookedAt_120 ?_
                refine r_bipush (v := nI 6) C dX7_lookedAt_123 (by decide) ?_
                refine r_aload_n C dX7_lookedAt_125 rfl 1 rfl ?_
                refine rm_get (v := .ref (m0 + 12)) C 19 (by decide) wF_X7_44 rfl dX7_lookedAt_126 ?_
                refine r_iload C dX7_lookedAt_129 5 rfl ?_
                refine rm_ald (f := ra) (len := 8) C 11 rfl rfl (by decide) (by omega) dX7_lookedAt_131 ?_
                refine V.top (y := nI (RA (dp - 1))) (hra (dp - 1) (by omega)) ?_
                refine r_imulN C dX7_lookedAt_132 ?_
                refine r_iload C dX7_lookedAt_133 0 rfl ?_
                refine r_iaddN C dX7_lookedAt_135 ?_
                refine r_iconst (v := nI 1) C dX7_lookedAt_136 (by decide) ?_
                refine r_isubN C dX7_lookedAt_137 (by omega) ?_
                refine rm_ald (f := fN) (len := 23040) C 7 rfl rfl (by decide) (by omega) dX7_lookedAt_138 ?_
                refine V.top (y := nxV kd sr N (RA (dp - 1)) (TA (dp - 1) + 1)) (by rw [show 6 * RA (dp - 1) + (TA (dp - 1) + 1) - 1 = 6 * RA (dp - 1) + TA (dp - 1) by omega]; exact hnx _ hLv.1 _ (by omega)) ?_
                refine r_istore (lv2 := [(6, .int (nxV kd sr N (RA (dp - 1)) (TA (dp - 1) + 1))), (5, .int (nI (TA (dp - 1) + 1))), (0, .ref m0), (1, .int (nI k)), (2, .int (nI w)), (3, .int (nI cnt)), (4, .int (nI (dp - 1)))]) C dX7_lookedAt_139 (by decide) rfl ?_
                have L165 : ∀ (ag : Bool), (ag = decide (TA (dp - 1) + 1 = lastL TA (dp - 1))) → V p l e rm_X7_lookedAt_y s m args below meth c G 9 (MQ below (gQ G po) args s rm_X7_lookedAt_y.cells rm_X7_lookedAt_y.slots (gF G)) 0 0 n (mW G σ m0 [xstates, xtyped, xat, xreason, xdone, nI kd, nI N, nI sr] [fs, fwas, fbegun, faside, ftext, f0, g0, fN, ffar, fthen, fqueue, ra, (upd ta (dp - 1) (nI ((TA (dp - 1)) + 1)))]) 165 [(0, .ref m0), (1, .int (nI k)), (2, .int (nI w)), (3, .int (nI cnt)), (4, .int (nI (dp - 1))), (5, .int (nI (TA (dp - 1) + 1))), (6, .int (nxV kd sr N (RA (dp - 1)) (TA (dp - 1) + 1)))] [.int (bI ag)] := by
                  intro ag hag
                  refine r_istore (lv2 := [(7, .int (bI ag)), (0, .ref m0), (1, .int (nI k)), (2, .int (nI w)), (3, .int (nI cnt)), (4, .int (nI (dp - 1))), (5, .int (nI (TA (dp - 1) + 1))), (6, .int (nxV kd sr N (RA (dp - 1)) (TA (dp - 1) + 1)))]) C dX7_lookedAt_165 (by decide) rfl ?_
                  have L197 : ∀ (is9 : Bool) (fj : Nat → Int32) (gj : Nat → Int32), (is9 = isL kd sr N w (dp - 1) (RA (dp - 1)) (TA (dp - 1)) (lastL TA (dp - 1))) → V p l e rm_X7_lookedAt_y s m args below meth c G 9 (MQ below (gQ G po) args s rm_X7_lookedAt_y.cells rm_X7_lookedAt_y.slots (gF G)) 0 0 n (mW G σ m0 [xstates, xtyped, xat, xreason, xdone, nI kd, nI N, nI sr] [fs, fwas, fbegun, faside, ftext, fj, gj, fN, ffar, fthen, fqueue, ra, (upd ta (dp - 1) (nI ((TA (dp - 1)) + 1)))]) 197 [(0, .ref m0), (1, .int (nI k)), (2, .int (nI w)), (3, .int (nI cnt)), (4, .int (nI (dp - 1))), (5, .int (nI (TA (dp - 1) + 1))), (6, .int (nxV kd sr N (RA (dp - 1)) (TA (dp - 1) + 1))), (7, .int (bI ag))] [.int (bI is9)] := by
                    intro is9 fj gj his
                    refine r_istore (lv2 := [(8, .int (bI is9)), (0, .ref m0), (1, .int (nI k)), (2, .int (nI w)), (3, .int (nI cnt)), (4, .int (nI (dp - 1))), (5, .int (nI (TA (dp - 1) + 1))), (6, .int (nxV kd sr N (RA (dp - 1)) (TA (dp - 1) + 1))), (7, .int (bI ag))]) C dX7_lookedAt_197 (by decide) rfl ?_
                    have L210 : ∀ (in9 : Nat), (in9 = is9.toNat) → V p l e rm_X7_lookedAt_y s m args below meth c G 9 (MQ below (gQ G po) args s rm_X7_lookedAt_y.cells rm_X7_lookedAt_y.slots (gF G)) 0 0 n (mW G σ m0 [xstates, xtyped, xat, xreason, xdone, nI kd, nI N, nI sr] [fs, fwas, fbegun, faside, ftext, fj, gj, fN, ffar, fthen, fqueue, ra, (upd ta (dp - 1) (nI ((TA (dp - 1)) + 1)))]) 210 [(0, .ref m0), (1, .int (nI k)), (2, .int (nI w)), (3, .int (nI cnt)), (4, .int (nI (dp - 1))), (5, .int (nI (TA (dp - 1) + 1))), (6, .int (nxV kd sr N (RA (dp - 1)) (TA (dp - 1) + 1))), (7, .int (bI ag)), (8, .int (bI is9))] [.int (nI in9), .int (nI cnt)] := by
                      intro in9 hin
                      refine r_iaddN C dX7_lookedAt_210 ?_
                      refine r_istore_n (lv2 := [(3, .int (nI (cnt + in9))), (0, .ref m0), (1, .int (nI k)), (2, .int (nI w)), (4, .int (nI (dp - 1))), (5, .int (nI (TA (dp - 1) + 1))), (6, .int (nxV kd sr N (RA (dp - 1)) (TA (dp - 1) + 1))), (7, .int (bI ag)), (8, .int (bI is9))]) C dX7_lookedAt_211 rfl (by decide) rfl ?_
                      refine r_iload C dX7_lookedAt_212 8 rfl ?_
                      refine r_if_eqB (tgt := 242) C dX7_lookedAt_214 (by decide) (fun cz214 => ?_) (fun cz214 => ?_)
                      · have hcn := con_no (isL_f (w := w) (v := dp - 1) (by omega) (his.symm.trans cz214))
                        have hst := hL.stay hdp1 (by omega) (by omega) hcn
                        refine r_goto (tgt := 73) C dX7_lookedAt_242 (by decide) ?_
                        refine V.sub (lv2 := [(0, .ref m0), (1, .int (nI k)), (2, .int (nI w)), (3, .int (nI (cnt + in9))), (4, .int (nI (dp - 1)))]) [1, 2, 3, 0, 4] rfl ?_
                        refine V.eq (σ2 := (mW G σ m0 [xstates, xtyped, xat, xreason, xdone, nI kd, nI N, nI sr] [fs, fwas, fbegun, faside, ftext, fj, gj, fN, ffar, fthen, fqueue, ra, (upd ta (dp - 1) (nI ((TA (dp - 1)) + 1)))])) (lv2 := [(0, .ref m0), (1, .int (nI k)), (2, .int (nI w)), (3, .int (nI (cnt + in9))), (4, .int (nI dp + Int32.ofInt (-1)))]) (st2 := []) rfl rfl (by rw [(show nI (dp - 1) = nI dp + Int32.ofInt (-1) from (nI_m1 hdp1).symm)]) rfl ?_
                        exact ih73 dp (cnt + in9) RA (va_up TA (dp - 1) (TA (dp - 1) + 1)) ra (upd ta (dp - 1) (nI ((TA (dp - 1)) + 1))) fj gj (by first | exact (hL.pop hdp1 (Or.inl cz104)).1 | exact (hL.pop hdp1 (Or.inr cz110)).1 | (rw [hin, cz214]; exact hst.1) | (rw [hin, cz214]; exact hst.1)) (by first | exact hra | exact fun j hj => hra j (by omega) | exact upd_vr hdp1 hra) (by first | exact upd_vt hdp1 hta | exact upd_vs hdp1 hta | exact upd_vp hdp1 hta) (by first | (have g9 := (hL.pop hdp1 (Or.inl cz104)).2; omega) | (have g9 := (hL.pop hdp1 (Or.inr cz110)).2; omega) | exact lk_meas hst.2 hm73 | (have g9 := hst.2; omega))
                      · have hi9 := isL_t (his.symm.trans cz214)
                        refine V.eq (lv2 := [(3, .int (nI (cnt + in9))), (0, .ref m0), (1, .int (nI k)), (2, .int (nI w)), (4, .int (nI (dp - 1))), (5, .int (nI (TA (dp - 1) + 1))), (6, .int (nI (nx (sid kd) N (RA (dp - 1)) (TA (dp - 1) + 1)))), (7, .int (bI ag)), (8, .int (bI is9))]) rfl rfl (by rw [(show nxV kd sr N (RA (dp - 1)) (TA (dp - 1) + 1) = nI (nx (sid kd) N (RA (dp - 1)) (TA (dp - 1) + 1)) from by rw [nxV, if_pos hi9.1])]) rfl ?_
                        have hxl := nx_lt hN6 hLv.1 (show TA (dp - 1) + 1 ≤ N by omega)
                        have hcy := con_yes (sr := sr) (w := w - (dp - 1) - 1) hi9.1 hi9.2.1
                        have hgy : gpR kd N (nx (sid kd) N (RA (dp - 1)) (TA (dp - 1) + 1)) ≤ w - (dp - 1) - 1 := by have := hi9.2.2; omega
                        refine r_iload C dX7_lookedAt_217 6 rfl ?_
                        refine r_if_eqN (tgt := 242) C dX7_lookedAt_219 (by decide) (by omega) (fun cz219 => ?_) (fun cz219 => ?_)
                        · have hst := hL.stay (x := 1) hdp1 (by omega) (by omega) (hcy.trans (by rw [cz219] at hgy ⊢; exact lkA_0 hgy))
                          refine r_goto (tgt := 73) C dX7_lookedAt_242 (by decide) ?_
                          refine V.sub (lv2 := [(0, .ref m0), (1, .int (nI k)), (2, .int (nI w)), (3, .int (nI (cnt + in9))), (4, .int (nI (dp - 1)))]) [1, 2, 3, 0, 4] rfl ?_
                          refine V.eq (σ2 := (mW G σ m0 [xstates, xtyped, xat, xreason, xdone, nI kd, nI N, nI sr] [fs, fwas, fbegun, faside, ftext, fj, gj, fN, ffar, fthen, fqueue, ra, (upd ta (dp - 1) (nI ((TA (dp - 1)) + 1)))])) (lv2 := [(0, .ref m0), (1, .int (nI k)), (2, .int (nI w)), (3, .int (nI (cnt + in9))), (4, .int (nI dp + Int32.ofInt (-1)))]) (st2 := []) rfl rfl (by rw [(show nI (dp - 1) = nI dp + Int32.ofInt (-1) from (nI_m1 hdp1).symm)]) rfl ?_
                          exact ih73 dp (cnt + in9) RA (va_up TA (dp - 1) (TA (dp - 1) + 1)) ra (upd ta (dp - 1) (nI ((TA (dp - 1)) + 1))) fj gj (by first | exact (hL.pop hdp1 (Or.inl cz104)).1 | exact (hL.pop hdp1 (Or.inr cz110)).1 | (rw [hin, cz214]; exact hst.1) | (rw [hin, cz214]; exact hst.1)) (by first | exact hra | exact fun j hj => hra j (by omega) | exact upd_vr hdp1 hra) (by first | exact upd_vt hdp1 hta | exact upd_vs hdp1 hta | exact upd_vp hdp1 hta) (by first | (have g9 := (hL.pop hdp1 (Or.inl cz104)).2; omega) | (have g9 := (hL.pop hdp1 (Or.inr cz110)).2; omega) | exact lk_meas hst.2 hm73 | (have g9 := hst.2; omega))
                        · have hst := hL.push hN6 hdp1 (by omega) (by omega) hxl cz219 hcy hgy
                          refine r_iinc (v := nI ((dp - 1) + 1)) (lv2 := [(4, .int (nI ((dp - 1) + 1))), (3, .int (nI (cnt + in9))), (0, .ref m0), (1, .int (nI k)), (2, .int (nI w)), (5, .int (nI (TA (dp - 1) + 1))), (6, .int (nI (nx (sid kd) N (RA (dp - 1)) (TA (dp - 1) + 1)))), (7, .int (bI ag)), (8, .int (bI is9))]) C dX7_lookedAt_222 (k := 4) rfl (nI_add _ 1) (by decide) rfl ?_
                          refine r_aload_n C dX7_lookedAt_225 rfl 2 rfl ?_
                          refine rm_get (v := .ref (m0 + 12)) C 19 (by decide) wF_X7_44 rfl dX7_lookedAt_226 ?_
                          refine r_iload C dX7_lookedAt_229 0 rfl ?_
                          refine r_iload C dX7_lookedAt_231 6 rfl ?_
                          refine rm_ast (f := ra) (len := 8) (A2 := [fs, fwas, fbegun, faside, ftext, fj, gj, fN, ffar, fthen, fqueue, (upd ra ((dp - 1) + 1) (nI (nx (sid kd) N (RA (dp - 1)) (TA (dp - 1) + 1)))), (upd ta (dp - 1) (nI ((TA (dp - 1)) + 1)))]) C 11 rfl rfl (by decide) (by omega) rfl rfl dX7_lookedAt_233 ?_
                          refine r_aload_n C dX7_lookedAt_234 rfl 2 rfl ?_
                          refine rm_get (v := .ref (m0 + 13)) C 20 (by decide) wF_X7_47 rfl dX7_lookedAt_235 ?_
                          refine r_iload C dX7_lookedAt_238 0 rfl ?_
                          refine r_iconst (v := nI 0) C dX7_lookedAt_240 (by decide) ?_
                          refine rm_ast (f := (upd ta (dp - 1) (nI ((TA (dp - 1)) + 1)))) (len := 8) (A2 := [fs, fwas, fbegun, faside, ftext, fj, gj, fN, ffar, fthen, fqueue, (upd ra ((dp - 1) + 1) (nI (nx (sid kd) N (RA (dp - 1)) (TA (dp - 1) + 1)))), (upd (upd ta (dp - 1) (nI ((TA (dp - 1)) + 1))) ((dp - 1) + 1) (nI 0))]) C 12 rfl rfl (by decide) (by omega) rfl rfl dX7_lookedAt_241 ?_
                          refine r_goto (tgt := 73) C dX7_lookedAt_242 (by decide) ?_
                          refine V.sub (lv2 := [(0, .ref m0), (1, .int (nI k)), (2, .int (nI w)), (3, .int (nI (cnt + in9))), (4, .int (nI ((dp - 1) + 1)))]) [2, 3, 4, 1, 0] rfl ?_
                          refine V.eq (σ2 := (mW G σ m0 [xstates, xtyped, xat, xreason, xdone, nI kd, nI N, nI sr] [fs, fwas, fbegun, faside, ftext, fj, gj, fN, ffar, fthen, fqueue, (upd ra ((dp - 1) + 1) (nI (nx (sid kd) N (RA (dp - 1)) (TA (dp - 1) + 1)))), (upd (upd ta (dp - 1) (nI ((TA (dp - 1)) + 1))) ((dp - 1) + 1) (nI 0))])) (lv2 := [(0, .ref m0), (1, .int (nI k)), (2, .int (nI w)), (3, .int (nI (cnt + in9))), (4, .int (nI (dp + 1) + Int32.ofInt (-1)))]) (st2 := []) rfl rfl (by rw [(show nI ((dp - 1) + 1) = nI (dp + 1) + Int32.ofInt (-1) from (by rw [nI_m1 (show 1 ≤ dp + 1 by omega)]; exact congrArg nI (by omega)))]) rfl ?_
                          exact ih73 (dp + 1) (cnt + in9) (va_up RA (dp - 1 + 1) (nx (sid kd) N (RA (dp - 1)) (TA (dp - 1) + 1))) (va_up (va_up TA (dp - 1) (TA (dp - 1) + 1)) (dp - 1 + 1) 0) (upd ra ((dp - 1) + 1) (nI (nx (sid kd) N (RA (dp - 1)) (TA (dp - 1) + 1)))) (upd (upd ta (dp - 1) (nI ((TA (dp - 1)) + 1))) ((dp - 1) + 1) (nI 0)) fj gj (by first | exact (hL.pop hdp1 (Or.inl cz104)).1 | exact (hL.pop hdp1 (Or.inr cz110)).1 | (rw [hin, cz214]; exact hst.1) | (rw [hin, cz214]; exact hst.1)) (by first | exact hra | exact fun j hj => hra j (by omega) | exact upd_vr hdp1 hra) (by first | exact upd_vt hdp1 hta | exact upd_vs hdp1 hta | exact upd_vp hdp1 hta) (by first | (have g9 := (hL.pop hdp1 (Or.inl cz104)).2; omega) | (have g9 := (hL.pop hdp1 (Or.inr cz110)).2; omega) | exact lk_meas hst.2 hm73 | (have g9 := hst.2; omega))
                    refine r_iload_n C dX7_lookedAt_199 rfl 4 rfl ?_
                    refine r_iload C dX7_lookedAt_200 0 rfl ?_
                    refine r_if_eqB (tgt := 209) C dX7_lookedAt_202 (by decide) (fun cz202 => ?_) (fun cz202 => ?_)
                    · refine r_iconst (v := nI 0) C dX7_lookedAt_209 (by decide) ?_
                      refine V.sub (lv2 := [(0, .ref m0), (1, .int (nI k)), (2, .int (nI w)), (3, .int (nI cnt)), (4, .int (nI (dp - 1))), (5, .int (nI (TA (dp - 1) + 1))), (6, .int (nxV kd sr N (RA (dp - 1)) (TA (dp - 1) + 1))), (7, .int (bI ag)), (8, .int (bI is9))]) [1, 2, 3, 4, 5, 6, 7, 8, 0] rfl ?_
                      exact L210 0 (by rw [cz202]; rfl)
                    · refine r_iconst (v := nI 1) C dX7_lookedAt_205 (by decide) ?_
                      refine r_goto (tgt := 210) C dX7_lookedAt_206 (by decide) ?_
                      refine V.sub (lv2 := [(0, .ref m0), (1, .int (nI k)), (2, .int (nI w)), (3, .int (nI cnt)), (4, .int (nI (dp - 1))), (5, .int (nI (TA (dp - 1) + 1))), (6, .int (nxV kd sr N (RA (dp - 1)) (TA (dp - 1) + 1))), (7, .int (bI ag)), (8, .int (bI is9))]) [1, 2, 3, 4, 5, 6, 7, 8, 0] rfl ?_
                      exact L210 1 (by rw [cz202]; rfl)
                  refine r_iload C dX7_lookedAt_167 7 rfl ?_
                  refine r_if_lt (tgt := 196) C dX7_lookedAt_169 (by decide) (fun cz169 => ?_) (fun cz169 => ?_)
                  · have ha0 : aR1 kd sr N (RA (dp - 1)) (TA (dp - 1) + 1) = false := by cases g : aR1 kd sr N (RA (dp - 1)) (TA (dp - 1) + 1) with | false => rfl | true => exact absurd g (nxV_neg hv.1 hLv.1 (by omega) cz169)
                    refine r_iconst (v := nI 0) C dX7_lookedAt_196 (by decide) ?_
                    refine V.sub (lv2 := [(0, .ref m0), (1, .int (nI k)), (2, .int (nI w)), (3, .int (nI cnt)), (4, .int (nI (dp - 1))), (5, .int (nI (TA (dp - 1) + 1))), (6, .int (nxV kd sr N (RA (dp - 1)) (TA (dp - 1) + 1))), (7, .int (bI ag))]) [1, 2, 3, 4, 5, 6, 7, 0] rfl ?_
                    refine V.eq (σ2 := (mW G σ m0 [xstates, xtyped, xat, xreason, xdone, nI kd, nI N, nI sr] [fs, fwas, fbegun, faside, ftext, f0, g0, fN, ffar, fthen, fqueue, ra, (upd ta (dp - 1) (nI ((TA (dp - 1)) + 1)))])) (lv2 := [(0, .ref m0), (1, .int (nI k)), (2, .int (nI w)), (3, .int (nI cnt)), (4, .int (nI (dp - 1))), (5, .int (nI (TA (dp - 1) + 1))), (6, .int (nxV kd sr N (RA (dp - 1)) (TA (dp - 1) + 1))), (7, .int (bI ag))]) (st2 := [.int (bI false)]) rfl rfl rfl (by rw [(show nI 0 = bI false from rfl)]) ?_
                    exact L197 false f0 g0 (by first | exact isL_0 ha0 | exact isL_1 (hag.symm.trans cz174) | exact isL_2 cz189 | exact isL_3 ha9 (hag.symm.trans cz174) cz189)
                  · have ha9 := nxV_nn (Int32.not_lt.mp cz169)
                    refine V.eq (lv2 := [(7, .int (bI ag)), (0, .ref m0), (1, .int (nI k)), (2, .int (nI w)), (3, .int (nI cnt)), (4, .int (nI (dp - 1))), (5, .int (nI (TA (dp - 1) + 1))), (6, .int (nI (nx (sid kd) N (RA (dp - 1)) (TA (dp - 1) + 1))))]) rfl rfl (by rw [(show nxV kd sr N (RA (dp - 1)) (TA (dp - 1) + 1) = nI (nx (sid kd) N (RA (dp - 1)) (TA (dp - 1) + 1)) from by rw [nxV, if_pos ha9])]) rfl ?_
                    have hxl := nx_lt hN6 hLv.1 (show TA (dp - 1) + 1 ≤ N by omega)
                    have hgl := gp_lt (sid kd) hN6 (oR (sid kd) N (nx (sid kd) N (RA (dp - 1)) (TA (dp - 1) + 1))) (sR (sid kd) N (nx (sid kd) N (RA (dp - 1)) (TA (dp - 1) + 1)))
                    have hg6 : gp (sid kd) N (oR (sid kd) N (nx (sid kd) N (RA (dp - 1)) (TA (dp - 1) + 1))) (sR (sid kd) N (nx (sid kd) N (RA (dp - 1)) (TA (dp - 1) + 1))) ≤ 6 := gpR_le kd hN6 (nx (sid kd) N (RA (dp - 1)) (TA (dp - 1) + 1))
                    refine r_iload C dX7_lookedAt_172 0 rfl ?_
                    refine r_if_neB (tgt := 196) C dX7_lookedAt_174 (by decide) (fun cz174 => ?_) (fun cz174 => ?_)
                    · refine r_iconst (v := nI 0) C dX7_lookedAt_196 (by decide) ?_
                      refine V.sub (lv2 := [(0, .ref m0), (1, .int (nI k)), (2, .int (nI w)), (3, .int (nI cnt)), (4, .int (nI (dp - 1))), (5, .int (nI (TA (dp - 1) + 1))), (6, .int (nI (nx (sid kd) N (RA (dp - 1)) (TA (dp - 1) + 1)))), (7, .int (bI ag))]) [1, 2, 3, 4, 5, 6, 7, 0] rfl ?_
                      refine V.eq (σ2 := (mW G σ m0 [xstates, xtyped, xat, xreason, xdone, nI kd, nI N, nI sr] [fs, fwas, fbegun, faside, ftext, f0, g0, fN, ffar, fthen, fqueue, ra, (upd ta (dp - 1) (nI ((TA (dp - 1)) + 1)))])) (lv2 := [(0, .ref m0), (1, .int (nI k)), (2, .int (nI w)), (3, .int (nI cnt)), (4, .int (nI (dp - 1))), (5, .int (nI (TA (dp - 1) + 1))), (6, .int (nxV kd sr N (RA (dp - 1)) (TA (dp - 1) + 1))), (7, .int (bI ag))]) (st2 := [.int (bI false)]) rfl rfl (by rw [(show nI (nx (sid kd) N (RA (dp - 1)) (TA (dp - 1) + 1)) = nxV kd sr N (RA (dp - 1)) (TA (dp - 1) + 1) from by rw [nxV, if_pos ha9])]) (by rw [(show nI 0 = bI false from rfl)]) ?_
                      exact L197 false f0 g0 (by first | exact isL_0 ha0 | exact isL_1 (hag.symm.trans cz174) | exact isL_2 cz189 | exact isL_3 ha9 (hag.symm.trans cz174) cz189)
                    · refine r_iload C dX7_lookedAt_177 5 rfl ?_
                      refine r_iconst (v := nI 1) C dX7_lookedAt_179 (by decide) ?_
                      refine r_iaddN C dX7_lookedAt_180 ?_
                      refine r_aload_n C dX7_lookedAt_181 rfl 1 rfl ?_
                      refine r_iload C dX7_lookedAt_182 7 rfl ?_
                      refine r_callV (As := [.int (nI (nx (sid kd) N (RA (dp - 1)) (TA (dp - 1) + 1)))]) C (c_X7_gapsOf (kd := kd) (N := N) (o := oR (sid kd) N (nx (sid kd) N (RA (dp - 1)) (TA (dp - 1) + 1))) (sd := sR (sid kd) N (nx (sid kd) N (RA (dp - 1)) (TA (dp - 1) + 1))) (r := nx (sid kd) N (RA (dp - 1)) (TA (dp - 1) + 1)) (hN6) (hN1) (oR_lt hxl) (hv.1.1) (sR_lt) (rk_R _ _ _)) wM_X7_150 wI_X7_gapsOf wN_X7 wC_X7_gapsOf wV_X7_gapsOf hd_X7_gapsOf ⟨Nat.le_of_ble_eq_true rfl, Nat.le_of_ble_eq_true rfl⟩ rfl (mW_o _ _ _ _ _) rfl rfl (Nat.le_of_ble_eq_true rfl) dX7_lookedAt_184 ⟨Nat.le_of_ble_eq_true rfl, Nat.le_of_ble_eq_true rfl⟩ (fun rv n2 σ2 hp => ?_)
                      obtain ⟨rfl, rfl, f2_5, g2_6, rfl, hz2_7, hb2_8⟩ := hp
                      refine V.eq (σ2 := (mW G σ m0 [xstates, xtyped, xat, xreason, xdone, nI kd, nI N, nI sr] [fs, fwas, fbegun, faside, ftext, f2_5, g2_6, fN, ffar, fthen, fqueue, ra, (upd ta (dp - 1) (nI ((TA (dp - 1)) + 1)))])) (n2 := n) (st2 := [.int (nI (gp (sid kd) N (oR (sid kd) N (nx (sid kd) N (RA (dp - 1)) (TA (dp - 1) + 1))) (sR (sid kd) N (nx (sid kd) N (RA (dp - 1)) (TA (dp - 1) + 1))))), .int (nI ((dp - 1) + 1))]) rfl rfl rfl rfl ?_
                      refine r_iaddN C dX7_lookedAt_187 ?_
                      refine r_iload_n C dX7_lookedAt_188 rfl 3 rfl ?_
                      refine r_icmp_gtN (tgt := 196) C dX7_lookedAt_189 (by decide) (by omega) (by omega) (fun cz189 => ?_) (fun cz189 => ?_)
                      · refine r_iconst (v := nI 0) C dX7_lookedAt_196 (by decide) ?_
                        refine V.sub (lv2 := [(0, .ref m0), (1, .int (nI k)), (2, .int (nI w)), (3, .int (nI cnt)), (4, .int (nI (dp - 1))), (5, .int (nI (TA (dp - 1) + 1))), (6, .int (nI (nx (sid kd) N (RA (dp - 1)) (TA (dp - 1) + 1)))), (7, .int (bI ag))]) [1, 2, 3, 4, 5, 6, 7, 0] rfl ?_
                        refine V.eq (σ2 := (mW G σ m0 [xstates, xtyped, xat, xreason, xdone, nI kd, nI N, nI sr] [fs, fwas, fbegun, faside, ftext, f2_5, g2_6, fN, ffar, fthen, fqueue, ra, (upd ta (dp - 1) (nI ((TA (dp - 1)) + 1)))])) (lv2 := [(0, .ref m0), (1, .int (nI k)), (2, .int (nI w)), (3, .int (nI cnt)), (4, .int (nI (dp - 1))), (5, .int (nI (TA (dp - 1) + 1))), (6, .int (nxV kd sr N (RA (dp - 1)) (TA (dp - 1) + 1))), (7, .int (bI ag))]) (st2 := [.int (bI false)]) rfl rfl (by rw [(show nI (nx (sid kd) N (RA (dp - 1)) (TA (dp - 1) + 1)) = nxV kd sr N (RA (dp - 1)) (TA (dp - 1) + 1) from by rw [nxV, if_pos ha9])]) (by rw [(show nI 0 = bI false from rfl)]) ?_
                        exact L197 false f2_5 g2_6 (by first | exact isL_0 ha0 | exact isL_1 (hag.symm.trans cz174) | exact isL_2 cz189 | exact isL_3 ha9 (hag.symm.trans cz174) cz189)
                      · refine r_iconst (v := nI 1) C dX7_lookedAt_192 (by decide) ?_
                        refine r_goto (tgt := 197) C dX7_lookedAt_193 (by decide) ?_
                        refine V.sub (lv2 := [(0, .ref m0), (1, .int (nI k)), (2, .int (nI w)), (3, .int (nI cnt)), (4, .int (nI (dp - 1))), (5, .int (nI (TA (dp - 1) + 1))), (6, .int (nI (nx (sid kd) N (RA (dp - 1)) (TA (dp - 1) + 1)))), (7, .int (bI ag))]) [1, 2, 3, 4, 5, 6, 7, 0] rfl ?_
                        refine V.eq (σ2 := (mW G σ m0 [xstates, xtyped, xat, xreason, xdone, nI kd, nI N, nI sr] [fs, fwas, fbegun, faside, ftext, f2_5, g2_6, fN, ffar, fthen, fqueue, ra, (upd ta (dp - 1) (nI ((TA (dp - 1)) + 1)))])) (lv2 := [(0, .ref m0), (1, .int (nI k)), (2, .int (nI w)), (3, .int (nI cnt)), (4, .int (nI (dp - 1))), (5, .int (nI (TA (dp - 1) + 1))), (6, .int (nxV kd sr N (RA (dp - 1)) (TA (dp - 1) + 1))), (7, .int (bI ag))]) (st2 := [.int (bI true)]) rfl rfl (by rw [(show nI (nx (sid kd) N (RA (dp - 1)) (TA (dp - 1) + 1)) = nxV kd sr N (RA (dp - 1)) (TA (dp - 1) + 1) from by rw [nxV, if_pos ha9])]) (by rw [(show nI 1 = bI true from rfl)]) ?_
                        exact L197 true f2_5 g2_6 (by first | exact isL_0 ha0 | exact isL_1 (hag.symm.trans cz174) | exact isL_2 cz189 | exact isL_3 ha9 (hag.symm.trans cz174) cz189)
                refine r_iload C dX7_lookedAt_141 6 rfl ?_
                refine r_if_leN (tgt := 164) C dX7_lookedAt_143 (by decide) (by omega) (fun cz143 => ?_) (fun cz143 => ?_)
                · refine r_iconst (v := nI 0) C dX7_lookedAt_164 (by decide) ?_
                  refine V.sub (lv2 := [(0, .ref m0), (1, .int (nI k)), (2, .int (nI w)), (3, .int (nI cnt)), (4, .int (nI (dp - 1))), (5, .int (nI (TA (dp - 1) + 1))), (6, .int (nxV kd sr N (RA (dp - 1)) (TA (dp - 1) + 1)))]) [2, 3, 4, 5, 6, 1, 0] rfl ?_
                  refine V.eq (σ2 := (mW G σ m0 [xstates, xtyped, xat, xreason, xdone, nI kd, nI N, nI sr] [fs, fwas, fbegun, faside, ftext, f0, g0, fN, ffar, fthen, fqueue, ra, (upd ta (dp - 1) (nI ((TA (dp - 1)) + 1)))])) (lv2 := [(0, .ref m0), (1, .int (nI k)), (2, .int (nI w)), (3, .int (nI cnt)), (4, .int (nI (dp - 1))), (5, .int (nI (TA (dp - 1) + 1))), (6, .int (nxV kd sr N (RA (dp - 1)) (TA (dp - 1) + 1)))]) (st2 := [.int (bI false)]) rfl rfl rfl (by rw [(show nI 0 = bI false from rfl)]) ?_
                  exact L165 false (by first | exact ag_0 cz143 | exact ag_t cz143 cz157 | exact ag_f cz143 cz157)
                · refine r_aload_n C dX7_lookedAt_146 rfl 2 rfl ?_
                  refine rm_get (v := .ref (m0 + 13)) C 20 (by decide) wF_X7_47 rfl dX7_lookedAt_147 ?_
                  refine r_iload C dX7_lookedAt_150 6 rfl ?_
                  refine r_iconst (v := nI 1) C dX7_lookedAt_152 (by decide) ?_
                  refine r_isubN C dX7_lookedAt_153 (by omega) ?_
                  refine rm_ald (f := (upd ta (dp - 1) (nI ((TA (dp - 1)) + 1)))) (len := 8) C 12 rfl rfl (by decide) (by omega) dX7_lookedAt_154 ?_
                  have hL2 := (hL.2.1 (dp - 1 - 1) (by omega)).2
                  refine V.top (y := nI (TA (dp - 1 - 1))) (by rw [pk_un (by omega)]; exact hta _ (by omega)) ?_
                  refine r_iload C dX7_lookedAt_155 1 rfl ?_
                  refine r_icmp_neN (tgt := 164) C dX7_lookedAt_157 (by decide) (by omega) (by omega) (fun cz157 => ?_) (fun cz157 => ?_)
                  · refine r_iconst (v := nI 0) C dX7_lookedAt_164 (by decide) ?_
                    refine V.sub (lv2 := [(0, .ref m0), (1, .int (nI k)), (2, .int (nI w)), (3, .int (nI cnt)), (4, .int (nI (dp - 1))), (5, .int (nI (TA (dp - 1) + 1))), (6, .int (nxV kd sr N (RA (dp - 1)) (TA (dp - 1) + 1)))]) [2, 3, 4, 5, 6, 1, 0] rfl ?_
                    refine V.eq (σ2 := (mW G σ m0 [xstates, xtyped, xat, xreason, xdone, nI kd, nI N, nI sr] [fs, fwas, fbegun, faside, ftext, f0, g0, fN, ffar, fthen, fqueue, ra, (upd ta (dp - 1) (nI ((TA (dp - 1)) + 1)))])) (lv2 := [(0, .ref m0), (1, .int (nI k)), (2, .int (nI w)), (3, .int (nI cnt)), (4, .int (nI (dp - 1))), (5, .int (nI (TA (dp - 1) + 1))), (6, .int (nxV kd sr N (RA (dp - 1)) (TA (dp - 1) + 1)))]) (st2 := [.int (bI false)]) rfl rfl rfl (by rw [(show nI 0 = bI false from rfl)]) ?_
                    exact L165 false (by first | exact ag_0 cz143 | exact ag_t cz143 cz157 | exact ag_f cz143 cz157)
                  · refine r_iconst (v := nI 1) C dX7_lookedAt_160 (by decide) ?_
                    refine r_goto (tgt := 165) C dX7_lookedAt_161 (by decide) ?_
                    refine V.sub (lv2 := [(0, .ref m0), (1, .int (nI k)), (2, .int (nI w)), (3, .int (nI cnt)), (4, .int (nI (dp - 1))), (5, .int (nI (TA (dp - 1) + 1))), (6, .int (nxV kd sr N (RA (dp - 1)) (TA (dp - 1) + 1)))]) [2, 3, 4, 5, 6, 1, 0] rfl ?_
                    refine V.eq (σ2 := (mW G σ m0 [xstates, xtyped, xat, xreason, xdone, nI kd, nI N, nI sr] [fs, fwas, fbegun, faside, ftext, f0, g0, fN, ffar, fthen, fqueue, ra, (upd ta (dp - 1) (nI ((TA (dp - 1)) + 1)))])) (lv2 := [(0, .ref m0), (1, .int (nI k)), (2, .int (nI w)), (3, .int (nI cnt)), (4, .int (nI (dp - 1))), (5, .int (nI (TA (dp - 1) + 1))), (6, .int (nxV kd sr N (RA (dp - 1)) (TA (dp - 1) + 1)))]) (st2 := [.int (bI true)]) rfl rfl rfl (by rw [(show nI 1 = bI true from rfl)]) ?_
                    exact L165 true (by first | exact ag_0 cz143 | exact ag_t cz143 cz157 | exact ag_f cz143 cz157)
              · refine r_iinc (v := (nI (dp - 1)) + Int32.ofInt (-1)) (lv2 := [(4, .int ((nI (dp - 1)) + Int32.ofInt (-1))), (5, .int (nI (TA (dp - 1) + 1))), (0, .ref m0), (1, .int (nI k)), (2, .int (nI w)), (3, .int (nI cnt))]) C dX7_lookedAt_113 (k := 5) rfl rfl (by decide) rfl ?_
                refine r_goto (tgt := 242) C dX7_lookedAt_116 (by decide) ?_
                refine r_goto (tgt := 73) C dX7_lookedAt_242 (by decide) ?_
                refine V.sub (lv2 := [(0, .ref m0), (1, .int (nI k)), (2, .int (nI w)), (3, .int (nI cnt)), (4, .int ((nI (dp - 1)) + Int32.ofInt (-1)))]) [2, 3, 4, 5, 0] rfl ?_
                refine V.eq (σ2 := (mW G σ m0 [xstates, xtyped, xat, xreason, xdone, nI kd, nI N, nI sr] [fs, fwas, fbegun, faside, ftext, f0, g0, fN, ffar, fthen, fqueue, ra, (upd ta (dp - 1) (nI ((TA (dp - 1)) + 1)))])) (lv2 := [(0, .ref m0), (1, .int (nI k)), (2, .int (nI w)), (3, .int (nI cnt)), (4, .int (nI (dp - 1) + Int32.ofInt (-1)))]) (st2 := []) rfl rfl (by rw [(show (nI (dp - 1)) + Int32.ofInt (-1) = nI (dp - 1) + Int32.ofInt (-1) from rfl)]) rfl ?_
                exact ih73 (dp - 1) cnt RA TA ra (upd ta (dp - 1) (nI ((TA (dp - 1)) + 1))) f0 g0 (by first | exact (hL.pop hdp1 (Or.inl cz104)).1 | exact (hL.pop hdp1 (Or.inr cz110)).1 | (rw [hin, cz214]; exact hst.1) | (rw [hin, cz214]; exact hst.1)) (by first | exact hra | exact fun j hj => hra j (by omega) | exact upd_vr hdp1 hra) (by first | exact upd_vt hdp1 hta | exact upd_vs hdp1 hta | exact upd_vp hdp1 hta) (by first | (have g9 := (hL.pop hdp1 (Or.inl cz104)).2; omega) | (have g9 := (hL.pop hdp1 (Or.inr cz110)).2; omega) | exact lk_meas hst.2 hm73 | (have g9 := hst.2; omega))
      refine V.sub (lv2 := [(0, .ref m0), (1, .int (nI k)), (2, .int (nI w)), (3, .int (nI 1)), (4, .int dep0)]) [1, 2, 3, 4, 0] rfl ?_
      refine V.eq (σ2 := (mW G σ m0 [xstates, xtyped, xat, xreason, xdone, nI kd, nI N, nI sr] [fs, fwas, fbegun, faside, ftext, fj0, gj0, fN, ffar, fthen, fqueue, (upd frankAt 0 (nI (rk (sid kd) N o sd))), (upd fturnAt 0 (nI 0))])) (lv2 := [(0, .ref m0), (1, .int (nI k)), (2, .int (nI w)), (3, .int (nI 1)), (4, .int (nI (if (rk (sid kd) N o sd) = 0 then 0 else 1) + Int32.ofInt (-1)))]) (st2 := []) rfl rfl (by rw [(show dep0 = nI (if (rk (sid kd) N o sd) = 0 then 0 else 1) + Int32.ofInt (-1) from by rcases hdep with ⟨g1, g2⟩ | ⟨g1, g2⟩; (rw [if_pos g1, g2]; decide); (rw [if_neg g1, g2]; decide))]) rfl ?_
      exact L73 _ (if (rk (sid kd) N o sd) = 0 then 0 else 1) 1 (fun _ => (rk (sid kd) N o sd)) (fun _ => 0) (upd frankAt 0 (nI (rk (sid kd) N o sd))) (upd fturnAt 0 (nI 0)) fj0 gj0 (lk_init hN6 hol hg0) (fun j hj => by rw [show j = 0 by split at hj <;> omega, pk_us]) (fun j hj => by rw [show j = 0 by split at hj <;> omega, pk_us]) (Nat.lt_succ_self _)
    refine r_if_neN (tgt := 63) C dX7_lookedAt_56 (by decide) (by omega) (fun cz56 => ?_) (fun cz56 => ?_)
    · refine r_iconst (v := nI 0) C dX7_lookedAt_63 (by decide) ?_
      refine V.sub (lv2 := [(0, .ref m0), (1, .int (nI k)), (2, .int (nI w)), (3, .int (nI 1))]) [1, 2, 3, 0] rfl ?_
      exact L64 (nI 0) f2_1 g2_2 (by first | exact Or.inl ⟨cz56, rfl⟩ | exact Or.inr ⟨cz56, rfl⟩)
    · refine r_iconst (v := (-1)) C dX7_lookedAt_59 (by decide) ?_
      refine r_goto (tgt := 64) C dX7_lookedAt_60 (by decide) ?_
      refine V.sub (lv2 := [(0, .ref m0), (1, .int (nI k)), (2, .int (nI w)), (3, .int (nI 1))]) [1, 2, 3, 0] rfl ?_
      exact L64 (-1) f2_1 g2_2 (by first | exact Or.inl ⟨cz56, rfl⟩ | exact Or.inr ⟨cz56, rfl⟩)
  · have hg0 : w < gpR kd N (rk (sid kd) N o sd) := by rw [gpR_rk hv.2.2]; exact cz43
    refine r_iconst (v := nI 0) C dX7_lookedAt_46 (by decide) ?_
    exact r_iret C hr hlocks (Nat.le_of_ble_eq_true rfl) (Nat.le_of_ble_eq_true rfl) dX7_lookedAt_47 (hpo _ _ _ ⟨by rw [lk_cut hg0], rfl, fN, (upd frankAt 0 (nI (rk (sid kd) N o sd))), fturnAt, f2_1, g2_2, rfl⟩)
