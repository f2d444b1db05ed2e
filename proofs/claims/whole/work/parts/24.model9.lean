def lwA (v : Nat) : Int32 := if v < 1000000 then nI v else (-1000004)
theorem okE_neg {kd sr N k : Nat} {d : Nat → Nat} {t : Int32} (hh : shOK kd N sr) (hk : k < 6 * rR (sid kd) N) (h : (k % 6 + 1 ≤ N ∧ t = nxV kd sr N (k / 6) (k % 6 + 1)) ∨ (¬ k % 6 + 1 ≤ N ∧ t = -1)) (hn : t < 0) : okE kd sr N d k := by
  intro h1 h2
  rcases h with ⟨g1, g2⟩ | ⟨g1, -⟩
  · rw [g2] at hn
    exact absurd h2 (nxV_neg hh (by omega) g1 hn)
  · exact absurd h1 g1
theorem lw_all {kd sr N R S kk : Nat} {b : Bool} {d : Nat → Nat} (h : (b = false ∧ sumD d R = S ∧ ∀ z, z < kk → okE kd sr N d z) ∨ (b = true ∧ sumD d R < S)) (hb : b = false) (hk : 6 * R ≤ kk) : ∀ z, z < 6 * R → okE kd sr N d z := by
  rcases h with ⟨-, -, h⟩ | ⟨h, -⟩
  · exact fun z hz => h z (by omega)
  · rw [hb] at h; cases h
theorem lw_meas {kd sr N R S kk fu : Nat} {b b0 : Bool} {d : Nat → Nat} (h : (b = false ∧ sumD d R = S ∧ ∀ z, z < kk → okE kd sr N d z) ∨ (b = true ∧ sumD d R < S)) (h0 : b0 = true) (hm : 2 * S + b0.toNat < fu + 1) : 2 * sumD d R + b.toNat < fu := by
  subst h0
  rcases h with ⟨rfl, h, -⟩ | ⟨rfl, h⟩
  · simp only [Bool.toNat_true, Bool.toNat_false] at *; omega
  · simp only [Bool.toNat_true] at *; omega
theorem lw_skip {kd sr N R S kk : Nat} {b : Bool} {d : Nat → Nat} (h : (b = false ∧ sumD d R = S ∧ ∀ z, z < kk → okE kd sr N d z) ∨ (b = true ∧ sumD d R < S)) (hs : okE kd sr N d kk) : (b = false ∧ sumD d R = S ∧ ∀ z, z < kk + 1 → okE kd sr N d z) ∨ (b = true ∧ sumD d R < S) := by
  rcases h with ⟨h1, h2, h3⟩ | h
  · refine Or.inl ⟨h1, h2, fun z hz => ?_⟩
    rcases Nat.lt_or_eq_of_le (Nat.le_of_lt_succ hz) with g | g
    · exact h3 z g
    · rw [g]; exact hs
  · exact Or.inr h
theorem lw_low {kd sr N R S kk x v : Nat} {b : Bool} {d : Nat → Nat} (h : (b = false ∧ sumD d R = S ∧ ∀ z, z < kk → okE kd sr N d z) ∨ (b = true ∧ sumD d R < S)) (hx : x < R) (hv : v < d x) : (true = false ∧ sumD (va_up d x v) R = S ∧ ∀ z, z < kk + 1 → okE kd sr N (va_up d x v) z) ∨ (true = true ∧ sumD (va_up d x v) R < S) := by
  have h1 := (sumD_up (d := d) (x := x) (v := v) R).2 hx
  refine Or.inr ⟨rfl, ?_⟩
  rcases h with ⟨-, h2, -⟩ | ⟨-, h2⟩ <;> omega

abbrev rm_X7_leastWork_y : Room := { frames := 4, cells := 0, slots := 0, locals := 90 }
set_option maxRecDepth 100000 in
set_option maxHeartbeats 4000000 in
theorem c_X7_leastWork_y {l : Launch} {G : gG} {n : Nat} {σ : gS} {m0 : Nat} {xstates xtyped xat xreason xdone xkind xn xstrength : Int32} {fs fwas fbegun faside ftext fsize fburnt fnext ffar fthen fqueue frankAt fturnAt : Nat → Int32} {ns k kd N sr o sd : Nat} {dw : Nat → Nat} (hns : fs 0 = nI ns) (hns5 : ns ≤ 5) (hkn : k < ns) (hst : StkAt fs k kd N sr o sd) (hv : Vld kd N sr o sd) (hdw : DistIs (fun m => m) kd sr N dw) : GM l G yX7_leastWork cX7_leastWork 7 (some .int) rm_X7_leastWork_y n (mW G σ m0 [xstates, xtyped, xat, xreason, xdone, xkind, xn, xstrength] [fs, fwas, fbegun, faside, ftext, fsize, fburnt, fnext, ffar, fthen, fqueue, frankAt, fturnAt]) [.ref m0, .int (nI k)] (fun rv n2 σ2 => some (.int (lwA (dw (rk (sid kd) N o sd)))) = rv ∧ n = n2 ∧ ∃ (f3 : Nat → Int32) (fr2 : Nat → Int32) (f2 : Nat → Int32) (g2 : Nat → Int32), (mW G σ m0 [xstates, xtyped, xat, xreason, xdone, nI kd, nI N, nI sr] [fs, fwas, fbegun, faside, ftext, f2, g2, f3, fr2, fthen, fqueue, frankAt, fturnAt]) = σ2) := by
  refine GM.intro (by decide +kernel) (Nat.le_of_ble_eq_true rfl) (fun p e s m args below meth c C hr hlocks hname po hpo => ?_)
  have C : Cx p s m args c cX7_leastWork 7 RX7 G := C
  have hk : k < 5 := by omega
  have hN6 := hv.1.N
  have hN1 := hv.1.2.1
  have hRl := rR_le hv.1
  have hol := rk_ltR hv.2.1 hv.2.2
  refine r_aload_n C dX7_leastWork_0 rfl 0 rfl ?_
  refine r_iload_n C dX7_leastWork_1 rfl 1 rfl ?_
  refine r_callV (As := [.int (nI k)]) C (c_X7_isStack (x := nI k) (ns := ns) (by first | assumption | omega)) wM_X7_98 wI_X7_isStack wN_X7 wC_X7_isStack wV_X7_isStack hd_X7_isStack ⟨Nat.le_of_ble_eq_true rfl, Nat.le_of_ble_eq_true rfl⟩ rfl (mW_o _ _ _ _ _) rfl rfl (Nat.le_of_ble_eq_true rfl) dX7_leastWork_2 ⟨Nat.le_of_ble_eq_true rfl, Nat.le_of_ble_eq_true rfl⟩ (fun rv n2 σ2 hp => ?_)
  obtain ⟨rfl, rfl, rfl⟩ := hp
  refine V.eq (σ2 := (mW G σ m0 [xstates, xtyped, xat, xreason, xdone, xkind, xn, xstrength] [fs, fwas, fbegun, faside, ftext, fsize, fburnt, fnext, ffar, fthen, fqueue, frankAt, fturnAt])) (n2 := n) (st2 := [.int (bI (isS (nI k) ns))]) rfl rfl rfl rfl ?_
  refine V.top (y := bI true) (congrArg bI (isS_t ns (by omega) k hkn)) ?_
  refine r_if_neB (tgt := 11) C dX7_leastWork_5 (by decide) (fun _ => ?_) (fun z => absurd z (by decide))
  refine r_aload_n C dX7_leastWork_11 rfl 0 rfl ?_
  refine r_iload_n C dX7_leastWork_12 rfl 1 rfl ?_
  refine r_callV (As := [.int (nI k)]) C (c_X7_leads (k := k) (kd := kd) (N := N) (sr := sr) (o := o) (sd := sd) (by first | assumption | omega) (by first | assumption | omega) (by first | assumption | omega)) wM_X7_143 wI_X7_leads wN_X7 wC_X7_leads wV_X7_leads hd_X7_leads ⟨Nat.le_of_ble_eq_true rfl, Nat.le_of_ble_eq_true rfl⟩ rfl (mW_o _ _ _ _ _) rfl rfl (Nat.le_of_ble_eq_true rfl) dX7_leastWork_13 ⟨Nat.le_of_ble_eq_true rfl, Nat.le_of_ble_eq_true rfl⟩ (fun rv n2 σ2 hp => ?_)
  obtain ⟨rfl, rfl, fN, fL, gL, rfl, hnx, hzL, hbL⟩ := hp
  refine V.eq (σ2 := (mW G σ m0 [xstates, xtyped, xat, xreason, xdone, nI kd, nI N, nI sr] [fs, fwas, fbegun, faside, ftext, fL, gL, fN, ffar, fthen, fqueue, frankAt, fturnAt])) (n2 := n) (st2 := [.int (nI (rk (sid kd) N o sd))]) rfl rfl rfl rfl ?_
  refine r_istore_n (lv2 := [(2, .int (nI (rk (sid kd) N o sd))), (0, .ref m0), (1, .int (nI k))]) C dX7_leastWork_16 rfl (by decide) rfl ?_
  refine r_iconst (v := nI 0) C dX7_leastWork_17 (by decide) ?_
  refine r_istore_n (lv2 := [(3, .int (nI 0)), (2, .int (nI (rk (sid kd) N o sd))), (0, .ref m0), (1, .int (nI k))]) C dX7_leastWork_18 rfl (by decide) rfl ?_
  have L19 : ∀ (fu : Nat) (i : Nat) (f1 : Nat → Int32), (i ≤ rR (sid kd) N) → (∀ j, j < i → f1 j = nI ((fun r => if r = 0 then 0 else 1000000) j)) → (rR (sid kd) N + 1 - i) < fu → V p l e rm_X7_leastWork_y s m args below meth c G 7 (MQ below (gQ G po) args s rm_X7_leastWork_y.cells rm_X7_leastWork_y.slots (gF G)) 0 0 n (mW G σ m0 [xstates, xtyped, xat, xreason, xdone, nI kd, nI N, nI sr] [fs, fwas, fbegun, faside, ftext, fL, gL, fN, f1, fthen, fqueue, frankAt, fturnAt]) 19 [(0, .ref m0), (1, .int (nI k)), (2, .int (nI (rk (sid kd) N o sd))), (3, .int (nI i))] [] := by
    intro fu
    induction fu with
    | zero => intro i f1 hi hf1 hm; exact absurd hm (Nat.not_lt_zero _)
    | succ fu ih19 =>
      intro i f1 hi hf1 hm19
      refine r_iload_n C dX7_leastWork_19 rfl 3 rfl ?_
      refine r_aload_n C dX7_leastWork_20 rfl 0 rfl ?_
      refine r_callV (As := []) C (c_X7_all (kd := kd) (N := N) (hv.1.N) (hv.1.1)) wM_X7_136 wI_X7_all wN_X7 wC_X7_all wV_X7_all hd_X7_all ⟨Nat.le_of_ble_eq_true rfl, Nat.le_of_ble_eq_true rfl⟩ rfl (mW_o _ _ _ _ _) rfl rfl (Nat.le_of_ble_eq_true rfl) dX7_leastWork_21 ⟨Nat.le_of_ble_eq_true rfl, Nat.le_of_ble_eq_true rfl⟩ (fun rv n2 σ2 hp => ?_)
      obtain ⟨rfl, rfl, rfl⟩ := hp
      refine V.eq (σ2 := (mW G σ m0 [xstates, xtyped, xat, xreason, xdone, nI kd, nI N, nI sr] [fs, fwas, fbegun, faside, ftext, fL, gL, fN, f1, fthen, fqueue, frankAt, fturnAt])) (n2 := n) (st2 := [.int (nI (fac N * sm (sid kd) N)), .int (nI i)]) rfl rfl rfl rfl ?_
      refine V.top (y := nI (rR (sid kd) N)) (rfl) ?_
      refine r_icmp_geN (tgt := 49) C dX7_leastWork_24 (by decide) (by omega) (by omega) (fun cz24 => ?_) (fun cz24 => ?_)
      · refine r_iconst (v := nI 1) C dX7_leastWork_49 (by decide) ?_
        refine r_istore_n (lv2 := [(3, .int (nI 1)), (0, .ref m0), (1, .int (nI k)), (2, .int (nI (rk (sid kd) N o sd)))]) C dX7_leastWork_50 rfl (by decide) rfl ?_
        have L51 : ∀ (fu : Nat) (b : Bool) (d : Nat → Nat) (fa : Nat → Int32), (LI kd sr N d) → (∀ j, j < rR (sid kd) N → fa j = nI (d j)) → (b = false → ∀ z, z < 6 * rR (sid kd) N → okE kd sr N d z) → (2 * sumD d (rR (sid kd) N) + b.toNat) < fu → V p l e rm_X7_leastWork_y s m args below meth c G 7 (MQ below (gQ G po) args s rm_X7_leastWork_y.cells rm_X7_leastWork_y.slots (gF G)) 0 0 n (mW G σ m0 [xstates, xtyped, xat, xreason, xdone, nI kd, nI N, nI sr] [fs, fwas, fbegun, faside, ftext, fL, gL, fN, fa, fthen, fqueue, frankAt, fturnAt]) 51 [(0, .ref m0), (1, .int (nI k)), (2, .int (nI (rk (sid kd) N o sd))), (3, .int (bI b))] [] := by
          intro fu
          induction fu with
          | zero => intro b d fa hLI hfa hfx hm; exact absurd hm (Nat.not_lt_zero _)
          | succ fu ih51 =>
            intro b d fa hLI hfa hfx hm51
            refine r_iload_n C dX7_leastWork_51 rfl 3 rfl ?_
            refine r_if_eqB (tgt := 162) C dX7_leastWork_52 (by decide) (fun cz52 => ?_) (fun cz52 => ?_)
            · have hdone := (hLI.done hv.1 (hfx cz52)).uniq hdw hol
              refine r_aload_n C dX7_leastWork_162 rfl 0 rfl ?_
              refine rm_get (v := .ref (m0 + 9)) C 16 (by decide) wF_X7_35 rfl dX7_leastWork_163 ?_
              have hx3 := hLI.2.1 _ hol
              refine r_iload_n C dX7_leastWork_166 rfl 2 rfl ?_
              refine rm_ald (f := fa) (len := 3840) C 8 rfl rfl (by decide) (by omega) dX7_leastWork_167 ?_
              refine V.top (y := nI (d (rk (sid kd) N o sd))) (hfa (rk (sid kd) N o sd) hol) ?_
              refine r_ldc C wQ_X7_142 dX7_leastWork_168 ?_
              refine V.top (y := nI 1000000) (by decide) ?_
              refine r_icmp_geN (tgt := 182) C dX7_leastWork_170 (by decide) (by omega) (by decide) (fun cz170 => ?_) (fun cz170 => ?_)
              · refine r_ldc C wQ_X7_149 dX7_leastWork_182 ?_
                exact r_iret C hr hlocks (Nat.le_of_ble_eq_true rfl) (Nat.le_of_ble_eq_true rfl) dX7_leastWork_184 (hpo _ _ _ ⟨by first | (rw [← hdone, lwA, if_pos cz170]; done) | (rw [← hdone, lwA, if_neg (Nat.not_lt.mpr cz170)]), rfl, fN, fa, fL, gL, rfl⟩)
              · refine r_aload_n C dX7_leastWork_173 rfl 0 rfl ?_
                refine rm_get (v := .ref (m0 + 9)) C 16 (by decide) wF_X7_35 rfl dX7_leastWork_174 ?_
                refine r_iload_n C dX7_leastWork_177 rfl 2 rfl ?_
                refine rm_ald (f := fa) (len := 3840) C 8 rfl rfl (by decide) (by omega) dX7_leastWork_178 ?_
                refine V.top (y := nI (d (rk (sid kd) N o sd))) (hfa (rk (sid kd) N o sd) hol) ?_
                refine r_goto (tgt := 184) C dX7_leastWork_179 (by decide) ?_
                exact r_iret C hr hlocks (Nat.le_of_ble_eq_true rfl) (Nat.le_of_ble_eq_true rfl) dX7_leastWork_184 (hpo _ _ _ ⟨by first | (rw [← hdone, lwA, if_pos cz170]; done) | (rw [← hdone, lwA, if_neg (Nat.not_lt.mpr cz170)]), rfl, fN, fa, fL, gL, rfl⟩)
            · refine r_iconst (v := nI 0) C dX7_leastWork_55 (by decide) ?_
              refine r_istore_n (lv2 := [(3, .int (nI 0)), (0, .ref m0), (1, .int (nI k)), (2, .int (nI (rk (sid kd) N o sd)))]) C dX7_leastWork_56 rfl (by decide) rfl ?_
              refine r_iconst (v := nI 0) C dX7_leastWork_57 (by decide) ?_
              refine r_istore (lv2 := [(4, .int (nI 0)), (3, .int (nI 0)), (0, .ref m0), (1, .int (nI k)), (2, .int (nI (rk (sid kd) N o sd)))]) C dX7_leastWork_58 (by decide) rfl ?_
              have L60 : ∀ (fu : Nat) (b2 : Bool) (kk : Nat) (d2 : Nat → Nat) (fa2 : Nat → Int32), (kk ≤ 6 * rR (sid kd) N) → (LI kd sr N d2) → (∀ j, j < rR (sid kd) N → fa2 j = nI (d2 j)) → ((b2 = false ∧ sumD d2 (rR (sid kd) N) = sumD d (rR (sid kd) N) ∧ ∀ z, z < kk → okE kd sr N d2 z) ∨ (b2 = true ∧ sumD d2 (rR (sid kd) N) < sumD d (rR (sid kd) N))) → (6 * rR (sid kd) N + 1 - kk) < fu → V p l e rm_X7_leastWork_y s m args below meth c G 7 (MQ below (gQ G po) args s rm_X7_leastWork_y.cells rm_X7_leastWork_y.slots (gF G)) 0 0 n (mW G σ m0 [xstates, xtyped, xat, xreason, xdone, nI kd, nI N, nI sr] [fs, fwas, fbegun, faside, ftext, fL, gL, fN, fa2, fthen, fqueue, frankAt, fturnAt]) 60 [(0, .ref m0), (1, .int (nI k)), (2, .int (nI (rk (sid kd) N o sd))), (3, .int (bI b2)), (4, .int (nI kk))] [] := by
                intro fu
                induction fu with
                | zero => intro b2 kk d2 fa2 hk6 hLI2 hfa2 hb2 hm; exact absurd hm (Nat.not_lt_zero _)
                | succ fu ih60 =>
                  intro b2 kk d2 fa2 hk6 hLI2 hfa2 hb2 hm60
                  refine r_iload C dX7_leastWork_60 4 rfl ?_
                  refine r_bipush (v := nI 6) C dX7_leastWork_62 (by decide) ?_
                  refine r_aload_n C dX7_leastWork_64 rfl 0 rfl ?_
                  refine r_callV (As := []) C (c_X7_all (kd := kd) (N := N) (hv.1.N) (hv.1.1)) wM_X7_136 wI_X7_all wN_X7 wC_X7_all wV_X7_all hd_X7_all ⟨Nat.le_of_ble_eq_true rfl, Nat.le_of_ble_eq_true rfl⟩ rfl (mW_o _ _ _ _ _) rfl rfl (Nat.le_of_ble_eq_true rfl) dX7_leastWork_65 ⟨Nat.le_of_ble_eq_true rfl, Nat.le_of_ble_eq_true rfl⟩ (fun rv n2 σ2 hp => ?_)
                  obtain ⟨rfl, rfl, rfl⟩ := hp
                  refine V.eq (σ2 := (mW G σ m0 [xstates, xtyped, xat, xreason, xdone, nI kd, nI N, nI sr] [fs, fwas, fbegun, faside, ftext, fL, gL, fN, fa2, fthen, fqueue, frankAt, fturnAt])) (n2 := n) (st2 := [.int (nI (fac N * sm (sid kd) N)), .int (nI 6), .int (nI kk)]) rfl rfl rfl rfl ?_
                  refine V.top (y := nI (rR (sid kd) N)) (rfl) ?_
                  refine r_imulN C dX7_leastWork_68 ?_
                  refine r_icmp_geN (tgt := 159) C dX7_leastWork_69 (by decide) (by omega) (by omega) (fun cz69 => ?_) (fun cz69 => ?_)
                  · refine r_goto (tgt := 51) C dX7_leastWork_159 (by decide) ?_
                    refine V.sub (lv2 := [(0, .ref m0), (1, .int (nI k)), (2, .int (nI (rk (sid kd) N o sd))), (3, .int (bI b2))]) [0, 1, 2, 3] rfl ?_
                    exact ih51 b2 d2 fa2 (hLI2) (hfa2) (fun z => (lw_all hb2 z (by omega))) (lw_meas hb2 cz52 hm51)
                  · refine r_iload C dX7_leastWork_72 4 rfl ?_
                    refine r_bipush (v := nI 6) C dX7_leastWork_74 (by decide) ?_
                    refine r_iremN C dX7_leastWork_76 (by omega) (by decide) (by decide) ?_
                    refine r_iconst (v := nI 1) C dX7_leastWork_77 (by decide) ?_
                    refine r_iaddN C dX7_leastWork_78 ?_
                    refine r_istore (lv2 := [(5, .int (nI ((kk % 6) + 1))), (0, .ref m0), (1, .int (nI k)), (2, .int (nI (rk (sid kd) N o sd))), (3, .int (bI b2)), (4, .int (nI kk))]) C dX7_leastWork_79 (by decide) rfl ?_
                    refine r_iload C dX7_leastWork_81 0 rfl ?_
                    refine r_aload_n C dX7_leastWork_83 rfl 1 rfl ?_
                    refine rm_get (v := .int (nI N)) C 11 (by decide) wF_X7_59 rfl dX7_leastWork_84 ?_
                    have L101 : ∀ (to9 : Int32), ((kk % 6 + 1 ≤ N ∧ to9 = nxV kd sr N (kk / 6) (kk % 6 + 1)) ∨ (¬ kk % 6 + 1 ≤ N ∧ to9 = -1)) → V p l e rm_X7_leastWork_y s m args below meth c G 7 (MQ below (gQ G po) args s rm_X7_leastWork_y.cells rm_X7_leastWork_y.slots (gF G)) 0 0 n (mW G σ m0 [xstates, xtyped, xat, xreason, xdone, nI kd, nI N, nI sr] [fs, fwas, fbegun, faside, ftext, fL, gL, fN, fa2, fthen, fqueue, frankAt, fturnAt]) 101 [(0, .ref m0), (1, .int (nI k)), (2, .int (nI (rk (sid kd) N o sd))), (3, .int (bI b2)), (4, .int (nI kk)), (5, .int (nI ((kk % 6) + 1)))] [.int to9] := by
                      intro to9 hto
                      refine r_istore (lv2 := [(6, .int to9), (0, .ref m0), (1, .int (nI k)), (2, .int (nI (rk (sid kd) N o sd))), (3, .int (bI b2)), (4, .int (nI kk)), (5, .int (nI ((kk % 6) + 1)))]) C dX7_leastWork_101 (by decide) rfl ?_
                      refine r_iload C dX7_leastWork_103 0 rfl ?_
                      refine r_if_lt (tgt := 153) C dX7_leastWork_105 (by decide) (fun cz105 => ?_) (fun cz105 => ?_)
                      · have hsk : okE kd sr N d2 kk := okE_neg hv.1 (by omega) hto cz105
                        refine r_iinc (v := nI (kk + 1)) (lv2 := [(4, .int (nI (kk + 1))), (6, .int to9), (0, .ref m0), (1, .int (nI k)), (2, .int (nI (rk (sid kd) N o sd))), (3, .int (bI b2)), (5, .int (nI ((kk % 6) + 1)))]) C dX7_leastWork_153 (k := 5) rfl (nI_add _ 1) (by decide) rfl ?_
                        refine r_goto (tgt := 60) C dX7_leastWork_156 (by decide) ?_
                        refine V.sub (lv2 := [(0, .ref m0), (1, .int (nI k)), (2, .int (nI (rk (sid kd) N o sd))), (3, .int (bI b2)), (4, .int (nI (kk + 1)))]) [2, 3, 4, 5, 0] rfl ?_
                        exact ih60 b2 (kk + 1) d2 fa2 (by omega) (by first | exact hLI2 | exact hLI2.low hN6 hkR (by omega) hm9 ha9 cz128) (by first | exact hfa2 | exact upd_va hfa2) (by first | exact lw_skip hb2 hsk | exact lw_low hb2 hkR cz128) (by omega)
                      · obtain ⟨hm9, hte⟩ := hto.resolve_right (fun z => cz105 (by rw [z.2]; decide))
                        have ha9 := nxV_nn (Int32.not_lt.mp (by rw [← hte]; exact cz105))
                        refine V.eq (lv2 := [(6, .int (nI (nx (sid kd) N (kk / 6) (kk % 6 + 1)))), (0, .ref m0), (1, .int (nI k)), (2, .int (nI (rk (sid kd) N o sd))), (3, .int (bI b2)), (4, .int (nI kk)), (5, .int (nI ((kk % 6) + 1)))]) rfl rfl (by rw [(show to9 = nI (nx (sid kd) N (kk / 6) (kk % 6 + 1)) from by rw [hte, nxV, if_pos ha9])]) rfl ?_
                        have hkR : kk / 6 < rR (sid kd) N := by omega
                        have hxl := nx_lt hN6 hkR hm9
                        have hx1 := hLI2.2.1 _ hxl
                        have hx2 := hLI2.2.1 _ hkR
                        refine r_aload_n C dX7_leastWork_108 rfl 1 rfl ?_
                        refine rm_get (v := .ref (m0 + 9)) C 16 (by decide) wF_X7_35 rfl dX7_leastWork_109 ?_
                        refine r_iload C dX7_leastWork_112 0 rfl ?_
                        refine rm_ald (f := fa2) (len := 3840) C 8 rfl rfl (by decide) (by omega) dX7_leastWork_114 ?_
                        refine V.top (y := nI (d2 (nx (sid kd) N (kk / 6) (kk % 6 + 1)))) (hfa2 (nx (sid kd) N (kk / 6) (kk % 6 + 1)) (by first | assumption | omega)) ?_
                        refine r_iload C dX7_leastWork_115 6 rfl ?_
                        refine r_iaddN C dX7_leastWork_117 ?_
                        refine r_aload_n C dX7_leastWork_118 rfl 1 rfl ?_
                        refine rm_get (v := .ref (m0 + 9)) C 16 (by decide) wF_X7_35 rfl dX7_leastWork_119 ?_
                        refine r_iload C dX7_leastWork_122 5 rfl ?_
                        refine r_bipush (v := nI 6) C dX7_leastWork_124 (by decide) ?_
                        refine r_idivN C dX7_leastWork_126 (by omega) (by decide) (by decide) ?_
                        refine rm_ald (f := fa2) (len := 3840) C 8 rfl rfl (by decide) (by omega) dX7_leastWork_127 ?_
                        refine V.top (y := nI (d2 (kk / 6))) (hfa2 (kk / 6) (by first | assumption | omega)) ?_
                        refine r_icmp_geN (tgt := 153) C dX7_leastWork_128 (by decide) (by omega) (by omega) (fun cz128 => ?_) (fun cz128 => ?_)
                        · have hsk : okE kd sr N d2 kk := fun _ _ => cz128
                          refine r_iinc (v := nI (kk + 1)) (lv2 := [(4, .int (nI (kk + 1))), (6, .int (nI (nx (sid kd) N (kk / 6) (kk % 6 + 1)))), (0, .ref m0), (1, .int (nI k)), (2, .int (nI (rk (sid kd) N o sd))), (3, .int (bI b2)), (5, .int (nI ((kk % 6) + 1)))]) C dX7_leastWork_153 (k := 5) rfl (nI_add _ 1) (by decide) rfl ?_
                          refine r_goto (tgt := 60) C dX7_leastWork_156 (by decide) ?_
                          refine V.sub (lv2 := [(0, .ref m0), (1, .int (nI k)), (2, .int (nI (rk (sid kd) N o sd))), (3, .int (bI b2)), (4, .int (nI (kk + 1)))]) [2, 3, 4, 5, 0] rfl ?_
                          exact ih60 b2 (kk + 1) d2 fa2 (by omega) (by first | exact hLI2 | exact hLI2.low hN6 hkR (by omega) hm9 ha9 cz128) (by first | exact hfa2 | exact upd_va hfa2) (by first | exact lw_skip hb2 hsk | exact lw_low hb2 hkR cz128) (by omega)
                        · refine r_aload_n C dX7_leastWork_131 rfl 1 rfl ?_
                          refine rm_get (v := .ref (m0 + 9)) C 16 (by decide) wF_X7_35 rfl dX7_leastWork_132 ?_
                          refine r_iload C dX7_leastWork_135 5 rfl ?_
                          refine r_bipush (v := nI 6) C dX7_leastWork_137 (by decide) ?_
                          refine r_idivN C dX7_leastWork_139 (by omega) (by decide) (by decide) ?_
                          refine r_aload_n C dX7_leastWork_140 rfl 1 rfl ?_
                          refine rm_get (v := .ref (m0 + 9)) C 16 (by decide) wF_X7_35 rfl dX7_leastWork_141 ?_
                          refine r_iload C dX7_leastWork_144 0 rfl ?_
                          refine rm_ald (f := fa2) (len := 3840) C 8 rfl rfl (by decide) (by omega) dX7_leastWork_146 ?_
                          refine V.top (y := nI (d2 (nx (sid kd) N (kk / 6) (kk % 6 + 1)))) (hfa2 (nx (sid kd) N (kk / 6) (kk % 6 + 1)) (by first | assumption | omega)) ?_
                          refine r_iload C dX7_leastWork_147 6 rfl ?_
                          refine r_iaddN C dX7_leastWork_149 ?_
                          refine rm_ast (f := fa2) (len := 3840) (A2 := [fs, fwas, fbegun, faside, ftext, fL, gL, fN, (upd fa2 (kk / 6) (nI ((d2 (nx (sid kd) N (kk / 6) (kk % 6 + 1))) + ((kk % 6) + 1)))), fthen, fqueue, frankAt, fturnAt]) C 8 rfl rfl (by decide) (by omega) rfl rfl dX7_leastWork_150 ?_
                          refine r_iconst (v := nI 1) C dX7_leastWork_151 (by decide) ?_
                          refine r_istore_n (lv2 := [(3, .int (nI 1)), (6, .int (nI (nx (sid kd) N (kk / 6) (kk % 6 + 1)))), (0, .ref m0), (1, .int (nI k)), (2, .int (nI (rk (sid kd) N o sd))), (4, .int (nI kk)), (5, .int (nI ((kk % 6) + 1)))]) C dX7_leastWork_152 rfl (by decide) rfl ?_
                          refine r_iinc (v := nI (kk + 1)) (lv2 := [(4, .int (nI (kk + 1))), (3, .int (nI 1)), (6, .int (nI (nx (sid kd) N (kk / 6) (kk % 6 + 1)))), (0, .ref m0), (1, .int (nI k)), (2, .int (nI (rk (sid kd) N o sd))), (5, .int (nI ((kk % 6) + 1)))]) C dX7_leastWork_153 (k := 5) rfl (nI_add _ 1) (by decide) rfl ?_
                          refine r_goto (tgt := 60) C dX7_leastWork_156 (by decide) ?_
                          refine V.sub (lv2 := [(0, .ref m0), (1, .int (nI k)), (2, .int (nI (rk (sid kd) N o sd))), (3, .int (nI 1)), (4, .int (nI (kk + 1)))]) [3, 4, 5, 1, 0] rfl ?_
                          refine V.eq (σ2 := (mW G σ m0 [xstates, xtyped, xat, xreason, xdone, nI kd, nI N, nI sr] [fs, fwas, fbegun, faside, ftext, fL, gL, fN, (upd fa2 (kk / 6) (nI ((d2 (nx (sid kd) N (kk / 6) (kk % 6 + 1))) + ((kk % 6) + 1)))), fthen, fqueue, frankAt, fturnAt])) (lv2 := [(0, .ref m0), (1, .int (nI k)), (2, .int (nI (rk (sid kd) N o sd))), (3, .int (bI true)), (4, .int (nI (kk + 1)))]) (st2 := []) rfl rfl (by rw [(show nI 1 = bI true from rfl)]) rfl ?_
                          exact ih60 true (kk + 1) (va_up d2 (kk / 6) (d2 (nx (sid kd) N (kk / 6) (kk % 6 + 1)) + (kk % 6 + 1))) (upd fa2 (kk / 6) (nI ((d2 (nx (sid kd) N (kk / 6) (kk % 6 + 1))) + ((kk % 6) + 1)))) (by omega) (by first | exact hLI2 | exact hLI2.low hN6 hkR (by omega) hm9 ha9 cz128) (by first | exact hfa2 | exact upd_va hfa2) (by first | exact lw_skip hb2 hsk | exact lw_low hb2 hkR cz128) (by omega)
                    refine r_icmp_gtN (tgt := 100) C dX7_leastWork_87 (by decide) (by omega) (by omega) (fun cz87 => ?_) (fun cz87 => ?_)
                    · refine r_iconst (v := (-1)) C dX7_leastWork_100 (by decide) ?_
                      refine V.sub (lv2 := [(0, .ref m0), (1, .int (nI k)), (2, .int (nI (rk (sid kd) N o sd))), (3, .int (bI b2)), (4, .int (nI kk)), (5, .int (nI ((kk % 6) + 1)))]) [1, 2, 3, 4, 5, 0] rfl ?_
                      exact L101 (-1) (by first | exact Or.inl ⟨cz87, rfl⟩ | exact Or.inr ⟨Nat.not_le.mpr cz87, rfl⟩)
                    · refine r_aload_n C dX7_leastWork_90 rfl 1 rfl ?_
                      refine rm_get (v := .ref (m0 + 8)) C 15 (by decide) wF_X7_32 rfl dX7_leastWork_91 ?_
                      refine r_iload C dX7_leastWork_94 5 rfl ?_
                      refine rm_ald (f := fN) (len := 23040) C 7 rfl rfl (by decide) (by omega) dX7_leastWork_96 ?_
                      refine V.top (y := nxV kd sr N (kk / 6) (kk % 6 + 1)) (by have hz9 := hnx (kk / 6) (by omega) (kk % 6) (by omega); rw [show 6 * (kk / 6) + kk % 6 = kk by omega] at hz9; exact hz9) ?_
                      refine r_goto (tgt := 101) C dX7_leastWork_97 (by decide) ?_
                      refine V.sub (lv2 := [(0, .ref m0), (1, .int (nI k)), (2, .int (nI (rk (sid kd) N o sd))), (3, .int (bI b2)), (4, .int (nI kk)), (5, .int (nI ((kk % 6) + 1)))]) [1, 2, 3, 4, 5, 0] rfl ?_
                      exact L101 (nxV kd sr N (kk / 6) (kk % 6 + 1)) (by first | exact Or.inl ⟨cz87, rfl⟩ | exact Or.inr ⟨Nat.not_le.mpr cz87, rfl⟩)
              refine V.sub (lv2 := [(0, .ref m0), (1, .int (nI k)), (2, .int (nI (rk (sid kd) N o sd))), (3, .int (nI 0)), (4, .int (nI 0))]) [2, 3, 4, 1, 0] rfl ?_
              refine V.eq (σ2 := (mW G σ m0 [xstates, xtyped, xat, xreason, xdone, nI kd, nI N, nI sr] [fs, fwas, fbegun, faside, ftext, fL, gL, fN, fa, fthen, fqueue, frankAt, fturnAt])) (lv2 := [(0, .ref m0), (1, .int (nI k)), (2, .int (nI (rk (sid kd) N o sd))), (3, .int (bI false)), (4, .int (nI 0))]) (st2 := []) rfl rfl (by rw [(show nI 0 = bI false from rfl)]) rfl ?_
              exact L60 _ false 0 d fa (by omega) (hLI) (hfa) (Or.inl ⟨rfl, rfl, fun z hz => absurd hz (Nat.not_lt_zero z)⟩) (Nat.lt_succ_self _)
        refine V.sub (lv2 := [(0, .ref m0), (1, .int (nI k)), (2, .int (nI (rk (sid kd) N o sd))), (3, .int (nI 1))]) [1, 2, 3, 0] rfl ?_
        refine V.eq (σ2 := (mW G σ m0 [xstates, xtyped, xat, xreason, xdone, nI kd, nI N, nI sr] [fs, fwas, fbegun, faside, ftext, fL, gL, fN, f1, fthen, fqueue, frankAt, fturnAt])) (lv2 := [(0, .ref m0), (1, .int (nI k)), (2, .int (nI (rk (sid kd) N o sd))), (3, .int (bI true))]) (st2 := []) rfl rfl (by rw [(show nI 1 = bI true from rfl)]) rfl ?_
        exact L51 _ true (fun r => if r = 0 then 0 else 1000000) f1 (LI.init) (fun j hj => hf1 j (by omega)) (fun z => absurd z (by decide)) (Nat.lt_succ_self _)
      · refine r_aload_n C dX7_leastWork_27 rfl 0 rfl ?_
        refine rm_get (v := .ref (m0 + 9)) C 16 (by decide) wF_X7_35 rfl dX7_leastWork_28 ?_
        refine r_iload_n C dX7_leastWork_31 rfl 3 rfl ?_
        refine r_iload_n C dX7_leastWork_32 rfl 3 rfl ?_
        refine r_if_neN (tgt := 40) C dX7_leastWork_33 (by decide) (by omega) (fun cz33 => ?_) (fun cz33 => ?_)
        · refine r_ldc C wQ_X7_142 dX7_leastWork_40 ?_
          refine V.top (y := nI 1000000) (by decide) ?_
          refine rm_ast (f := f1) (len := 3840) (A2 := [fs, fwas, fbegun, faside, ftext, fL, gL, fN, (upd f1 i (nI 1000000)), fthen, fqueue, frankAt, fturnAt]) C 8 rfl rfl (by decide) (by omega) rfl rfl dX7_leastWork_42 ?_
          refine r_iinc (v := nI (i + 1)) (lv2 := [(3, .int (nI (i + 1))), (0, .ref m0), (1, .int (nI k)), (2, .int (nI (rk (sid kd) N o sd)))]) C dX7_leastWork_43 (k := 3) rfl (nI_add _ 1) (by decide) rfl ?_
          refine r_goto (tgt := 19) C dX7_leastWork_46 (by decide) ?_
          refine V.sub (lv2 := [(0, .ref m0), (1, .int (nI k)), (2, .int (nI (rk (sid kd) N o sd))), (3, .int (nI (i + 1)))]) [1, 2, 3, 0] rfl ?_
          exact ih19 (i + 1) (upd f1 i (nI 1000000)) (by omega) (fun j hj => upd_step (g := fun j => nI ((fun r => if r = 0 then 0 else 1000000) j)) hj hf1 (by simp [cz33])) (by omega)
        · refine r_iconst (v := nI 0) C dX7_leastWork_36 (by decide) ?_
          refine r_goto (tgt := 42) C dX7_leastWork_37 (by decide) ?_
          refine rm_ast (f := f1) (len := 3840) (A2 := [fs, fwas, fbegun, faside, ftext, fL, gL, fN, (upd f1 i (nI 0)), fthen, fqueue, frankAt, fturnAt]) C 8 rfl rfl (by decide) (by omega) rfl rfl dX7_leastWork_42 ?_
          refine r_iinc (v := nI (i + 1)) (lv2 := [(3, .int (nI (i + 1))), (0, .ref m0), (1, .int (nI k)), (2, .int (nI (rk (sid kd) N o sd)))]) C dX7_leastWork_43 (k := 3) rfl (nI_add _ 1) (by decide) rfl ?_
          refine r_goto (tgt := 19) C dX7_leastWork_46 (by decide) ?_
          refine V.sub (lv2 := [(0, .ref m0), (1, .int (nI k)), (2, .int (nI (rk (sid kd) N o sd))), (3, .int (nI (i + 1)))]) [1, 2, 3, 0] rfl ?_
          exact ih19 (i + 1) (upd f1 i (nI 0)) (by omega) (fun j hj => upd_step (g := fun j => nI ((fun r => if r = 0 then 0 else 1000000) j)) hj hf1 (by simp [cz33])) (by omega)
  refine V.sub (lv2 := [(0, .ref m0), (1, .int (nI k)), (2, .int (nI (rk (sid kd) N o sd))), (3, .int (nI 0))]) [2, 3, 1, 0] rfl ?_
  exact L19 _ 0 ffar (by omega) (fun j hj => absurd hj (Nat.not_lt_zero j)) (Nat.lt_succ_self _)
