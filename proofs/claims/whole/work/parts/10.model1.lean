theorem swp_step {f : Nat → Int32} {k i N o j : Nat} (h1 : i < (k + 1) / 2) (h2 : k ≤ N) (hj : j < N) (hf : ∀ j, j < N → f j = nI (if j < i ∨ (k - i ≤ j ∧ j < k) then sz N o (k - 1 - j) else sz N o j)) :
    upd (upd f i (nI (sz N o (k - 1 - i)))) (k - 1 - i) (nI (sz N o i)) j = nI (if j < i + 1 ∨ (k - (i + 1) ≤ j ∧ j < k) then sz N o (k - 1 - j) else sz N o j) := by
  by_cases g1 : j = k - 1 - i
  · subst g1
    rw [pk_us, if_pos (by omega)]
    congr 2
    omega
  · rw [pk_un g1]
    by_cases g2 : j = i
    · subst g2
      rw [pk_us, if_pos (by omega)]
    · rw [pk_un g2, hf j hj]
      congr 1
      by_cases g3 : j < i ∨ (k - i ≤ j ∧ j < k)
      · rw [if_pos g3, if_pos (by omega)]
      · rw [if_neg g3, if_neg (by omega)]
theorem swp_stepX {f : Nat → Int32} {k i N sd fl j : Nat} (h1 : i < (k + 1) / 2) (h2 : k ≤ N) (hj : j < N) (hf : ∀ j, j < N → f j = nI (if j < i ∨ (k - i ≤ j ∧ j < k) then bt sd (k - 1 - j) ^^^ fl else bt sd j)) :
    upd (upd f i (nI (bt sd (k - 1 - i) ^^^ fl))) (k - 1 - i) (nI (bt sd i ^^^ fl)) j = nI (if j < i + 1 ∨ (k - (i + 1) ≤ j ∧ j < k) then bt sd (k - 1 - j) ^^^ fl else bt sd j) := by
  by_cases g1 : j = k - 1 - i
  · subst g1
    rw [pk_us, if_pos (by omega)]
    rw [show k - 1 - (k - 1 - i) = i by omega]
  · rw [pk_un g1]
    by_cases g2 : j = i
    · subst g2
      rw [pk_us, if_pos (by omega)]
    · rw [pk_un g2, hf j hj]
      congr 1
      by_cases g3 : j < i ∨ (k - i ≤ j ∧ j < k)
      · rw [if_pos g3, if_pos (by omega)]
      · rw [if_neg g3, if_neg (by omega)]
theorem rk_side {kd N o sd : Nat} (h : sid kd = true) (hs : sd < sm (sid kd) N) : rk (sid kd) N o sd &&& (1 * 2 ^ N - 1) = sd := by
  have h2 := sm_two hs
  rw [Nat.one_mul, Nat.and_two_pow_sub_one_eq_mod]
  simp only [rk, h, if_true]
  rw [Nat.mul_comm, Nat.mul_add_mod, Nat.mod_eq_of_lt h2]
theorem sm_zero {kd N sd : Nat} (h : sid kd = false) (hs : sd < sm (sid kd) N) : sd = 0 := by
  simp [sm, h] at hs
  exact hs
theorem rk_ord {kd N o sd : Nat} (h : sid kd = true) (hs : sd < sm (sid kd) N) : rk (sid kd) N o sd / 2 ^ N = o := by
  have h2 := sm_two hs
  simp only [rk, h, if_true]
  rw [Nat.mul_comm, Nat.mul_add_div (by omega), Nat.div_eq_of_lt h2, Nat.add_zero]
theorem rk_lt {kd N o sd : Nat} (hN : N ≤ 6) (ho : o < fac N) (hs : sd < sm (sid kd) N) : rk (sid kd) N o sd < 50000 := by
  have h1 := sm_two hs
  have h2 := two_le hN
  have h3 := (fac_le hN).1
  unfold rk
  split
  · have : o * 2 ^ N ≤ 720 * 64 := Nat.mul_le_mul (by omega) h2
    omega
  · omega

abbrev rm_X7_in : Room := { frames := 0, cells := 0, slots := 0, locals := 0 }
set_option maxRecDepth 100000 in
set_option maxHeartbeats 4000000 in
theorem c_X7_in {l : Launch} {G : gG} {n : Nat} {σ : gS}  {v low high : Int32}  : GM l G yX7_in cX7_in 3 (some .boolean) rm_X7_in n σ [.int v, .int low, .int high] (fun rv n2 σ2 => some (.int (bI (decide (low ≤ v ∧ v ≤ high)))) = rv ∧ n = n2 ∧ σ = σ2) := by
  refine GM.intro (by decide +kernel) (Nat.le_of_ble_eq_true rfl) (fun p e s m args below meth c C hr hlocks hname po hpo => ?_)
  have C : Cx p s m args c cX7_in 3 RX7 G := C
  refine r_iload_n C dX7_in_0 rfl 0 rfl ?_
  refine r_iload_n C dX7_in_1 rfl 1 rfl ?_
  refine r_icmp_lt (tgt := 14) C dX7_in_2 (by decide) (fun c2 => ?_) (fun c2 => ?_)
  · have hr9 := in_1 (high := high) c2
    refine r_iconst (v := nI 0) C dX7_in_14 (by decide) ?_
    exact r_zret C (by decide) hr hlocks (Nat.le_of_ble_eq_true rfl) (Nat.le_of_ble_eq_true rfl) dX7_in_15 (hpo _ _ _ ⟨bI_f (by assumption), rfl, rfl⟩)
  · refine r_iload_n C dX7_in_5 rfl 0 rfl ?_
    refine r_iload_n C dX7_in_6 rfl 2 rfl ?_
    refine r_icmp_gt (tgt := 14) C dX7_in_7 (by decide) (fun c7 => ?_) (fun c7 => ?_)
    · have hr9 := in_2 (low := low) c7
      refine r_iconst (v := nI 0) C dX7_in_14 (by decide) ?_
      exact r_zret C (by decide) hr hlocks (Nat.le_of_ble_eq_true rfl) (Nat.le_of_ble_eq_true rfl) dX7_in_15 (hpo _ _ _ ⟨bI_f (by assumption), rfl, rfl⟩)
    · have hr9 := in_3 c2 c7
      refine r_iconst (v := nI 1) C dX7_in_10 (by decide) ?_
      refine r_goto (tgt := 15) C dX7_in_11 (by decide) ?_
      exact r_zret C (by decide) hr hlocks (Nat.le_of_ble_eq_true rfl) (Nat.le_of_ble_eq_true rfl) dX7_in_15 (hpo _ _ _ ⟨bI_t (by assumption), rfl, rfl⟩)

abbrev rm_X7_st : Room := { frames := 0, cells := 0, slots := 0, locals := 0 }
set_option maxRecDepth 100000 in
set_option maxHeartbeats 4000000 in
theorem c_X7_st {l : Launch} {G : gG} {n : Nat} {σ : gS} {m0 : Nat} {xstates xtyped xat xreason xdone xkind xn xstrength : Int32} {fs fwas fbegun faside ftext fsize fburnt fnext ffar fthen fqueue frankAt fturnAt : Nat → Int32} {k w : Nat} (hk : 8 + 6 * k + w < 38) : GM l G yX7_st cX7_st 3 (some .int) rm_X7_st n (mW G σ m0 [xstates, xtyped, xat, xreason, xdone, xkind, xn, xstrength] [fs, fwas, fbegun, faside, ftext, fsize, fburnt, fnext, ffar, fthen, fqueue, frankAt, fturnAt]) [.ref m0, .int (nI k), .int (nI w)] (fun rv n2 σ2 => some (.int (fs (8 + 6 * k + w))) = rv ∧ n = n2 ∧ (mW G σ m0 [xstates, xtyped, xat, xreason, xdone, xkind, xn, xstrength] [fs, fwas, fbegun, faside, ftext, fsize, fburnt, fnext, ffar, fthen, fqueue, frankAt, fturnAt]) = σ2) := by
  refine GM.intro (by decide +kernel) (Nat.le_of_ble_eq_true rfl) (fun p e s m args below meth c C hr hlocks hname po hpo => ?_)
  have C : Cx p s m args c cX7_st 3 RX7 G := C
  refine r_aload_n C dX7_st_0 rfl 0 rfl ?_
  refine rm_get (v := .ref (m0 + 1)) C 0 (by decide) wF_X7_7 rfl dX7_st_1 ?_
  refine r_bipush (v := nI 8) C dX7_st_4 (by decide) ?_
  refine r_bipush (v := nI 6) C dX7_st_6 (by decide) ?_
  refine r_iload_n C dX7_st_8 rfl 1 rfl ?_
  refine r_imulN C dX7_st_9 ?_
  refine r_iaddN C dX7_st_10 ?_
  refine r_iload_n C dX7_st_11 rfl 2 rfl ?_
  refine r_iaddN C dX7_st_12 ?_
  refine rm_ald (f := fs) (len := 38) C 0 rfl rfl (by decide) (by omega) dX7_st_13 ?_
  exact r_iret C hr hlocks (Nat.le_of_ble_eq_true rfl) (Nat.le_of_ble_eq_true rfl) dX7_st_14 (hpo _ _ _ ⟨rfl, rfl, rfl⟩)

abbrev rm_X7_hasSides : Room := { frames := 0, cells := 0, slots := 0, locals := 0 }
set_option maxRecDepth 100000 in
set_option maxHeartbeats 4000000 in
theorem c_X7_hasSides {l : Launch} {G : gG} {n : Nat} {σ : gS}  {kd : Nat} (hkd : kd < 4) : GM l G yX7_hasSides cX7_hasSides 1 (some .boolean) rm_X7_hasSides n σ [.int (nI kd)] (fun rv n2 σ2 => some (.int (bI (sid kd))) = rv ∧ n = n2 ∧ σ = σ2) := by
  refine GM.intro (by decide +kernel) (Nat.le_of_ble_eq_true rfl) (fun p e s m args below meth c C hr hlocks hname po hpo => ?_)
  have C : Cx p s m args c cX7_hasSides 1 RX7 G := C
  refine r_iload_n C dX7_hasSides_0 rfl 0 rfl ?_
  refine r_iconst (v := nI 1) C dX7_hasSides_1 (by decide) ?_
  refine r_icmp_eqN (tgt := 10) C dX7_hasSides_2 (by decide) (by omega) (by decide) (fun c2 => ?_) (fun c2 => ?_)
  · refine r_iconst (v := nI 1) C dX7_hasSides_10 (by decide) ?_
    refine r_goto (tgt := 15) C dX7_hasSides_11 (by decide) ?_
    exact r_zret C (by decide) hr hlocks (Nat.le_of_ble_eq_true rfl) (Nat.le_of_ble_eq_true rfl) dX7_hasSides_15 (hpo _ _ _ ⟨bI_t (by (rcases (show kd = 0 ∨ kd = 1 ∨ kd = 2 ∨ kd = 3 by omega) with rfl | rfl | rfl | rfl <;> first | rfl | omega)), rfl, rfl⟩)
  · refine r_iload_n C dX7_hasSides_5 rfl 0 rfl ?_
    refine r_iconst (v := nI 3) C dX7_hasSides_6 (by decide) ?_
    refine r_icmp_neN (tgt := 14) C dX7_hasSides_7 (by decide) (by omega) (by decide) (fun c7 => ?_) (fun c7 => ?_)
    · refine r_iconst (v := nI 0) C dX7_hasSides_14 (by decide) ?_
      exact r_zret C (by decide) hr hlocks (Nat.le_of_ble_eq_true rfl) (Nat.le_of_ble_eq_true rfl) dX7_hasSides_15 (hpo _ _ _ ⟨bI_f (by (rcases (show kd = 0 ∨ kd = 1 ∨ kd = 2 ∨ kd = 3 by omega) with rfl | rfl | rfl | rfl <;> first | rfl | omega)), rfl, rfl⟩)
    · refine r_iconst (v := nI 1) C dX7_hasSides_10 (by decide) ?_
      refine r_goto (tgt := 15) C dX7_hasSides_11 (by decide) ?_
      exact r_zret C (by decide) hr hlocks (Nat.le_of_ble_eq_true rfl) (Nat.le_of_ble_eq_true rfl) dX7_hasSides_15 (hpo _ _ _ ⟨bI_t (by (rcases (show kd = 0 ∨ kd = 1 ∨ kd = 2 ∨ kd = 3 by omega) with rfl | rfl | rfl | rfl <;> first | rfl | omega)), rfl, rfl⟩)

abbrev rm_X7_factorial : Room := { frames := 0, cells := 0, slots := 0, locals := 0 }
set_option maxRecDepth 100000 in
set_option maxHeartbeats 4000000 in
theorem c_X7_factorial {l : Launch} {G : gG} {n : Nat} {σ : gS}  {w : Nat} (hw : w ≤ 6) : GM l G yX7_factorial cX7_factorial 3 (some .int) rm_X7_factorial n σ [.int (nI w)] (fun rv n2 σ2 => some (.int (nI (fac w))) = rv ∧ n = n2 ∧ σ = σ2) := by
  refine GM.intro (by decide +kernel) (Nat.le_of_ble_eq_true rfl) (fun p e s m args below meth c C hr hlocks hname po hpo => ?_)
  have C : Cx p s m args c cX7_factorial 3 RX7 G := C
  refine r_iconst (v := nI 1) C dX7_factorial_0 (by decide) ?_
  refine r_istore_n (lv2 := [(1, .int (nI 1)), (0, .int (nI w))]) C dX7_factorial_1 rfl (by decide) rfl ?_
  refine r_iconst (v := nI 2) C dX7_factorial_2 (by decide) ?_
  refine r_istore_n (lv2 := [(2, .int (nI 2)), (1, .int (nI 1)), (0, .int (nI w))]) C dX7_factorial_3 rfl (by decide) rfl ?_
  have L4 : ∀ (fu : Nat) (k : Nat) (a : Nat), (2 ≤ k) → (k ≤ w + 1 ∨ k = 2) → (a = fac (k - 1)) → (w + 2 - k) < fu → V p l e rm_X7_factorial s m args below meth c G 3 (MQ below (gQ G po) args s rm_X7_factorial.cells rm_X7_factorial.slots (gF G)) 0 0 n σ 4 [(0, .int (nI w)), (1, .int (nI a)), (2, .int (nI k))] [] := by
    intro fu
    induction fu with
    | zero => intro k a hk hk2 ha hm; exact absurd hm (Nat.not_lt_zero _)
    | succ fu ih4 =>
      intro k a hk hk2 ha hm4
      refine r_iload_n C dX7_factorial_4 rfl 2 rfl ?_
      refine r_iload_n C dX7_factorial_5 rfl 0 rfl ?_
      refine r_icmp_gtN (tgt := 19) C dX7_factorial_6 (by decide) (by omega) (by omega) (fun c6 => ?_) (fun c6 => ?_)
      · refine r_iload_n C dX7_factorial_19 rfl 1 rfl ?_
        exact r_iret C hr hlocks (Nat.le_of_ble_eq_true rfl) (Nat.le_of_ble_eq_true rfl) dX7_factorial_20 (hpo _ _ _ ⟨by rcases (show k = w + 1 ∨ (k = 2 ∧ w = 0) by omega) with rfl | ⟨rfl, rfl⟩ <;> (rw [ha]; rfl), rfl, rfl⟩)
      · refine r_iload_n C dX7_factorial_9 rfl 1 rfl ?_
        refine r_iload_n C dX7_factorial_10 rfl 2 rfl ?_
        refine r_imulN C dX7_factorial_11 ?_
        refine r_istore_n (lv2 := [(1, .int (nI (a * k))), (0, .int (nI w)), (2, .int (nI k))]) C dX7_factorial_12 rfl (by decide) rfl ?_
        refine r_iinc (v := nI (k + 1)) (lv2 := [(2, .int (nI (k + 1))), (1, .int (nI (a * k))), (0, .int (nI w))]) C dX7_factorial_13 (k := 2) rfl (nI_add _ 1) (by decide) rfl ?_
        refine r_goto (tgt := 4) C dX7_factorial_16 (by decide) ?_
        refine V.sub (lv2 := [(0, .int (nI w)), (1, .int (nI (a * k))), (2, .int (nI (k + 1)))]) [2, 1, 0] rfl ?_
        exact ih4 (k + 1) (a * k) (by omega) (by omega) (by obtain ⟨j, rfl⟩ : ∃ j, k = j + 1 := ⟨k - 1, by omega⟩; rw [ha]; simp [fac, Nat.mul_comm]) (by omega)
  refine V.sub (lv2 := [(0, .int (nI w)), (1, .int (nI 1)), (2, .int (nI 2))]) [2, 1, 0] rfl ?_
  exact L4 _ 2 1 (by omega) (by omega) (rfl) (Nat.lt_succ_self _)

abbrev rm_X7_code : Room := { frames := 0, cells := 0, slots := 0, locals := 0 }
set_option maxRecDepth 100000 in
set_option maxHeartbeats 4000000 in
theorem c_X7_code {l : Launch} {G : gG} {n : Nat} {σ : gS} {m0 : Nat} {xstates xtyped xat xreason xdone xkind xstrength : Int32} {fs fwas fbegun faside ftext fsize fburnt fnext ffar fthen fqueue frankAt fturnAt : Nat → Int32} {N o : Nat} (hN : N ≤ 6) (hN1 : 1 ≤ N) (ho : o < fac N) (hz : ∀ j, j < N → fsize j = nI (sz N o j)) : GM l G yX7_code cX7_code 3 (some .int) rm_X7_code n (mW G σ m0 [xstates, xtyped, xat, xreason, xdone, xkind, nI N, xstrength] [fs, fwas, fbegun, faside, ftext, fsize, fburnt, fnext, ffar, fthen, fqueue, frankAt, fturnAt]) [.ref m0] (fun rv n2 σ2 => some (.int (nI (cd N o))) = rv ∧ n = n2 ∧ (mW G σ m0 [xstates, xtyped, xat, xreason, xdone, xkind, nI N, xstrength] [fs, fwas, fbegun, faside, ftext, fsize, fburnt, fnext, ffar, fthen, fqueue, frankAt, fturnAt]) = σ2) := by
  refine GM.intro (by decide +kernel) (Nat.le_of_ble_eq_true rfl) (fun p e s m args below meth c C hr hlocks hname po hpo => ?_)
  have C : Cx p s m args c cX7_code 3 RX7 G := C
  refine r_iconst (v := nI 0) C dX7_code_0 (by decide) ?_
  refine r_istore_n (lv2 := [(1, .int (nI 0)), (0, .ref m0)]) C dX7_code_1 rfl (by decide) rfl ?_
  refine r_iconst (v := nI 0) C dX7_code_2 (by decide) ?_
  refine r_istore_n (lv2 := [(2, .int (nI 0)), (1, .int (nI 0)), (0, .ref m0)]) C dX7_code_3 rfl (by decide) rfl ?_
  have L4 : ∀ (fu : Nat) (i : Nat), (i ≤ N) → (N + 1 - i) < fu → V p l e rm_X7_code s m args below meth c G 3 (MQ below (gQ G po) args s rm_X7_code.cells rm_X7_code.slots (gF G)) 0 0 n (mW G σ m0 [xstates, xtyped, xat, xreason, xdone, xkind, nI N, xstrength] [fs, fwas, fbegun, faside, ftext, fsize, fburnt, fnext, ffar, fthen, fqueue, frankAt, fturnAt]) 4 [(0, .ref m0), (1, .int (nI (cdp N o i))), (2, .int (nI i))] [] := by
    intro fu
    induction fu with
    | zero => intro i hi hm; exact absurd hm (Nat.not_lt_zero _)
    | succ fu ih4 =>
      intro i hi hm4
      refine r_iload_n C dX7_code_4 rfl 2 rfl ?_
      refine r_aload_n C dX7_code_5 rfl 0 rfl ?_
      refine rm_get (v := .int (nI N)) C 11 (by decide) wF_X7_59 rfl dX7_code_6 ?_
      refine r_icmp_geN (tgt := 30) C dX7_code_9 (by decide) (by omega) (by omega) (fun c9 => ?_) (fun c9 => ?_)
      · have hiN : i = N := by omega
        refine r_iload_n C dX7_code_30 rfl 1 rfl ?_
        exact r_iret C hr hlocks (Nat.le_of_ble_eq_true rfl) (Nat.le_of_ble_eq_true rfl) dX7_code_31 (hpo _ _ _ ⟨by rw [hiN]; rfl, rfl, rfl⟩)
      · refine r_bipush (v := nI 10) C dX7_code_12 (by decide) ?_
        refine r_iload_n C dX7_code_14 rfl 1 rfl ?_
        refine r_imulN C dX7_code_15 ?_
        refine r_aload_n C dX7_code_16 rfl 0 rfl ?_
        refine rm_get (v := .ref (m0 + 6)) C 13 (by decide) wF_X7_26 rfl dX7_code_17 ?_
        refine r_iload_n C dX7_code_20 rfl 2 rfl ?_
        refine rm_ald (f := fsize) (len := 6) C 5 rfl rfl (by decide) (by omega) dX7_code_21 ?_
        have hzr := sz_rng hN ho (show i < N by omega)
        refine V.top (y := nI (sz N o i)) (hz i (by omega)) ?_
        refine r_iaddN C dX7_code_22 ?_
        refine r_istore_n (lv2 := [(1, .int (nI ((10 * (cdp N o i)) + (sz N o i)))), (0, .ref m0), (2, .int (nI i))]) C dX7_code_23 rfl (by decide) rfl ?_
        refine r_iinc (v := nI (i + 1)) (lv2 := [(2, .int (nI (i + 1))), (1, .int (nI ((10 * (cdp N o i)) + (sz N o i)))), (0, .ref m0)]) C dX7_code_24 (k := 2) rfl (nI_add _ 1) (by decide) rfl ?_
        refine r_goto (tgt := 4) C dX7_code_27 (by decide) ?_
        refine V.sub (lv2 := [(0, .ref m0), (1, .int (nI ((10 * (cdp N o i)) + (sz N o i)))), (2, .int (nI (i + 1)))]) [2, 1, 0] rfl ?_
        refine V.eq (σ2 := (mW G σ m0 [xstates, xtyped, xat, xreason, xdone, xkind, nI N, xstrength] [fs, fwas, fbegun, faside, ftext, fsize, fburnt, fnext, ffar, fthen, fqueue, frankAt, fturnAt])) (lv2 := [(0, .ref m0), (1, .int (nI (cdp N o (i + 1)))), (2, .int (nI (i + 1)))]) (st2 := []) rfl rfl (by rw [(show nI ((10 * (cdp N o i)) + (sz N o i)) = nI (cdp N o (i + 1)) from rfl)]) rfl ?_
        exact ih4 (i + 1) (by omega) (by omega)
  refine V.sub (lv2 := [(0, .ref m0), (1, .int (nI 0)), (2, .int (nI 0))]) [2, 1, 0] rfl ?_
  refine V.eq (σ2 := (mW G σ m0 [xstates, xtyped, xat, xreason, xdone, xkind, nI N, xstrength] [fs, fwas, fbegun, faside, ftext, fsize, fburnt, fnext, ffar, fthen, fqueue, frankAt, fturnAt])) (lv2 := [(0, .ref m0), (1, .int (nI (cdp N o 0))), (2, .int (nI 0))]) (st2 := []) rfl rfl (by rw [(show nI 0 = nI (cdp N o 0) from rfl)]) rfl ?_
  exact L4 _ 0 (by omega) (Nat.lt_succ_self _)

abbrev rm_X7_sides : Room := { frames := 0, cells := 0, slots := 0, locals := 0 }
set_option maxRecDepth 100000 in
set_option maxHeartbeats 4000000 in
theorem c_X7_sides {l : Launch} {G : gG} {n : Nat} {σ : gS} {m0 : Nat} {xstates xtyped xat xreason xdone xkind xstrength : Int32} {fs fwas fbegun faside ftext fsize fburnt fnext ffar fthen fqueue frankAt fturnAt : Nat → Int32} {N sd : Nat} (hN : N ≤ 6) (hsd : sd < 2 ^ N) (hb : ∀ j, j < N → fburnt j = nI (bt sd j)) : GM l G yX7_sides cX7_sides 3 (some .int) rm_X7_sides n (mW G σ m0 [xstates, xtyped, xat, xreason, xdone, xkind, nI N, xstrength] [fs, fwas, fbegun, faside, ftext, fsize, fburnt, fnext, ffar, fthen, fqueue, frankAt, fturnAt]) [.ref m0] (fun rv n2 σ2 => some (.int (nI sd)) = rv ∧ n = n2 ∧ (mW G σ m0 [xstates, xtyped, xat, xreason, xdone, xkind, nI N, xstrength] [fs, fwas, fbegun, faside, ftext, fsize, fburnt, fnext, ffar, fthen, fqueue, frankAt, fturnAt]) = σ2) := by
  refine GM.intro (by decide +kernel) (Nat.le_of_ble_eq_true rfl) (fun p e s m args below meth c C hr hlocks hname po hpo => ?_)
  have C : Cx p s m args c cX7_sides 3 RX7 G := C
  refine r_iconst (v := nI 0) C dX7_sides_0 (by decide) ?_
  refine r_istore_n (lv2 := [(1, .int (nI 0)), (0, .ref m0)]) C dX7_sides_1 rfl (by decide) rfl ?_
  refine r_iconst (v := nI 0) C dX7_sides_2 (by decide) ?_
  refine r_istore_n (lv2 := [(2, .int (nI 0)), (1, .int (nI 0)), (0, .ref m0)]) C dX7_sides_3 rfl (by decide) rfl ?_
  have L4 : ∀ (fu : Nat) (i : Nat), (i ≤ N) → (N + 1 - i) < fu → V p l e rm_X7_sides s m args below meth c G 3 (MQ below (gQ G po) args s rm_X7_sides.cells rm_X7_sides.slots (gF G)) 0 0 n (mW G σ m0 [xstates, xtyped, xat, xreason, xdone, xkind, nI N, xstrength] [fs, fwas, fbegun, faside, ftext, fsize, fburnt, fnext, ffar, fthen, fqueue, frankAt, fturnAt]) 4 [(0, .ref m0), (1, .int (nI (sdp sd i))), (2, .int (nI i))] [] := by
    intro fu
    induction fu with
    | zero => intro i hi hm; exact absurd hm (Nat.not_lt_zero _)
    | succ fu ih4 =>
      intro i hi hm4
      refine r_iload_n C dX7_sides_4 rfl 2 rfl ?_
      refine r_aload_n C dX7_sides_5 rfl 0 rfl ?_
      refine rm_get (v := .int (nI N)) C 11 (by decide) wF_X7_59 rfl dX7_sides_6 ?_
      refine r_icmp_geN (tgt := 29) C dX7_sides_9 (by decide) (by omega) (by omega) (fun c9 => ?_) (fun c9 => ?_)
      · have hiN : i = N := by omega
        refine r_iload_n C dX7_sides_29 rfl 1 rfl ?_
        exact r_iret C hr hlocks (Nat.le_of_ble_eq_true rfl) (Nat.le_of_ble_eq_true rfl) dX7_sides_30 (hpo _ _ _ ⟨by rw [hiN, sdp_N hN hsd], rfl, rfl⟩)
      · refine r_iload_n C dX7_sides_12 rfl 1 rfl ?_
        refine r_aload_n C dX7_sides_13 rfl 0 rfl ?_
        refine rm_get (v := .ref (m0 + 7)) C 14 (by decide) wF_X7_29 rfl dX7_sides_14 ?_
        refine r_iload_n C dX7_sides_17 rfl 2 rfl ?_
        refine rm_ald (f := fburnt) (len := 6) C 6 rfl rfl (by decide) (by omega) dX7_sides_18 ?_
        have hbr := bt_le sd i
        refine V.top (y := nI (bt sd i)) (hb i (by omega)) ?_
        refine r_iload_n C dX7_sides_19 rfl 2 rfl ?_
        refine r_ishlN C dX7_sides_20 (by omega) ?_
        refine r_iorN C dX7_sides_21 ?_
        refine r_istore_n (lv2 := [(1, .int (nI ((sdp sd i) ||| ((bt sd i) * 2 ^ i)))), (0, .ref m0), (2, .int (nI i))]) C dX7_sides_22 rfl (by decide) rfl ?_
        refine r_iinc (v := nI (i + 1)) (lv2 := [(2, .int (nI (i + 1))), (1, .int (nI ((sdp sd i) ||| ((bt sd i) * 2 ^ i)))), (0, .ref m0)]) C dX7_sides_23 (k := 2) rfl (nI_add _ 1) (by decide) rfl ?_
        refine r_goto (tgt := 4) C dX7_sides_26 (by decide) ?_
        refine V.sub (lv2 := [(0, .ref m0), (1, .int (nI ((sdp sd i) ||| ((bt sd i) * 2 ^ i)))), (2, .int (nI (i + 1)))]) [2, 1, 0] rfl ?_
        refine V.eq (σ2 := (mW G σ m0 [xstates, xtyped, xat, xreason, xdone, xkind, nI N, xstrength] [fs, fwas, fbegun, faside, ftext, fsize, fburnt, fnext, ffar, fthen, fqueue, frankAt, fturnAt])) (lv2 := [(0, .ref m0), (1, .int (nI (sdp sd (i + 1)))), (2, .int (nI (i + 1)))]) (st2 := []) rfl rfl (by rw [(show nI ((sdp sd i) ||| ((bt sd i) * 2 ^ i)) = nI (sdp sd (i + 1)) from rfl)]) rfl ?_
        exact ih4 (i + 1) (by omega) (by omega)
  refine V.sub (lv2 := [(0, .ref m0), (1, .int (nI 0)), (2, .int (nI 0))]) [2, 1, 0] rfl ?_
  refine V.eq (σ2 := (mW G σ m0 [xstates, xtyped, xat, xreason, xdone, xkind, nI N, xstrength] [fs, fwas, fbegun, faside, ftext, fsize, fburnt, fnext, ffar, fthen, fqueue, frankAt, fturnAt])) (lv2 := [(0, .ref m0), (1, .int (nI (sdp sd 0))), (2, .int (nI 0))]) (st2 := []) rfl rfl (by rw [(show nI 0 = nI (sdp sd 0) from rfl)]) rfl ?_
  exact L4 _ 0 (by omega) (Nat.lt_succ_self _)

abbrev rm_X7_isJoined : Room := { frames := 1, cells := 0, slots := 0, locals := 20 }
set_option maxRecDepth 100000 in
set_option maxHeartbeats 4000000 in
theorem c_X7_isJoined {l : Launch} {G : gG} {n : Nat} {σ : gS} {m0 : Nat} {xstates xtyped xat xreason xdone xstrength : Int32} {fs fwas fbegun faside ftext fsize fburnt fnext ffar fthen fqueue frankAt fturnAt : Nat → Int32} {kd N o sd : Nat} {q : Nat} (hN : N ≤ 6) (hN1 : 1 ≤ N) (ho : o < fac N) (hz : ∀ j, j < N → fsize j = nI (sz N o j)) (hb : ∀ j, j < N → fburnt j = nI (bt sd j)) (hkd : kd < 4) (hq : q < N) : GM l G yX7_isJoined cX7_isJoined 3 (some .boolean) rm_X7_isJoined n (mW G σ m0 [xstates, xtyped, xat, xreason, xdone, nI kd, nI N, xstrength] [fs, fwas, fbegun, faside, ftext, fsize, fburnt, fnext, ffar, fthen, fqueue, frankAt, fturnAt]) [.ref m0, .int (nI q)] (fun rv n2 σ2 => some (.int (bI (jn (sid kd) N o sd q))) = rv ∧ n = n2 ∧ (mW G σ m0 [xstates, xtyped, xat, xreason, xdone, nI kd, nI N, xstrength] [fs, fwas, fbegun, faside, ftext, fsize, fburnt, fnext, ffar, fthen, fqueue, frankAt, fturnAt]) = σ2) := by
  refine GM.intro (by decide +kernel) (Nat.le_of_ble_eq_true rfl) (fun p e s m args below meth c C hr hlocks hname po hpo => ?_)
  have C : Cx p s m args c cX7_isJoined 3 RX7 G := C
  refine r_iload_n C dX7_isJoined_0 rfl 1 rfl ?_
  refine r_aload_n C dX7_isJoined_1 rfl 0 rfl ?_
  refine rm_get (v := .int (nI N)) C 11 (by decide) wF_X7_59 rfl dX7_isJoined_2 ?_
  refine r_iconst (v := nI 1) C dX7_isJoined_5 (by decide) ?_
  refine r_isubN C dX7_isJoined_6 (by omega) ?_
  refine r_icmp_neN (tgt := 38) C dX7_isJoined_7 (by decide) (by omega) (by omega) (fun c7 => ?_) (fun c7 => ?_)
  · have hq1 : ¬ q + 1 = N := by omega
    have hz1 := sz_rng hN ho hq
    have hz2 := sz_rng hN ho (show q + 1 < N by omega)
    refine r_aload_n C dX7_isJoined_38 rfl 0 rfl ?_
    refine rm_get (v := .ref (m0 + 6)) C 13 (by decide) wF_X7_26 rfl dX7_isJoined_39 ?_
    refine r_iload_n C dX7_isJoined_42 rfl 1 rfl ?_
    refine r_iconst (v := nI 1) C dX7_isJoined_43 (by decide) ?_
    refine r_iaddN C dX7_isJoined_44 ?_
    refine rm_ald (f := fsize) (len := 6) C 5 rfl rfl (by decide) (by omega) dX7_isJoined_45 ?_
    have hzr := sz_rng hN ho (show (q + 1) < N by omega)
    refine V.top (y := nI (sz N o (q + 1))) (hz (q + 1) (by omega)) ?_
    refine r_aload_n C dX7_isJoined_46 rfl 0 rfl ?_
    refine rm_get (v := .ref (m0 + 6)) C 13 (by decide) wF_X7_26 rfl dX7_isJoined_47 ?_
    refine r_iload_n C dX7_isJoined_50 rfl 1 rfl ?_
    refine rm_ald (f := fsize) (len := 6) C 5 rfl rfl (by decide) (by omega) dX7_isJoined_51 ?_
    have hzr := sz_rng hN ho (show q < N by omega)
    refine V.top (y := nI (sz N o q)) (hz q (by omega)) ?_
    refine r_isub C dX7_isJoined_52 ?_
    refine r_istore_n (lv2 := [(2, .int ((nI (sz N o (q + 1))) - (nI (sz N o q)))), (0, .ref m0), (1, .int (nI q))]) C dX7_isJoined_53 rfl (by decide) rfl ?_
    refine r_aload_n C dX7_isJoined_54 rfl 1 rfl ?_
    refine rm_get (v := .int (nI kd)) C 10 (by decide) wF_X7_66 rfl dX7_isJoined_55 ?_
    refine r_callS (As := [.int (nI kd)]) C (c_X7_hasSides (kd := kd) (by first | assumption | omega)) wM_X7_76 wS_X7_hasSides wN_X7 wC_X7_hasSides hd_X7_hasSides ⟨Nat.le_of_ble_eq_true rfl, Nat.le_of_ble_eq_true rfl⟩ rfl rfl (Nat.le_of_ble_eq_true rfl) dX7_isJoined_58 ⟨Nat.le_of_ble_eq_true rfl, Nat.le_of_ble_eq_true rfl⟩ (fun rv n2 σ2 hp => ?_)
    obtain ⟨rfl, rfl, rfl⟩ := hp
    refine V.eq (σ2 := (mW G σ m0 [xstates, xtyped, xat, xreason, xdone, nI kd, nI N, xstrength] [fs, fwas, fbegun, faside, ftext, fsize, fburnt, fnext, ffar, fthen, fqueue, frankAt, fturnAt])) (n2 := n) (st2 := [.int (bI (sid kd))]) rfl rfl rfl rfl ?_
    refine r_if_neB (tgt := 80) C dX7_isJoined_61 (by decide) (fun c61 => ?_) (fun c61 => ?_)
    · refine r_aload_n C dX7_isJoined_80 rfl 1 rfl ?_
      refine rm_get (v := .ref (m0 + 7)) C 14 (by decide) wF_X7_29 rfl dX7_isJoined_81 ?_
      refine r_iload_n C dX7_isJoined_84 rfl 2 rfl ?_
      refine rm_ald (f := fburnt) (len := 6) C 6 rfl rfl (by decide) (by omega) dX7_isJoined_85 ?_
      have hbr := bt_le sd q
      refine V.top (y := nI (bt sd q)) (hb q (by omega)) ?_
      refine r_aload_n C dX7_isJoined_86 rfl 1 rfl ?_
      refine rm_get (v := .ref (m0 + 7)) C 14 (by decide) wF_X7_29 rfl dX7_isJoined_87 ?_
      refine r_iload_n C dX7_isJoined_90 rfl 2 rfl ?_
      refine r_iconst (v := nI 1) C dX7_isJoined_91 (by decide) ?_
      refine r_iaddN C dX7_isJoined_92 ?_
      refine rm_ald (f := fburnt) (len := 6) C 6 rfl rfl (by decide) (by omega) dX7_isJoined_93 ?_
      have hbr := bt_le sd (q + 1)
      refine V.top (y := nI (bt sd (q + 1))) (hb (q + 1) (by omega)) ?_
      refine r_icmp_neN (tgt := 119) C dX7_isJoined_94 (by decide) (by omega) (by omega) (fun c94 => ?_) (fun c94 => ?_)
      · refine r_iconst (v := nI 0) C dX7_isJoined_119 (by decide) ?_
        exact r_zret C (by decide) hr hlocks (Nat.le_of_ble_eq_true rfl) (Nat.le_of_ble_eq_true rfl) dX7_isJoined_120 (hpo _ _ _ ⟨bI_f (by first | (simp [jn, hq1, c20, c29]; done) | (simp [jn, hq1, c20]; done) | (simp [jn, hq1, c61, h66]; done) | (simp [jn, hq1, c61, h66, h71]; done) | (rcases h112 with ⟨g1, g2⟩ | ⟨g1, g2⟩ <;> (simp [jn, hq1, c61, ← c94, g1, g2]; done)) | (simp [jn, hq1, c61, c94]; done)), rfl, rfl⟩)
      · refine r_iload_n C dX7_isJoined_97 rfl 0 rfl ?_
        refine r_aload_n C dX7_isJoined_98 rfl 1 rfl ?_
        refine rm_get (v := .ref (m0 + 7)) C 14 (by decide) wF_X7_29 rfl dX7_isJoined_99 ?_
        refine r_iload_n C dX7_isJoined_102 rfl 2 rfl ?_
        refine rm_ald (f := fburnt) (len := 6) C 6 rfl rfl (by decide) (by omega) dX7_isJoined_103 ?_
        have hbr := bt_le sd q
        refine V.top (y := nI (bt sd q)) (hb q (by omega)) ?_
        refine r_if_neN (tgt := 111) C dX7_isJoined_104 (by decide) (by omega) (fun c104 => ?_) (fun c104 => ?_)
        · refine r_iconst (v := (-1)) C dX7_isJoined_111 (by decide) ?_
          refine r_icmp_ne (tgt := 119) C dX7_isJoined_112 (by decide) (fun c112 => ?_) (fun c112 => ?_)
          · have h112 : (bt sd q = 0 ∧ ¬ sz N o (q + 1) = sz N o q + 1) ∨ (bt sd q ≠ 0 ∧ ¬ sz N o q = sz N o (q + 1) + 1) := by first | exact Or.inl ⟨c104, fun z => c112 ((dif_1 _ (by omega) _ (by omega)).mpr z)⟩ | exact Or.inr ⟨c104, fun z => c112 ((dif_m _ (by omega) _ (by omega)).mpr z)⟩
            refine r_iconst (v := nI 0) C dX7_isJoined_119 (by decide) ?_
            exact r_zret C (by decide) hr hlocks (Nat.le_of_ble_eq_true rfl) (Nat.le_of_ble_eq_true rfl) dX7_isJoined_120 (hpo _ _ _ ⟨bI_f (by first | (simp [jn, hq1, c20, c29]; done) | (simp [jn, hq1, c20]; done) | (simp [jn, hq1, c61, h66]; done) | (simp [jn, hq1, c61, h66, h71]; done) | (rcases h112 with ⟨g1, g2⟩ | ⟨g1, g2⟩ <;> (simp [jn, hq1, c61, ← c94, g1, g2]; done)) | (simp [jn, hq1, c61, c94]; done)), rfl, rfl⟩)
          · have h112 : (bt sd q = 0 ∧ sz N o (q + 1) = sz N o q + 1) ∨ (bt sd q ≠ 0 ∧ sz N o q = sz N o (q + 1) + 1) := by first | exact Or.inl ⟨c104, (dif_1 _ (by omega) _ (by omega)).mp c112⟩ | exact Or.inr ⟨c104, (dif_m _ (by omega) _ (by omega)).mp c112⟩
            refine r_iconst (v := nI 1) C dX7_isJoined_115 (by decide) ?_
            refine r_goto (tgt := 120) C dX7_isJoined_116 (by decide) ?_
            exact r_zret C (by decide) hr hlocks (Nat.le_of_ble_eq_true rfl) (Nat.le_of_ble_eq_true rfl) dX7_isJoined_120 (hpo _ _ _ ⟨bI_t (by first | (simp [jn, hq1, c20, c29]; done) | (simp [jn, hq1, c20]; done) | (simp [jn, hq1, c61, h66]; done) | (simp [jn, hq1, c61, h66, h71]; done) | (rcases h112 with ⟨g1, g2⟩ | ⟨g1, g2⟩ <;> (simp [jn, hq1, c61, ← c94, g1, g2]; done)) | (simp [jn, hq1, c61, c94]; done)), rfl, rfl⟩)
        · refine r_iconst (v := nI 1) C dX7_isJoined_107 (by decide) ?_
          refine r_goto (tgt := 112) C dX7_isJoined_108 (by decide) ?_
          refine r_icmp_ne (tgt := 119) C dX7_isJoined_112 (by decide) (fun c112 => ?_) (fun c112 => ?_)
          · have h112 : (bt sd q = 0 ∧ ¬ sz N o (q + 1) = sz N o q + 1) ∨ (bt sd q ≠ 0 ∧ ¬ sz N o q = sz N o (q + 1) + 1) := by first | exact Or.inl ⟨c104, fun z => c112 ((dif_1 _ (by omega) _ (by omega)).mpr z)⟩ | exact Or.inr ⟨c104, fun z => c112 ((dif_m _ (by omega) _ (by omega)).mpr z)⟩
            refine r_iconst (v := nI 0) C dX7_isJoined_119 (by decide) ?_
            exact r_zret C (by decide) hr hlocks (Nat.le_of_ble_eq_true rfl) (Nat.le_of_ble_eq_true rfl) dX7_isJoined_120 (hpo _ _ _ ⟨bI_f (by first | (simp [jn, hq1, c20, c29]; done) | (simp [jn, hq1, c20]; done) | (simp [jn, hq1, c61, h66]; done) | (simp [jn, hq1, c61, h66, h71]; done) | (rcases h112 with ⟨g1, g2⟩ | ⟨g1, g2⟩ <;> (simp [jn, hq1, c61, ← c94, g1, g2]; done)) | (simp [jn, hq1, c61, c94]; done)), rfl, rfl⟩)
          · have h112 : (bt sd q = 0 ∧ sz N o (q + 1) = sz N o q + 1) ∨ (bt sd q ≠ 0 ∧ sz N o q = sz N o (q + 1) + 1) := by first | exact Or.inl ⟨c104, (dif_1 _ (by omega) _ (by omega)).mp c112⟩ | exact Or.inr ⟨c104, (dif_m _ (by omega) _ (by omega)).mp c112⟩
            refine r_iconst (v := nI 1) C dX7_isJoined_115 (by decide) ?_
            refine r_goto (tgt := 120) C dX7_isJoined_116 (by decide) ?_
            exact r_zret C (by decide) hr hlocks (Nat.le_of_ble_eq_true rfl) (Nat.le_of_ble_eq_true rfl) dX7_isJoined_120 (hpo _ _ _ ⟨bI_t (by first | (simp [jn, hq1, c20, c29]; done) | (simp [jn, hq1, c20]; done) | (simp [jn, hq1, c61, h66]; done) | (simp [jn, hq1, c61, h66, h71]; done) | (rcases h112 with ⟨g1, g2⟩ | ⟨g1, g2⟩ <;> (simp [jn, hq1, c61, ← c94, g1, g2]; done)) | (simp [jn, hq1, c61, c94]; done)), rfl, rfl⟩)
    · refine r_iload_n C dX7_isJoined_64 rfl 0 rfl ?_
      refine r_iconst (v := nI 1) C dX7_isJoined_65 (by decide) ?_
      refine r_icmp_eq (tgt := 74) C dX7_isJoined_66 (by decide) (fun c66 => ?_) (fun c66 => ?_)
      · have h66 := (dif_1 _ (by omega) _ (by omega)).mp c66
        refine r_iconst (v := nI 1) C dX7_isJoined_74 (by decide) ?_
        refine r_goto (tgt := 79) C dX7_isJoined_75 (by decide) ?_
        exact r_zret C (by decide) hr hlocks (Nat.le_of_ble_eq_true rfl) (Nat.le_of_ble_eq_true rfl) dX7_isJoined_79 (hpo _ _ _ ⟨bI_t (by first | (simp [jn, hq1, c20, c29]; done) | (simp [jn, hq1, c20]; done) | (simp [jn, hq1, c61, h66]; done) | (simp [jn, hq1, c61, h66, h71]; done) | (rcases h112 with ⟨g1, g2⟩ | ⟨g1, g2⟩ <;> (simp [jn, hq1, c61, ← c94, g1, g2]; done)) | (simp [jn, hq1, c61, c94]; done)), rfl, rfl⟩)
      · have h66 : ¬ sz N o (q + 1) = sz N o q + 1 := fun z => c66 ((dif_1 _ (by omega) _ (by omega)).mpr z)
        refine r_iload_n C dX7_isJoined_69 rfl 0 rfl ?_
        refine r_iconst (v := (-1)) C dX7_isJoined_70 (by decide) ?_
        refine r_icmp_ne (tgt := 78) C dX7_isJoined_71 (by decide) (fun c71 => ?_) (fun c71 => ?_)
        · have h71 : ¬ sz N o q = sz N o (q + 1) + 1 := fun z => c71 ((dif_m _ (by omega) _ (by omega)).mpr z)
          refine r_iconst (v := nI 0) C dX7_isJoined_78 (by decide) ?_
          exact r_zret C (by decide) hr hlocks (Nat.le_of_ble_eq_true rfl) (Nat.le_of_ble_eq_true rfl) dX7_isJoined_79 (hpo _ _ _ ⟨bI_f (by first | (simp [jn, hq1, c20, c29]; done) | (simp [jn, hq1, c20]; done) | (simp [jn, hq1, c61, h66]; done) | (simp [jn, hq1, c61, h66, h71]; done) | (rcases h112 with ⟨g1, g2⟩ | ⟨g1, g2⟩ <;> (simp [jn, hq1, c61, ← c94, g1, g2]; done)) | (simp [jn, hq1, c61, c94]; done)), rfl, rfl⟩)
        · have h71 := (dif_m _ (by omega) _ (by omega)).mp c71
          refine r_iconst (v := nI 1) C dX7_isJoined_74 (by decide) ?_
          refine r_goto (tgt := 79) C dX7_isJoined_75 (by decide) ?_
          exact r_zret C (by decide) hr hlocks (Nat.le_of_ble_eq_true rfl) (Nat.le_of_ble_eq_true rfl) dX7_isJoined_79 (hpo _ _ _ ⟨bI_t (by first | (simp [jn, hq1, c20, c29]; done) | (simp [jn, hq1, c20]; done) | (simp [jn, hq1, c61, h66]; done) | (simp [jn, hq1, c61, h66, h71]; done) | (rcases h112 with ⟨g1, g2⟩ | ⟨g1, g2⟩ <;> (simp [jn, hq1, c61, ← c94, g1, g2]; done)) | (simp [jn, hq1, c61, c94]; done)), rfl, rfl⟩)
  · have hq1 : q + 1 = N := by omega
    refine r_aload_n C dX7_isJoined_10 rfl 0 rfl ?_
    refine rm_get (v := .ref (m0 + 6)) C 13 (by decide) wF_X7_26 rfl dX7_isJoined_11 ?_
    refine r_iload_n C dX7_isJoined_14 rfl 1 rfl ?_
    refine rm_ald (f := fsize) (len := 6) C 5 rfl rfl (by decide) (by omega) dX7_isJoined_15 ?_
    have hzr := sz_rng hN ho (show q < N by omega)
    refine V.top (y := nI (sz N o q)) (hz q (by omega)) ?_
    refine r_aload_n C dX7_isJoined_16 rfl 0 rfl ?_
    refine rm_get (v := .int (nI N)) C 11 (by decide) wF_X7_59 rfl dX7_isJoined_17 ?_
    refine r_icmp_neN (tgt := 36) C dX7_isJoined_20 (by decide) (by omega) (by omega) (fun c20 => ?_) (fun c20 => ?_)
    · refine r_iconst (v := nI 0) C dX7_isJoined_36 (by decide) ?_
      exact r_zret C (by decide) hr hlocks (Nat.le_of_ble_eq_true rfl) (Nat.le_of_ble_eq_true rfl) dX7_isJoined_37 (hpo _ _ _ ⟨bI_f (by first | (simp [jn, hq1, c20, c29]; done) | (simp [jn, hq1, c20]; done) | (simp [jn, hq1, c61, h66]; done) | (simp [jn, hq1, c61, h66, h71]; done) | (rcases h112 with ⟨g1, g2⟩ | ⟨g1, g2⟩ <;> (simp [jn, hq1, c61, ← c94, g1, g2]; done)) | (simp [jn, hq1, c61, c94]; done)), rfl, rfl⟩)
    · refine r_aload_n C dX7_isJoined_23 rfl 0 rfl ?_
      refine rm_get (v := .ref (m0 + 7)) C 14 (by decide) wF_X7_29 rfl dX7_isJoined_24 ?_
      refine r_iload_n C dX7_isJoined_27 rfl 1 rfl ?_
      refine rm_ald (f := fburnt) (len := 6) C 6 rfl rfl (by decide) (by omega) dX7_isJoined_28 ?_
      have hbr := bt_le sd q
      refine V.top (y := nI (bt sd q)) (hb q (by omega)) ?_
      refine r_if_neN (tgt := 36) C dX7_isJoined_29 (by decide) (by omega) (fun c29 => ?_) (fun c29 => ?_)
      · refine r_iconst (v := nI 0) C dX7_isJoined_36 (by decide) ?_
        exact r_zret C (by decide) hr hlocks (Nat.le_of_ble_eq_true rfl) (Nat.le_of_ble_eq_true rfl) dX7_isJoined_37 (hpo _ _ _ ⟨bI_f (by first | (simp [jn, hq1, c20, c29]; done) | (simp [jn, hq1, c20]; done) | (simp [jn, hq1, c61, h66]; done) | (simp [jn, hq1, c61, h66, h71]; done) | (rcases h112 with ⟨g1, g2⟩ | ⟨g1, g2⟩ <;> (simp [jn, hq1, c61, ← c94, g1, g2]; done)) | (simp [jn, hq1, c61, c94]; done)), rfl, rfl⟩)
      · refine r_iconst (v := nI 1) C dX7_isJoined_32 (by decide) ?_
        refine r_goto (tgt := 37) C dX7_isJoined_33 (by decide) ?_
        exact r_zret C (by decide) hr hlocks (Nat.le_of_ble_eq_true rfl) (Nat.le_of_ble_eq_true rfl) dX7_isJoined_37 (hpo _ _ _ ⟨bI_t (by first | (simp [jn, hq1, c20, c29]; done) | (simp [jn, hq1, c20]; done) | (simp [jn, hq1, c61, h66]; done) | (simp [jn, hq1, c61, h66, h71]; done) | (rcases h112 with ⟨g1, g2⟩ | ⟨g1, g2⟩ <;> (simp [jn, hq1, c61, ← c94, g1, g2]; done)) | (simp [jn, hq1, c61, c94]; done)), rfl, rfl⟩)

abbrev rm_X7_gaps : Room := { frames := 2, cells := 0, slots := 0, locals := 42 }
set_option maxRecDepth 100000 in
set_option maxHeartbeats 4000000 in
theorem c_X7_gaps {l : Launch} {G : gG} {n : Nat} {σ : gS} {m0 : Nat} {xstates xtyped xat xreason xdone xstrength : Int32} {fs fwas fbegun faside ftext fsize fburnt fnext ffar fthen fqueue frankAt fturnAt : Nat → Int32} {kd N o sd : Nat} (hN : N ≤ 6) (hN1 : 1 ≤ N) (ho : o < fac N) (hz : ∀ j, j < N → fsize j = nI (sz N o j)) (hb : ∀ j, j < N → fburnt j = nI (bt sd j)) (hkd : kd < 4) : GM l G yX7_gaps cX7_gaps 3 (some .int) rm_X7_gaps n (mW G σ m0 [xstates, xtyped, xat, xreason, xdone, nI kd, nI N, xstrength] [fs, fwas, fbegun, faside, ftext, fsize, fburnt, fnext, ffar, fthen, fqueue, frankAt, fturnAt]) [.ref m0] (fun rv n2 σ2 => some (.int (nI (gp (sid kd) N o sd))) = rv ∧ n = n2 ∧ (mW G σ m0 [xstates, xtyped, xat, xreason, xdone, nI kd, nI N, xstrength] [fs, fwas, fbegun, faside, ftext, fsize, fburnt, fnext, ffar, fthen, fqueue, frankAt, fturnAt]) = σ2) := by
  refine GM.intro (by decide +kernel) (Nat.le_of_ble_eq_true rfl) (fun p e s m args below meth c C hr hlocks hname po hpo => ?_)
  have C : Cx p s m args c cX7_gaps 3 RX7 G := C
  refine r_iconst (v := nI 0) C dX7_gaps_0 (by decide) ?_
  refine r_istore_n (lv2 := [(1, .int (nI 0)), (0, .ref m0)]) C dX7_gaps_1 rfl (by decide) rfl ?_
  refine r_iconst (v := nI 0) C dX7_gaps_2 (by decide) ?_
  refine r_istore_n (lv2 := [(2, .int (nI 0)), (1, .int (nI 0)), (0, .ref m0)]) C dX7_gaps_3 rfl (by decide) rfl ?_
  have L4 : ∀ (fu : Nat) (i : Nat), (i ≤ N) → (N + 1 - i) < fu → V p l e rm_X7_gaps s m args below meth c G 3 (MQ below (gQ G po) args s rm_X7_gaps.cells rm_X7_gaps.slots (gF G)) 0 0 n (mW G σ m0 [xstates, xtyped, xat, xreason, xdone, nI kd, nI N, xstrength] [fs, fwas, fbegun, faside, ftext, fsize, fburnt, fnext, ffar, fthen, fqueue, frankAt, fturnAt]) 4 [(0, .ref m0), (1, .int (nI (gpp (sid kd) N o sd i))), (2, .int (nI i))] [] := by
    intro fu
    induction fu with
    | zero => intro i hi hm; exact absurd hm (Nat.not_lt_zero _)
    | succ fu ih4 =>
      intro i hi hm4
      refine r_iload_n C dX7_gaps_4 rfl 2 rfl ?_
      refine r_aload_n C dX7_gaps_5 rfl 0 rfl ?_
      refine rm_get (v := .int (nI N)) C 11 (by decide) wF_X7_59 rfl dX7_gaps_6 ?_
      refine r_icmp_geN (tgt := 34) C dX7_gaps_9 (by decide) (by omega) (by omega) (fun c9 => ?_) (fun c9 => ?_)
      · have hiN : i = N := by omega
        refine r_iload_n C dX7_gaps_34 rfl 1 rfl ?_
        exact r_iret C hr hlocks (Nat.le_of_ble_eq_true rfl) (Nat.le_of_ble_eq_true rfl) dX7_gaps_35 (hpo _ _ _ ⟨by rw [hiN]; rfl, rfl, rfl⟩)
      · refine r_iload_n C dX7_gaps_12 rfl 1 rfl ?_
        refine r_aload_n C dX7_gaps_13 rfl 0 rfl ?_
        refine r_iload_n C dX7_gaps_14 rfl 2 rfl ?_
        refine r_callV (As := [.int (nI i)]) C (c_X7_isJoined (kd := kd) (N := N) (o := o) (sd := sd) (q := i) (by first | assumption | omega) (by first | assumption | omega) (by first | assumption | omega) (by first | assumption | omega) (by first | assumption | omega) (by first | assumption | omega) (by first | assumption | omega)) wM_X7_80 wI_X7_isJoined wN_X7 wC_X7_isJoined wV_X7_isJoined hd_X7_isJoined ⟨Nat.le_of_ble_eq_true rfl, Nat.le_of_ble_eq_true rfl⟩ rfl (mW_o _ _ _ _ _) rfl rfl (Nat.le_of_ble_eq_true rfl) dX7_gaps_15 ⟨Nat.le_of_ble_eq_true rfl, Nat.le_of_ble_eq_true rfl⟩ (fun rv n2 σ2 hp => ?_)
        obtain ⟨rfl, rfl, rfl⟩ := hp
        refine V.eq (σ2 := (mW G σ m0 [xstates, xtyped, xat, xreason, xdone, nI kd, nI N, xstrength] [fs, fwas, fbegun, faside, ftext, fsize, fburnt, fnext, ffar, fthen, fqueue, frankAt, fturnAt])) (n2 := n) (st2 := [.int (bI (jn (sid kd) N o sd i)), .int (nI (gpp (sid kd) N o sd i))]) rfl rfl rfl rfl ?_
        refine r_if_eqB (tgt := 25) C dX7_gaps_18 (by decide) (fun c18 => ?_) (fun c18 => ?_)
        · refine r_iconst (v := nI 1) C dX7_gaps_25 (by decide) ?_
          refine r_iaddN C dX7_gaps_26 ?_
          refine r_istore_n (lv2 := [(1, .int (nI ((gpp (sid kd) N o sd i) + 1))), (0, .ref m0), (2, .int (nI i))]) C dX7_gaps_27 rfl (by decide) rfl ?_
          refine r_iinc (v := nI (i + 1)) (lv2 := [(2, .int (nI (i + 1))), (1, .int (nI ((gpp (sid kd) N o sd i) + 1))), (0, .ref m0)]) C dX7_gaps_28 (k := 2) rfl (nI_add _ 1) (by decide) rfl ?_
          refine r_goto (tgt := 4) C dX7_gaps_31 (by decide) ?_
          refine V.sub (lv2 := [(0, .ref m0), (1, .int (nI ((gpp (sid kd) N o sd i) + 1))), (2, .int (nI (i + 1)))]) [2, 1, 0] rfl ?_
          refine V.eq (σ2 := (mW G σ m0 [xstates, xtyped, xat, xreason, xdone, nI kd, nI N, xstrength] [fs, fwas, fbegun, faside, ftext, fsize, fburnt, fnext, ffar, fthen, fqueue, frankAt, fturnAt])) (lv2 := [(0, .ref m0), (1, .int (nI (gpp (sid kd) N o sd (i + 1)))), (2, .int (nI (i + 1)))]) (st2 := []) rfl rfl (by rw [(show nI ((gpp (sid kd) N o sd i) + 1) = nI (gpp (sid kd) N o sd (i + 1)) from by simp [gpp, c18])]) rfl ?_
          exact ih4 (i + 1) (by omega) (by omega)
        · refine r_iconst (v := nI 0) C dX7_gaps_21 (by decide) ?_
          refine r_goto (tgt := 26) C dX7_gaps_22 (by decide) ?_
          refine r_iaddN C dX7_gaps_26 ?_
          refine r_istore_n (lv2 := [(1, .int (nI ((gpp (sid kd) N o sd i) + 0))), (0, .ref m0), (2, .int (nI i))]) C dX7_gaps_27 rfl (by decide) rfl ?_
          refine r_iinc (v := nI (i + 1)) (lv2 := [(2, .int (nI (i + 1))), (1, .int (nI ((gpp (sid kd) N o sd i) + 0))), (0, .ref m0)]) C dX7_gaps_28 (k := 2) rfl (nI_add _ 1) (by decide) rfl ?_
          refine r_goto (tgt := 4) C dX7_gaps_31 (by decide) ?_
          refine V.sub (lv2 := [(0, .ref m0), (1, .int (nI ((gpp (sid kd) N o sd i) + 0))), (2, .int (nI (i + 1)))]) [2, 1, 0] rfl ?_
          refine V.eq (σ2 := (mW G σ m0 [xstates, xtyped, xat, xreason, xdone, nI kd, nI N, xstrength] [fs, fwas, fbegun, faside, ftext, fsize, fburnt, fnext, ffar, fthen, fqueue, frankAt, fturnAt])) (lv2 := [(0, .ref m0), (1, .int (nI (gpp (sid kd) N o sd (i + 1)))), (2, .int (nI (i + 1)))]) (st2 := []) rfl rfl (by rw [(show nI ((gpp (sid kd) N o sd i) + 0) = nI (gpp (sid kd) N o sd (i + 1)) from by simp [gpp, c18])]) rfl ?_
          exact ih4 (i + 1) (by omega) (by omega)
  refine V.sub (lv2 := [(0, .ref m0), (1, .int (nI 0)), (2, .int (nI 0))]) [2, 1, 0] rfl ?_
  refine V.eq (σ2 := (mW G σ m0 [xstates, xtyped, xat, xreason, xdone, nI kd, nI N, xstrength] [fs, fwas, fbegun, faside, ftext, fsize, fburnt, fnext, ffar, fthen, fqueue, frankAt, fturnAt])) (lv2 := [(0, .ref m0), (1, .int (nI (gpp (sid kd) N o sd 0))), (2, .int (nI 0))]) (st2 := []) rfl rfl (by rw [(show nI 0 = nI (gpp (sid kd) N o sd 0) from rfl)]) rfl ?_
  exact L4 _ 0 (by omega) (Nat.lt_succ_self _)

abbrev rm_X7_isSorted : Room := { frames := 0, cells := 0, slots := 0, locals := 0 }
set_option maxRecDepth 100000 in
set_option maxHeartbeats 4000000 in
theorem c_X7_isSorted {l : Launch} {G : gG} {n : Nat} {σ : gS} {m0 : Nat} {xstates xtyped xat xreason xdone xkind xstrength : Int32} {fs fwas fbegun faside ftext fsize fburnt fnext ffar fthen fqueue frankAt fturnAt : Nat → Int32} {N o sd : Nat} (hN : N ≤ 6) (hN1 : 1 ≤ N) (ho : o < fac N) (hz : ∀ j, j < N → fsize j = nI (sz N o j)) (hb : ∀ j, j < N → fburnt j = nI (bt sd j)) : GM l G yX7_isSorted cX7_isSorted 3 (some .boolean) rm_X7_isSorted n (mW G σ m0 [xstates, xtyped, xat, xreason, xdone, xkind, nI N, xstrength] [fs, fwas, fbegun, faside, ftext, fsize, fburnt, fnext, ffar, fthen, fqueue, frankAt, fturnAt]) [.ref m0] (fun rv n2 σ2 => some (.int (bI (srp N o sd N))) = rv ∧ n = n2 ∧ (mW G σ m0 [xstates, xtyped, xat, xreason, xdone, xkind, nI N, xstrength] [fs, fwas, fbegun, faside, ftext, fsize, fburnt, fnext, ffar, fthen, fqueue, frankAt, fturnAt]) = σ2) := by
  refine GM.intro (by decide +kernel) (Nat.le_of_ble_eq_true rfl) (fun p e s m args below meth c C hr hlocks hname po hpo => ?_)
  have C : Cx p s m args c cX7_isSorted 3 RX7 G := C
  refine r_iconst (v := nI 1) C dX7_isSorted_0 (by decide) ?_
  refine r_istore_n (lv2 := [(1, .int (nI 1)), (0, .ref m0)]) C dX7_isSorted_1 rfl (by decide) rfl ?_
  refine r_iconst (v := nI 0) C dX7_isSorted_2 (by decide) ?_
  refine r_istore_n (lv2 := [(2, .int (nI 0)), (1, .int (nI 1)), (0, .ref m0)]) C dX7_isSorted_3 rfl (by decide) rfl ?_
  have L4 : ∀ (fu : Nat) (i : Nat), (i ≤ N) → (N + 1 - i) < fu → V p l e rm_X7_isSorted s m args below meth c G 3 (MQ below (gQ G po) args s rm_X7_isSorted.cells rm_X7_isSorted.slots (gF G)) 0 0 n (mW G σ m0 [xstates, xtyped, xat, xreason, xdone, xkind, nI N, xstrength] [fs, fwas, fbegun, faside, ftext, fsize, fburnt, fnext, ffar, fthen, fqueue, frankAt, fturnAt]) 4 [(0, .ref m0), (1, .int (bI (srp N o sd i))), (2, .int (nI i))] [] := by
    intro fu
    induction fu with
    | zero => intro i hi hm; exact absurd hm (Nat.not_lt_zero _)
    | succ fu ih4 =>
      intro i hi hm4
      refine r_iload_n C dX7_isSorted_4 rfl 2 rfl ?_
      refine r_aload_n C dX7_isSorted_5 rfl 0 rfl ?_
      refine rm_get (v := .int (nI N)) C 11 (by decide) wF_X7_59 rfl dX7_isSorted_6 ?_
      refine r_icmp_geN (tgt := 49) C dX7_isSorted_9 (by decide) (by omega) (by omega) (fun c9 => ?_) (fun c9 => ?_)
      · have hiN : i = N := by omega
        refine r_iload_n C dX7_isSorted_49 rfl 1 rfl ?_
        exact r_zret C (bI_nar _) hr hlocks (Nat.le_of_ble_eq_true rfl) (Nat.le_of_ble_eq_true rfl) dX7_isSorted_50 (hpo _ _ _ ⟨by rw [hiN], rfl, rfl⟩)
      · refine r_iload_n C dX7_isSorted_12 rfl 1 rfl ?_
        refine r_if_eqB (tgt := 41) C dX7_isSorted_13 (by decide) (fun c13 => ?_) (fun c13 => ?_)
        · have hq9 : srp N o sd (i + 1) = false := by simp [srp, c13]
          refine r_iconst (v := nI 0) C dX7_isSorted_41 (by decide) ?_
          refine r_istore_n (lv2 := [(1, .int (nI 0)), (0, .ref m0), (2, .int (nI i))]) C dX7_isSorted_42 rfl (by decide) rfl ?_
          refine r_iinc (v := nI (i + 1)) (lv2 := [(2, .int (nI (i + 1))), (1, .int (nI 0)), (0, .ref m0)]) C dX7_isSorted_43 (k := 2) rfl (nI_add _ 1) (by decide) rfl ?_
          refine r_goto (tgt := 4) C dX7_isSorted_46 (by decide) ?_
          refine V.sub (lv2 := [(0, .ref m0), (1, .int (nI 0)), (2, .int (nI (i + 1)))]) [2, 1, 0] rfl ?_
          refine V.eq (σ2 := (mW G σ m0 [xstates, xtyped, xat, xreason, xdone, xkind, nI N, xstrength] [fs, fwas, fbegun, faside, ftext, fsize, fburnt, fnext, ffar, fthen, fqueue, frankAt, fturnAt])) (lv2 := [(0, .ref m0), (1, .int (bI (srp N o sd (i + 1)))), (2, .int (nI (i + 1)))]) (st2 := []) rfl rfl (by rw [(show nI 0 = bI (srp N o sd (i + 1)) from by rw [hq9]; rfl)]) rfl ?_
          exact ih4 (i + 1) (by omega) (by omega)
        · refine r_aload_n C dX7_isSorted_16 rfl 0 rfl ?_
          refine rm_get (v := .ref (m0 + 6)) C 13 (by decide) wF_X7_26 rfl dX7_isSorted_17 ?_
          refine r_iload_n C dX7_isSorted_20 rfl 2 rfl ?_
          refine rm_ald (f := fsize) (len := 6) C 5 rfl rfl (by decide) (by omega) dX7_isSorted_21 ?_
          have hzr := sz_rng hN ho (show i < N by omega)
          refine V.top (y := nI (sz N o i)) (hz i (by omega)) ?_
          refine r_iload_n C dX7_isSorted_22 rfl 2 rfl ?_
          refine r_iconst (v := nI 1) C dX7_isSorted_23 (by decide) ?_
          refine r_iaddN C dX7_isSorted_24 ?_
          refine r_icmp_neN (tgt := 41) C dX7_isSorted_25 (by decide) (by omega) (by omega) (fun c25 => ?_) (fun c25 => ?_)
          · have hq9 : srp N o sd (i + 1) = false := by simp [srp, c13, c25]
            refine r_iconst (v := nI 0) C dX7_isSorted_41 (by decide) ?_
            refine r_istore_n (lv2 := [(1, .int (nI 0)), (0, .ref m0), (2, .int (nI i))]) C dX7_isSorted_42 rfl (by decide) rfl ?_
            refine r_iinc (v := nI (i + 1)) (lv2 := [(2, .int (nI (i + 1))), (1, .int (nI 0)), (0, .ref m0)]) C dX7_isSorted_43 (k := 2) rfl (nI_add _ 1) (by decide) rfl ?_
            refine r_goto (tgt := 4) C dX7_isSorted_46 (by decide) ?_
            refine V.sub (lv2 := [(0, .ref m0), (1, .int (nI 0)), (2, .int (nI (i + 1)))]) [2, 1, 0] rfl ?_
            refine V.eq (σ2 := (mW G σ m0 [xstates, xtyped, xat, xreason, xdone, xkind, nI N, xstrength] [fs, fwas, fbegun, faside, ftext, fsize, fburnt, fnext, ffar, fthen, fqueue, frankAt, fturnAt])) (lv2 := [(0, .ref m0), (1, .int (bI (srp N o sd (i + 1)))), (2, .int (nI (i + 1)))]) (st2 := []) rfl rfl (by rw [(show nI 0 = bI (srp N o sd (i + 1)) from by rw [hq9]; rfl)]) rfl ?_
            exact ih4 (i + 1) (by omega) (by omega)
          · refine r_aload_n C dX7_isSorted_28 rfl 0 rfl ?_
            refine rm_get (v := .ref (m0 + 7)) C 14 (by decide) wF_X7_29 rfl dX7_isSorted_29 ?_
            refine r_iload_n C dX7_isSorted_32 rfl 2 rfl ?_
            refine rm_ald (f := fburnt) (len := 6) C 6 rfl rfl (by decide) (by omega) dX7_isSorted_33 ?_
            have hbr := bt_le sd i
            refine V.top (y := nI (bt sd i)) (hb i (by omega)) ?_
            refine r_if_neN (tgt := 41) C dX7_isSorted_34 (by decide) (by omega) (fun c34 => ?_) (fun c34 => ?_)
            · have hq9 : srp N o sd (i + 1) = false := by simp [srp, c13, c34]
              refine r_iconst (v := nI 0) C dX7_isSorted_41 (by decide) ?_
              refine r_istore_n (lv2 := [(1, .int (nI 0)), (0, .ref m0), (2, .int (nI i))]) C dX7_isSorted_42 rfl (by decide) rfl ?_
              refine r_iinc (v := nI (i + 1)) (lv2 := [(2, .int (nI (i + 1))), (1, .int (nI 0)), (0, .ref m0)]) C dX7_isSorted_43 (k := 2) rfl (nI_add _ 1) (by decide) rfl ?_
              refine r_goto (tgt := 4) C dX7_isSorted_46 (by decide) ?_
              refine V.sub (lv2 := [(0, .ref m0), (1, .int (nI 0)), (2, .int (nI (i + 1)))]) [2, 1, 0] rfl ?_
              refine V.eq (σ2 := (mW G σ m0 [xstates, xtyped, xat, xreason, xdone, xkind, nI N, xstrength] [fs, fwas, fbegun, faside, ftext, fsize, fburnt, fnext, ffar, fthen, fqueue, frankAt, fturnAt])) (lv2 := [(0, .ref m0), (1, .int (bI (srp N o sd (i + 1)))), (2, .int (nI (i + 1)))]) (st2 := []) rfl rfl (by rw [(show nI 0 = bI (srp N o sd (i + 1)) from by rw [hq9]; rfl)]) rfl ?_
              exact ih4 (i + 1) (by omega) (by omega)
            · have hq9 : srp N o sd (i + 1) = true := by simp [srp, c13, c25, c34]
              refine r_iconst (v := nI 1) C dX7_isSorted_37 (by decide) ?_
              refine r_goto (tgt := 42) C dX7_isSorted_38 (by decide) ?_
              refine r_istore_n (lv2 := [(1, .int (nI 1)), (0, .ref m0), (2, .int (nI i))]) C dX7_isSorted_42 rfl (by decide) rfl ?_
              refine r_iinc (v := nI (i + 1)) (lv2 := [(2, .int (nI (i + 1))), (1, .int (nI 1)), (0, .ref m0)]) C dX7_isSorted_43 (k := 2) rfl (nI_add _ 1) (by decide) rfl ?_
              refine r_goto (tgt := 4) C dX7_isSorted_46 (by decide) ?_
              refine V.sub (lv2 := [(0, .ref m0), (1, .int (nI 1)), (2, .int (nI (i + 1)))]) [2, 1, 0] rfl ?_
              refine V.eq (σ2 := (mW G σ m0 [xstates, xtyped, xat, xreason, xdone, xkind, nI N, xstrength] [fs, fwas, fbegun, faside, ftext, fsize, fburnt, fnext, ffar, fthen, fqueue, frankAt, fturnAt])) (lv2 := [(0, .ref m0), (1, .int (bI (srp N o sd (i + 1)))), (2, .int (nI (i + 1)))]) (st2 := []) rfl rfl (by rw [(show nI 1 = bI (srp N o sd (i + 1)) from by rw [hq9]; rfl)]) rfl ?_
              exact ih4 (i + 1) (by omega) (by omega)
  refine V.sub (lv2 := [(0, .ref m0), (1, .int (nI 1)), (2, .int (nI 0))]) [2, 1, 0] rfl ?_
  refine V.eq (σ2 := (mW G σ m0 [xstates, xtyped, xat, xreason, xdone, xkind, nI N, xstrength] [fs, fwas, fbegun, faside, ftext, fsize, fburnt, fnext, ffar, fthen, fqueue, frankAt, fturnAt])) (lv2 := [(0, .ref m0), (1, .int (bI (srp N o sd 0))), (2, .int (nI 0))]) (st2 := []) rfl rfl (by rw [(show nI 1 = bI (srp N o sd 0) from rfl)]) rfl ?_
  exact L4 _ 0 (by omega) (Nat.lt_succ_self _)

abbrev rm_X7_can : Room := { frames := 2, cells := 0, slots := 0, locals := 42 }
set_option maxRecDepth 100000 in
set_option maxHeartbeats 4000000 in
theorem c_X7_can {l : Launch} {G : gG} {n : Nat} {σ : gS} {m0 : Nat} {xstates xtyped xat xreason xdone : Int32} {fs fwas fbegun faside ftext fsize fburnt fnext ffar fthen fqueue frankAt fturnAt : Nat → Int32} {kd N o sd sr k : Nat} (hN : N ≤ 6) (hN1 : 1 ≤ N) (ho : o < fac N) (hz : ∀ j, j < N → fsize j = nI (sz N o j)) (hb : ∀ j, j < N → fburnt j = nI (bt sd j)) (hkd : kd < 4) (hsr : sr ≤ 21) (hk1 : 1 ≤ k) (hk : k ≤ N) : GM l G yX7_can cX7_can 4 (some .boolean) rm_X7_can n (mW G σ m0 [xstates, xtyped, xat, xreason, xdone, nI kd, nI N, nI sr] [fs, fwas, fbegun, faside, ftext, fsize, fburnt, fnext, ffar, fthen, fqueue, frankAt, fturnAt]) [.ref m0, .int (nI k)] (fun rv n2 σ2 => some (.int (bI (al kd sr N o sd k))) = rv ∧ n = n2 ∧ (mW G σ m0 [xstates, xtyped, xat, xreason, xdone, nI kd, nI N, nI sr] [fs, fwas, fbegun, faside, ftext, fsize, fburnt, fnext, ffar, fthen, fqueue, frankAt, fturnAt]) = σ2) := by
  refine GM.intro (by decide +kernel) (Nat.le_of_ble_eq_true rfl) (fun p e s m args below meth c C hr hlocks hname po hpo => ?_)
  have C : Cx p s m args c cX7_can 4 RX7 G := C
  refine r_iconst (v := nI 0) C dX7_can_0 (by decide) ?_
  refine r_istore_n (lv2 := [(2, .int (nI 0)), (0, .ref m0), (1, .int (nI k))]) C dX7_can_1 rfl (by decide) rfl ?_
  refine r_iconst (v := nI 0) C dX7_can_2 (by decide) ?_
  refine r_istore_n (lv2 := [(3, .int (nI 0)), (2, .int (nI 0)), (0, .ref m0), (1, .int (nI k))]) C dX7_can_3 rfl (by decide) rfl ?_
  have L4 : ∀ (fu : Nat) (i : Nat), (i ≤ k) → (k + 1 - i) < fu → V p l e rm_X7_can s m args below meth c G 4 (MQ below (gQ G po) args s rm_X7_can.cells rm_X7_can.slots (gF G)) 0 0 n (mW G σ m0 [xstates, xtyped, xat, xreason, xdone, nI kd, nI N, nI sr] [fs, fwas, fbegun, faside, ftext, fsize, fburnt, fnext, ffar, fthen, fqueue, frankAt, fturnAt]) 4 [(0, .ref m0), (1, .int (nI k)), (2, .int (nI (wt N o i))), (3, .int (nI i))] [] := by
    intro fu
    induction fu with
    | zero => intro i hi hm; exact absurd hm (Nat.not_lt_zero _)
    | succ fu ih4 =>
      intro i hi hm4
      refine r_iload_n C dX7_can_4 rfl 3 rfl ?_
      refine r_iload_n C dX7_can_5 rfl 1 rfl ?_
      refine r_icmp_geN (tgt := 24) C dX7_can_6 (by decide) (by omega) (by omega) (fun c6 => ?_) (fun c6 => ?_)
      · have hik : i = k := by omega
        have hwt := wt_le hN ho hk
        refine V.eq (lv2 := [(0, .ref m0), (1, .int (nI k)), (2, .int (nI (wt N o k))), (3, .int (nI i))]) rfl rfl (by rw [(show nI (wt N o i) = nI (wt N o k) from by rw [hik])]) rfl ?_
        refine r_aload_n C dX7_can_24 rfl 0 rfl ?_
        refine rm_get (v := .int (nI kd)) C 10 (by decide) wF_X7_66 rfl dX7_can_25 ?_
        refine r_iconst (v := nI 2) C dX7_can_28 (by decide) ?_
        refine r_icmp_neN (tgt := 50) C dX7_can_29 (by decide) (by omega) (by decide) (fun c29 => ?_) (fun c29 => ?_)
        · refine r_aload_n C dX7_can_50 rfl 0 rfl ?_
          refine rm_get (v := .int (nI kd)) C 10 (by decide) wF_X7_66 rfl dX7_can_51 ?_
          refine r_iconst (v := nI 3) C dX7_can_54 (by decide) ?_
          refine r_icmp_neN (tgt := 66) C dX7_can_55 (by decide) (by omega) (by decide) (fun c55 => ?_) (fun c55 => ?_)
          · refine r_iconst (v := nI 1) C dX7_can_66 (by decide) ?_
            refine r_goto (tgt := 71) C dX7_can_67 (by decide) ?_
            exact r_zret C (by decide) hr hlocks (Nat.le_of_ble_eq_true rfl) (Nat.le_of_ble_eq_true rfl) dX7_can_71 (hpo _ _ _ ⟨bI_t (by first | (subst c29; simp [al, c39]; done) | (simp [al, c29, c55, c63]; done) | (simp [al, c29, c55]; done) | (simp [al, c29, c55]; omega)), rfl, rfl⟩)
          · refine r_iload_n C dX7_can_58 rfl 2 rfl ?_
            refine r_aload_n C dX7_can_59 rfl 0 rfl ?_
            refine rm_get (v := .int (nI sr)) C 12 (by decide) wF_X7_69 rfl dX7_can_60 ?_
            refine r_icmp_gtN (tgt := 70) C dX7_can_63 (by decide) (by omega) (by omega) (fun c63 => ?_) (fun c63 => ?_)
            · refine r_iconst (v := nI 0) C dX7_can_70 (by decide) ?_
              exact r_zret C (by decide) hr hlocks (Nat.le_of_ble_eq_true rfl) (Nat.le_of_ble_eq_true rfl) dX7_can_71 (hpo _ _ _ ⟨bI_f (by first | (subst c29; simp [al, c39]; done) | (simp [al, c29, c55, c63]; done) | (simp [al, c29, c55]; done) | (simp [al, c29, c55]; omega)), rfl, rfl⟩)
            · refine r_iconst (v := nI 1) C dX7_can_66 (by decide) ?_
              refine r_goto (tgt := 71) C dX7_can_67 (by decide) ?_
              exact r_zret C (by decide) hr hlocks (Nat.le_of_ble_eq_true rfl) (Nat.le_of_ble_eq_true rfl) dX7_can_71 (hpo _ _ _ ⟨bI_t (by first | (subst c29; simp [al, c39]; done) | (simp [al, c29, c55, c63]; done) | (simp [al, c29, c55]; done) | (simp [al, c29, c55]; omega)), rfl, rfl⟩)
        · refine r_aload_n C dX7_can_32 rfl 0 rfl ?_
          refine r_iload_n C dX7_can_33 rfl 1 rfl ?_
          refine r_iconst (v := nI 1) C dX7_can_34 (by decide) ?_
          refine r_isubN C dX7_can_35 (by omega) ?_
          refine r_callV (As := [.int (nI (k - 1))]) C (c_X7_isJoined (kd := kd) (N := N) (o := o) (sd := sd) (q := k - 1) (by first | assumption | omega) (by first | assumption | omega) (by first | assumption | omega) (by first | assumption | omega) (by first | assumption | omega) (by first | assumption | omega) (by first | assumption | omega)) wM_X7_80 wI_X7_isJoined wN_X7 wC_X7_isJoined wV_X7_isJoined hd_X7_isJoined ⟨Nat.le_of_ble_eq_true rfl, Nat.le_of_ble_eq_true rfl⟩ rfl (mW_o _ _ _ _ _) rfl rfl (Nat.le_of_ble_eq_true rfl) dX7_can_36 ⟨Nat.le_of_ble_eq_true rfl, Nat.le_of_ble_eq_true rfl⟩ (fun rv n2 σ2 hp => ?_)
          obtain ⟨rfl, rfl, rfl⟩ := hp
          refine V.eq (σ2 := (mW G σ m0 [xstates, xtyped, xat, xreason, xdone, nI kd, nI N, nI sr] [fs, fwas, fbegun, faside, ftext, fsize, fburnt, fnext, ffar, fthen, fqueue, frankAt, fturnAt])) (n2 := n) (st2 := [.int (bI (jn (sid kd) N o sd (k - 1)))]) rfl rfl rfl rfl ?_
          refine r_if_neB (tgt := 46) C dX7_can_39 (by decide) (fun c39 => ?_) (fun c39 => ?_)
          · refine r_iconst (v := nI 0) C dX7_can_46 (by decide) ?_
            refine r_goto (tgt := 71) C dX7_can_47 (by decide) ?_
            exact r_zret C (by decide) hr hlocks (Nat.le_of_ble_eq_true rfl) (Nat.le_of_ble_eq_true rfl) dX7_can_71 (hpo _ _ _ ⟨bI_f (by first | (subst c29; simp [al, c39]; done) | (simp [al, c29, c55, c63]; done) | (simp [al, c29, c55]; done) | (simp [al, c29, c55]; omega)), rfl, rfl⟩)
          · refine r_iconst (v := nI 1) C dX7_can_42 (by decide) ?_
            refine r_goto (tgt := 71) C dX7_can_43 (by decide) ?_
            exact r_zret C (by decide) hr hlocks (Nat.le_of_ble_eq_true rfl) (Nat.le_of_ble_eq_true rfl) dX7_can_71 (hpo _ _ _ ⟨bI_t (by first | (subst c29; simp [al, c39]; done) | (simp [al, c29, c55, c63]; done) | (simp [al, c29, c55]; done) | (simp [al, c29, c55]; omega)), rfl, rfl⟩)
      · refine r_iload_n C dX7_can_9 rfl 2 rfl ?_
        refine r_aload_n C dX7_can_10 rfl 0 rfl ?_
        refine rm_get (v := .ref (m0 + 6)) C 13 (by decide) wF_X7_26 rfl dX7_can_11 ?_
        refine r_iload_n C dX7_can_14 rfl 3 rfl ?_
        refine rm_ald (f := fsize) (len := 6) C 5 rfl rfl (by decide) (by omega) dX7_can_15 ?_
        have hzr := sz_rng hN ho (show i < N by omega)
        refine V.top (y := nI (sz N o i)) (hz i (by omega)) ?_
        refine r_iaddN C dX7_can_16 ?_
        refine r_istore_n (lv2 := [(2, .int (nI (wt N o i + (sz N o i)))), (0, .ref m0), (1, .int (nI k)), (3, .int (nI i))]) C dX7_can_17 rfl (by decide) rfl ?_
        refine r_iinc (v := nI (i + 1)) (lv2 := [(3, .int (nI (i + 1))), (2, .int (nI (wt N o i + (sz N o i)))), (0, .ref m0), (1, .int (nI k))]) C dX7_can_18 (k := 3) rfl (nI_add _ 1) (by decide) rfl ?_
        refine r_goto (tgt := 4) C dX7_can_21 (by decide) ?_
        refine V.sub (lv2 := [(0, .ref m0), (1, .int (nI k)), (2, .int (nI (wt N o i + (sz N o i)))), (3, .int (nI (i + 1)))]) [2, 3, 1, 0] rfl ?_
        refine V.eq (σ2 := (mW G σ m0 [xstates, xtyped, xat, xreason, xdone, nI kd, nI N, nI sr] [fs, fwas, fbegun, faside, ftext, fsize, fburnt, fnext, ffar, fthen, fqueue, frankAt, fturnAt])) (lv2 := [(0, .ref m0), (1, .int (nI k)), (2, .int (nI (wt N o (i + 1)))), (3, .int (nI (i + 1)))]) (st2 := []) rfl rfl (by rw [(show nI (wt N o i + (sz N o i)) = nI (wt N o (i + 1)) from rfl)]) rfl ?_
        exact ih4 (i + 1) (by omega) (by omega)
  refine V.sub (lv2 := [(0, .ref m0), (1, .int (nI k)), (2, .int (nI 0)), (3, .int (nI 0))]) [2, 3, 1, 0] rfl ?_
  refine V.eq (σ2 := (mW G σ m0 [xstates, xtyped, xat, xreason, xdone, nI kd, nI N, nI sr] [fs, fwas, fbegun, faside, ftext, fsize, fburnt, fnext, ffar, fthen, fqueue, frankAt, fturnAt])) (lv2 := [(0, .ref m0), (1, .int (nI k)), (2, .int (nI (wt N o 0))), (3, .int (nI 0))]) (st2 := []) rfl rfl (by rw [(show nI 0 = nI (wt N o 0) from rfl)]) rfl ?_
  exact L4 _ 0 (by omega) (Nat.lt_succ_self _)

abbrev rm_X7_turns : Room := { frames := 1, cells := 0, slots := 0, locals := 20 }
set_option maxRecDepth 100000 in
set_option maxHeartbeats 4000000 in
theorem c_X7_turns {l : Launch} {G : gG} {n : Nat} {σ : gS} {m0 : Nat} {xstates xtyped xat xreason xdone xstrength : Int32} {fs fwas fbegun faside ftext fsize fburnt fnext ffar fthen fqueue frankAt fturnAt : Nat → Int32} {kd N o sd k : Nat} (hN : N ≤ 6) (hN1 : 1 ≤ N) (ho : o < fac N) (hz : ∀ j, j < N → fsize j = nI (sz N o j)) (hb : ∀ j, j < N → fburnt j = nI (bt sd j)) (hkd : kd < 4) (hs : sd < sm (sid kd) N) (hk1 : 1 ≤ k) (hk : k ≤ N) : GM l G yX7_turns cX7_turns 7 none rm_X7_turns n (mW G σ m0 [xstates, xtyped, xat, xreason, xdone, nI kd, nI N, xstrength] [fs, fwas, fbegun, faside, ftext, fsize, fburnt, fnext, ffar, fthen, fqueue, frankAt, fturnAt]) [.ref m0, .int (nI k)] (fun rv n2 σ2 => (none : Option Value) = rv ∧ n = n2 ∧ ∃ (f2 : Nat → Int32) (g2 : Nat → Int32), (mW G σ m0 [xstates, xtyped, xat, xreason, xdone, nI kd, nI N, xstrength] [fs, fwas, fbegun, faside, ftext, f2, g2, fnext, ffar, fthen, fqueue, frankAt, fturnAt]) = σ2 ∧ (∀ j, j < N → f2 j = nI (sz N (tnO N o k) j)) ∧ (∀ j, j < N → g2 j = nI (bt (tnS (sid kd) sd k) j))) := by
  refine GM.intro (by decide +kernel) (Nat.le_of_ble_eq_true rfl) (fun p e s m args below meth c C hr hlocks hname po hpo => ?_)
  have C : Cx p s m args c cX7_turns 7 RX7 G := C
  refine r_aload_n C dX7_turns_0 rfl 0 rfl ?_
  refine rm_get (v := .int (nI kd)) C 10 (by decide) wF_X7_66 rfl dX7_turns_1 ?_
  refine r_callS (As := [.int (nI kd)]) C (c_X7_hasSides (kd := kd) (by first | assumption | omega)) wM_X7_76 wS_X7_hasSides wN_X7 wC_X7_hasSides hd_X7_hasSides ⟨Nat.le_of_ble_eq_true rfl, Nat.le_of_ble_eq_true rfl⟩ rfl rfl (Nat.le_of_ble_eq_true rfl) dX7_turns_4 ⟨Nat.le_of_ble_eq_true rfl, Nat.le_of_ble_eq_true rfl⟩ (fun rv n2 σ2 hp => ?_)
  obtain ⟨rfl, rfl, rfl⟩ := hp
  refine V.eq (σ2 := (mW G σ m0 [xstates, xtyped, xat, xreason, xdone, nI kd, nI N, xstrength] [fs, fwas, fbegun, faside, ftext, fsize, fburnt, fnext, ffar, fthen, fqueue, frankAt, fturnAt])) (n2 := n) (st2 := [.int (bI (sid kd))]) rfl rfl rfl rfl ?_
  have L15 : ∀ (fl : Nat), (fl = (sid kd).toNat) → V p l e rm_X7_turns s m args below meth c G 7 (MQ below (gQ G po) args s rm_X7_turns.cells rm_X7_turns.slots (gF G)) 0 0 n (mW G σ m0 [xstates, xtyped, xat, xreason, xdone, nI kd, nI N, xstrength] [fs, fwas, fbegun, faside, ftext, fsize, fburnt, fnext, ffar, fthen, fqueue, frankAt, fturnAt]) 15 [(0, .ref m0), (1, .int (nI k))] [.int (nI fl)] := by
    intro fl hfl
    refine r_istore_n (lv2 := [(2, .int (nI fl)), (0, .ref m0), (1, .int (nI k))]) C dX7_turns_15 rfl (by decide) rfl ?_
    refine r_iconst (v := nI 0) C dX7_turns_16 (by decide) ?_
    refine r_istore_n (lv2 := [(3, .int (nI 0)), (2, .int (nI fl)), (0, .ref m0), (1, .int (nI k))]) C dX7_turns_17 rfl (by decide) rfl ?_
    have L18 : ∀ (fu : Nat) (i : Nat) (f : Nat → Int32) (g : Nat → Int32), (i ≤ (k + 1) / 2) → (∀ j, j < N → f j = nI (if j < i ∨ (k - i ≤ j ∧ j < k) then sz N o (k - 1 - j) else sz N o j)) → (∀ j, j < N → g j = nI (if j < i ∨ (k - i ≤ j ∧ j < k) then bt sd (k - 1 - j) ^^^ fl else bt sd j)) → (k + 1 - i) < fu → V p l e rm_X7_turns s m args below meth c G 7 (MQ below (gQ G po) args s rm_X7_turns.cells rm_X7_turns.slots (gF G)) 0 0 n (mW G σ m0 [xstates, xtyped, xat, xreason, xdone, nI kd, nI N, xstrength] [fs, fwas, fbegun, faside, ftext, f, g, fnext, ffar, fthen, fqueue, frankAt, fturnAt]) 18 [(0, .ref m0), (1, .int (nI k)), (2, .int (nI fl)), (3, .int (nI i))] [] := by
      intro fu
      induction fu with
      | zero => intro i f g hi hf hg hm; exact absurd hm (Nat.not_lt_zero _)
      | succ fu ih18 =>
        intro i f g hi hf hg hm18
        refine r_iload_n C dX7_turns_18 rfl 3 rfl ?_
        refine r_iload_n C dX7_turns_19 rfl 1 rfl ?_
        refine r_iconst (v := nI 1) C dX7_turns_20 (by decide) ?_
        refine r_iaddN C dX7_turns_21 ?_
        refine r_iconst (v := nI 2) C dX7_turns_22 (by decide) ?_
        refine r_idivN C dX7_turns_23 (by omega) (by decide) (by decide) ?_
        refine r_icmp_geN (tgt := 104) C dX7_turns_24 (by decide) (by omega) (by omega) (fun c24 => ?_) (fun c24 => ?_)
        · have hik : i = (k + 1) / 2 := by omega
          exact r_vret C hr hlocks (Nat.le_of_ble_eq_true rfl) (Nat.le_of_ble_eq_true rfl) dX7_turns_104 (hpo _ _ _ ⟨rfl, rfl, f, g, rfl, fun j hj => by rw [hf j hj, tnO_sz hN ho hk hj]; congr 1; rcases Nat.lt_or_ge j k with h | h; (rw [if_pos h, if_pos (by omega)]); (rw [if_neg (by omega), if_neg (by omega)]), fun j hj => by rw [hg j hj, tnS_bt hN hs hk hj, hfl]; congr 1; rcases Nat.lt_or_ge j k with h | h; (rw [if_pos h, if_pos (by omega)]); (rw [if_neg (by omega), if_neg (by omega)])⟩)
        · refine r_iload_n C dX7_turns_27 rfl 1 rfl ?_
          refine r_iconst (v := nI 1) C dX7_turns_28 (by decide) ?_
          refine r_isubN C dX7_turns_29 (by omega) ?_
          refine r_iload_n C dX7_turns_30 rfl 3 rfl ?_
          refine r_isubN C dX7_turns_31 (by omega) ?_
          refine r_istore (lv2 := [(4, .int (nI ((k - 1) - i))), (0, .ref m0), (1, .int (nI k)), (2, .int (nI fl)), (3, .int (nI i))]) C dX7_turns_32 (by decide) rfl ?_
          refine r_aload_n C dX7_turns_34 rfl 1 rfl ?_
          refine rm_get (v := .ref (m0 + 6)) C 13 (by decide) wF_X7_26 rfl dX7_turns_35 ?_
          refine r_iload_n C dX7_turns_38 rfl 4 rfl ?_
          refine rm_ald (f := f) (len := 6) C 5 rfl rfl (by decide) (by omega) dX7_turns_39 ?_
          refine V.top (y := nI (sz N o i)) (by rw [hf _ (by omega), if_neg (by omega)]) ?_
          refine r_istore (lv2 := [(5, .int (nI (sz N o i))), (4, .int (nI ((k - 1) - i))), (0, .ref m0), (1, .int (nI k)), (2, .int (nI fl)), (3, .int (nI i))]) C dX7_turns_40 (by decide) rfl ?_
          refine r_aload_n C dX7_turns_42 rfl 2 rfl ?_
          refine rm_get (v := .ref (m0 + 7)) C 14 (by decide) wF_X7_29 rfl dX7_turns_43 ?_
          refine r_iload_n C dX7_turns_46 rfl 5 rfl ?_
          refine rm_ald (f := g) (len := 6) C 6 rfl rfl (by decide) (by omega) dX7_turns_47 ?_
          refine V.top (y := nI (bt sd i)) (by rw [hg _ (by omega), if_neg (by omega)]) ?_
          refine r_istore (lv2 := [(6, .int (nI (bt sd i))), (5, .int (nI (sz N o i))), (4, .int (nI ((k - 1) - i))), (0, .ref m0), (1, .int (nI k)), (2, .int (nI fl)), (3, .int (nI i))]) C dX7_turns_48 (by decide) rfl ?_
          refine r_aload_n C dX7_turns_50 rfl 3 rfl ?_
          refine rm_get (v := .ref (m0 + 6)) C 13 (by decide) wF_X7_26 rfl dX7_turns_51 ?_
          refine r_iload_n C dX7_turns_54 rfl 6 rfl ?_
          refine r_aload_n C dX7_turns_55 rfl 3 rfl ?_
          refine rm_get (v := .ref (m0 + 6)) C 13 (by decide) wF_X7_26 rfl dX7_turns_56 ?_
          refine r_iload C dX7_turns_59 2 rfl ?_
          refine rm_ald (f := f) (len := 6) C 5 rfl rfl (by decide) (by omega) dX7_turns_61 ?_
          refine V.top (y := nI (sz N o ((k - 1) - i))) (by rw [hf _ (by omega), if_neg (by omega)]) ?_
          refine rm_ast (f := f) (len := 6) (A2 := [fs, fwas, fbegun, faside, ftext, (upd f i (nI (sz N o ((k - 1) - i)))), g, fnext, ffar, fthen, fqueue, frankAt, fturnAt]) C 5 rfl rfl (by decide) (by omega) rfl rfl dX7_turns_62 ?_
          refine r_aload_n C dX7_turns_63 rfl 3 rfl ?_
          refine rm_get (v := .ref (m0 + 7)) C 14 (by decide) wF_X7_29 rfl dX7_turns_64 ?_
          refine r_iload_n C dX7_turns_67 rfl 6 rfl ?_
          refine r_aload_n C dX7_turns_68 rfl 3 rfl ?_
          refine rm_get (v := .ref (m0 + 7)) C 14 (by decide) wF_X7_29 rfl dX7_turns_69 ?_
          refine r_iload C dX7_turns_72 2 rfl ?_
          refine rm_ald (f := g) (len := 6) C 6 rfl rfl (by decide) (by omega) dX7_turns_74 ?_
          refine V.top (y := nI (bt sd ((k - 1) - i))) (by rw [hg _ (by omega), if_neg (by omega)]) ?_
          refine r_iload_n C dX7_turns_75 rfl 5 rfl ?_
          refine r_ixorN C dX7_turns_76 ?_
          refine rm_ast (f := g) (len := 6) (A2 := [fs, fwas, fbegun, faside, ftext, (upd f i (nI (sz N o ((k - 1) - i)))), (upd g i (nI ((bt sd ((k - 1) - i)) ^^^ fl))), fnext, ffar, fthen, fqueue, frankAt, fturnAt]) C 6 rfl rfl (by decide) (by omega) rfl rfl dX7_turns_77 ?_
          refine r_aload_n C dX7_turns_78 rfl 3 rfl ?_
          refine rm_get (v := .ref (m0 + 6)) C 13 (by decide) wF_X7_26 rfl dX7_turns_79 ?_
          refine r_iload C dX7_turns_82 2 rfl ?_
          refine r_iload C dX7_turns_84 1 rfl ?_
          refine rm_ast (f := (upd f i (nI (sz N o ((k - 1) - i))))) (len := 6) (A2 := [fs, fwas, fbegun, faside, ftext, (upd (upd f i (nI (sz N o ((k - 1) - i)))) ((k - 1) - i) (nI (sz N o i))), (upd g i (nI ((bt sd ((k - 1) - i)) ^^^ fl))), fnext, ffar, fthen, fqueue, frankAt, fturnAt]) C 5 rfl rfl (by decide) (by omega) rfl rfl dX7_turns_86 ?_
          refine r_aload_n C dX7_turns_87 rfl 3 rfl ?_
          refine rm_get (v := .ref (m0 + 7)) C 14 (by decide) wF_X7_29 rfl dX7_turns_88 ?_
          refine r_iload C dX7_turns_91 2 rfl ?_
          refine r_iload C dX7_turns_93 0 rfl ?_
          refine r_iload_n C dX7_turns_95 rfl 5 rfl ?_
          refine r_ixorN C dX7_turns_96 ?_
          refine rm_ast (f := (upd g i (nI ((bt sd ((k - 1) - i)) ^^^ fl)))) (len := 6) (A2 := [fs, fwas, fbegun, faside, ftext, (upd (upd f i (nI (sz N o ((k - 1) - i)))) ((k - 1) - i) (nI (sz N o i))), (upd (upd g i (nI ((bt sd ((k - 1) - i)) ^^^ fl))) ((k - 1) - i) (nI ((bt sd i) ^^^ fl))), fnext, ffar, fthen, fqueue, frankAt, fturnAt]) C 6 rfl rfl (by decide) (by omega) rfl rfl dX7_turns_97 ?_
          refine r_iinc (v := nI (i + 1)) (lv2 := [(3, .int (nI (i + 1))), (6, .int (nI (bt sd i))), (5, .int (nI (sz N o i))), (4, .int (nI ((k - 1) - i))), (0, .ref m0), (1, .int (nI k)), (2, .int (nI fl))]) C dX7_turns_98 (k := 6) rfl (nI_add _ 1) (by decide) rfl ?_
          refine r_goto (tgt := 18) C dX7_turns_101 (by decide) ?_
          refine V.sub (lv2 := [(0, .ref m0), (1, .int (nI k)), (2, .int (nI fl)), (3, .int (nI (i + 1)))]) [4, 5, 6, 0] rfl ?_
          exact ih18 (i + 1) (upd (upd f i (nI (sz N o ((k - 1) - i)))) ((k - 1) - i) (nI (sz N o i))) (upd (upd g i (nI ((bt sd ((k - 1) - i)) ^^^ fl))) ((k - 1) - i) (nI ((bt sd i) ^^^ fl))) (by omega) (fun j hj => swp_step (by omega) (by omega) hj (fun a ha => hf a ha)) (fun j hj => swp_stepX (by omega) (by omega) hj (fun a ha => hg a ha)) (by omega)
    refine V.sub (lv2 := [(0, .ref m0), (1, .int (nI k)), (2, .int (nI fl)), (3, .int (nI 0))]) [2, 3, 1, 0] rfl ?_
    exact L18 _ 0 fsize fburnt (by omega) (fun j hj => by rw [hz j hj, if_neg (by omega)]) (fun j hj => by rw [hb j hj, if_neg (by omega)]) (Nat.lt_succ_self _)
  refine r_if_eqB (tgt := 14) C dX7_turns_7 (by decide) (fun c7 => ?_) (fun c7 => ?_)
  · refine r_iconst (v := nI 0) C dX7_turns_14 (by decide) ?_
    exact L15 0 (by rw [c7]; rfl)
  · refine r_iconst (v := nI 1) C dX7_turns_10 (by decide) ?_
    refine r_goto (tgt := 15) C dX7_turns_11 (by decide) ?_
    exact L15 1 (by rw [c7]; rfl)

abbrev rm_X7_all : Room := { frames := 1, cells := 0, slots := 0, locals := 22 }
set_option maxRecDepth 100000 in
set_option maxHeartbeats 4000000 in
theorem c_X7_all {l : Launch} {G : gG} {n : Nat} {σ : gS} {m0 : Nat} {xstates xtyped xat xreason xdone xstrength : Int32} {fs fwas fbegun faside ftext fsize fburnt fnext ffar fthen fqueue frankAt fturnAt : Nat → Int32} {kd N : Nat} (hN : N ≤ 6) (hkd : kd < 4) : GM l G yX7_all cX7_all 1 (some .int) rm_X7_all n (mW G σ m0 [xstates, xtyped, xat, xreason, xdone, nI kd, nI N, xstrength] [fs, fwas, fbegun, faside, ftext, fsize, fburnt, fnext, ffar, fthen, fqueue, frankAt, fturnAt]) [.ref m0] (fun rv n2 σ2 => some (.int (nI (fac N * sm (sid kd) N))) = rv ∧ n = n2 ∧ (mW G σ m0 [xstates, xtyped, xat, xreason, xdone, nI kd, nI N, xstrength] [fs, fwas, fbegun, faside, ftext, fsize, fburnt, fnext, ffar, fthen, fqueue, frankAt, fturnAt]) = σ2) := by
  refine GM.intro (by decide +kernel) (Nat.le_of_ble_eq_true rfl) (fun p e s m args below meth c C hr hlocks hname po hpo => ?_)
  have C : Cx p s m args c cX7_all 1 RX7 G := C
  refine r_aload_n C dX7_all_0 rfl 0 rfl ?_
  refine rm_get (v := .int (nI kd)) C 10 (by decide) wF_X7_66 rfl dX7_all_1 ?_
  refine r_callS (As := [.int (nI kd)]) C (c_X7_hasSides (kd := kd) (by first | assumption | omega)) wM_X7_76 wS_X7_hasSides wN_X7 wC_X7_hasSides hd_X7_hasSides ⟨Nat.le_of_ble_eq_true rfl, Nat.le_of_ble_eq_true rfl⟩ rfl rfl (Nat.le_of_ble_eq_true rfl) dX7_all_4 ⟨Nat.le_of_ble_eq_true rfl, Nat.le_of_ble_eq_true rfl⟩ (fun rv n2 σ2 hp => ?_)
  obtain ⟨rfl, rfl, rfl⟩ := hp
  refine V.eq (σ2 := (mW G σ m0 [xstates, xtyped, xat, xreason, xdone, nI kd, nI N, xstrength] [fs, fwas, fbegun, faside, ftext, fsize, fburnt, fnext, ffar, fthen, fqueue, frankAt, fturnAt])) (n2 := n) (st2 := [.int (bI (sid kd))]) rfl rfl rfl rfl ?_
  refine r_if_eqB (tgt := 25) C dX7_all_7 (by decide) (fun c7 => ?_) (fun c7 => ?_)
  · refine r_aload_n C dX7_all_25 rfl 0 rfl ?_
    refine rm_get (v := .int (nI N)) C 11 (by decide) wF_X7_59 rfl dX7_all_26 ?_
    refine r_callS (As := [.int (nI N)]) C (c_X7_factorial (w := N) (by first | assumption | omega)) wM_X7_83 wS_X7_factorial wN_X7 wC_X7_factorial hd_X7_factorial ⟨Nat.le_of_ble_eq_true rfl, Nat.le_of_ble_eq_true rfl⟩ rfl rfl (Nat.le_of_ble_eq_true rfl) dX7_all_29 ⟨Nat.le_of_ble_eq_true rfl, Nat.le_of_ble_eq_true rfl⟩ (fun rv n2 σ2 hp => ?_)
    obtain ⟨rfl, rfl, rfl⟩ := hp
    refine V.eq (σ2 := (mW G σ m0 [xstates, xtyped, xat, xreason, xdone, nI kd, nI N, xstrength] [fs, fwas, fbegun, faside, ftext, fsize, fburnt, fnext, ffar, fthen, fqueue, frankAt, fturnAt])) (n2 := n) (st2 := [.int (nI (fac N))]) rfl rfl rfl rfl ?_
    exact r_iret C hr hlocks (Nat.le_of_ble_eq_true rfl) (Nat.le_of_ble_eq_true rfl) dX7_all_32 (hpo _ _ _ ⟨by simp [sm, c7], rfl, rfl⟩)
  · refine r_aload_n C dX7_all_10 rfl 0 rfl ?_
    refine rm_get (v := .int (nI N)) C 11 (by decide) wF_X7_59 rfl dX7_all_11 ?_
    refine r_callS (As := [.int (nI N)]) C (c_X7_factorial (w := N) (by first | assumption | omega)) wM_X7_83 wS_X7_factorial wN_X7 wC_X7_factorial hd_X7_factorial ⟨Nat.le_of_ble_eq_true rfl, Nat.le_of_ble_eq_true rfl⟩ rfl rfl (Nat.le_of_ble_eq_true rfl) dX7_all_14 ⟨Nat.le_of_ble_eq_true rfl, Nat.le_of_ble_eq_true rfl⟩ (fun rv n2 σ2 hp => ?_)
    obtain ⟨rfl, rfl, rfl⟩ := hp
    refine V.eq (σ2 := (mW G σ m0 [xstates, xtyped, xat, xreason, xdone, nI kd, nI N, xstrength] [fs, fwas, fbegun, faside, ftext, fsize, fburnt, fnext, ffar, fthen, fqueue, frankAt, fturnAt])) (n2 := n) (st2 := [.int (nI (fac N))]) rfl rfl rfl rfl ?_
    refine r_aload_n C dX7_all_17 rfl 0 rfl ?_
    refine rm_get (v := .int (nI N)) C 11 (by decide) wF_X7_59 rfl dX7_all_18 ?_
    refine r_ishlN C dX7_all_21 (by omega) ?_
    refine r_goto (tgt := 32) C dX7_all_22 (by decide) ?_
    exact r_iret C hr hlocks (Nat.le_of_ble_eq_true rfl) (Nat.le_of_ble_eq_true rfl) dX7_all_32 (hpo _ _ _ ⟨by simp [sm, c7], rfl, rfl⟩)

abbrev rm_X7_rank : Room := { frames := 1, cells := 0, slots := 0, locals := 22 }
set_option maxRecDepth 100000 in
set_option maxHeartbeats 4000000 in
theorem c_X7_rank {l : Launch} {G : gG} {n : Nat} {σ : gS} {m0 : Nat} {xstates xtyped xat xreason xdone xstrength : Int32} {fs fwas fbegun faside ftext fsize fburnt fnext ffar fthen fqueue frankAt fturnAt : Nat → Int32} {kd N o sd : Nat} (hN : N ≤ 6) (hN1 : 1 ≤ N) (ho : o < fac N) (hz : ∀ j, j < N → fsize j = nI (sz N o j)) (hb : ∀ j, j < N → fburnt j = nI (bt sd j)) (hkd : kd < 4) (hs : sd < sm (sid kd) N) : GM l G yX7_rank cX7_rank 5 (some .int) rm_X7_rank n (mW G σ m0 [xstates, xtyped, xat, xreason, xdone, nI kd, nI N, xstrength] [fs, fwas, fbegun, faside, ftext, fsize, fburnt, fnext, ffar, fthen, fqueue, frankAt, fturnAt]) [.ref m0] (fun rv n2 σ2 => some (.int (nI (rk (sid kd) N o sd))) = rv ∧ n = n2 ∧ (mW G σ m0 [xstates, xtyped, xat, xreason, xdone, nI kd, nI N, xstrength] [fs, fwas, fbegun, faside, ftext, fsize, fburnt, fnext, ffar, fthen, fqueue, frankAt, fturnAt]) = σ2) := by
  refine GM.intro (by decide +kernel) (Nat.le_of_ble_eq_true rfl) (fun p e s m args below meth c C hr hlocks hname po hpo => ?_)
  have C : Cx p s m args c cX7_rank 5 RX7 G := C
  refine r_iconst (v := nI 0) C dX7_rank_0 (by decide) ?_
  refine r_istore_n (lv2 := [(1, .int (nI 0)), (0, .ref m0)]) C dX7_rank_1 rfl (by decide) rfl ?_
  refine r_iconst (v := nI 0) C dX7_rank_2 (by decide) ?_
  refine r_istore_n (lv2 := [(2, .int (nI 0)), (1, .int (nI 0)), (0, .ref m0)]) C dX7_rank_3 rfl (by decide) rfl ?_
  have L4 : ∀ (fu : Nat) (i : Nat), (i ≤ N) → (N + 1 - i) < fu → V p l e rm_X7_rank s m args below meth c G 5 (MQ below (gQ G po) args s rm_X7_rank.cells rm_X7_rank.slots (gF G)) 0 0 n (mW G σ m0 [xstates, xtyped, xat, xreason, xdone, nI kd, nI N, xstrength] [fs, fwas, fbegun, faside, ftext, fsize, fburnt, fnext, ffar, fthen, fqueue, frankAt, fturnAt]) 4 [(0, .ref m0), (1, .int (nI (lvp N o i))), (2, .int (nI i))] [] := by
    intro fu
    induction fu with
    | zero => intro i hi hm; exact absurd hm (Nat.not_lt_zero _)
    | succ fu ih4 =>
      intro i hi hm4
      refine r_iload_n C dX7_rank_4 rfl 2 rfl ?_
      refine r_aload_n C dX7_rank_5 rfl 0 rfl ?_
      refine rm_get (v := .int (nI N)) C 11 (by decide) wF_X7_59 rfl dX7_rank_6 ?_
      refine r_icmp_geN (tgt := 75) C dX7_rank_9 (by decide) (by omega) (by omega) (fun c9 => ?_) (fun c9 => ?_)
      · have hiN : i = N := by omega
        refine V.eq (lv2 := [(0, .ref m0), (1, .int (nI o)), (2, .int (nI i))]) rfl rfl (by rw [(show nI (lvp N o i) = nI o from by rw [hiN, lvp_N hN ho])]) rfl ?_
        refine r_aload_n C dX7_rank_75 rfl 0 rfl ?_
        refine rm_get (v := .int (nI kd)) C 10 (by decide) wF_X7_66 rfl dX7_rank_76 ?_
        refine r_callS (As := [.int (nI kd)]) C (c_X7_hasSides (kd := kd) (by first | assumption | omega)) wM_X7_76 wS_X7_hasSides wN_X7 wC_X7_hasSides hd_X7_hasSides ⟨Nat.le_of_ble_eq_true rfl, Nat.le_of_ble_eq_true rfl⟩ rfl rfl (Nat.le_of_ble_eq_true rfl) dX7_rank_79 ⟨Nat.le_of_ble_eq_true rfl, Nat.le_of_ble_eq_true rfl⟩ (fun rv n2 σ2 hp => ?_)
        obtain ⟨rfl, rfl, rfl⟩ := hp
        refine V.eq (σ2 := (mW G σ m0 [xstates, xtyped, xat, xreason, xdone, nI kd, nI N, xstrength] [fs, fwas, fbegun, faside, ftext, fsize, fburnt, fnext, ffar, fthen, fqueue, frankAt, fturnAt])) (n2 := n) (st2 := [.int (bI (sid kd))]) rfl rfl rfl rfl ?_
        refine r_if_eqB (tgt := 99) C dX7_rank_82 (by decide) (fun c82 => ?_) (fun c82 => ?_)
        · refine r_iload_n C dX7_rank_99 rfl 1 rfl ?_
          exact r_iret C hr hlocks (Nat.le_of_ble_eq_true rfl) (Nat.le_of_ble_eq_true rfl) dX7_rank_100 (hpo _ _ _ ⟨by simp [rk, c82], rfl, rfl⟩)
        · refine r_iload_n C dX7_rank_85 rfl 1 rfl ?_
          refine r_aload_n C dX7_rank_86 rfl 0 rfl ?_
          refine rm_get (v := .int (nI N)) C 11 (by decide) wF_X7_59 rfl dX7_rank_87 ?_
          refine r_ishlN C dX7_rank_90 (by omega) ?_
          refine r_aload_n C dX7_rank_91 rfl 0 rfl ?_
          refine r_callV (As := []) C (c_X7_sides (N := N) (sd := sd) (by first | assumption | omega) (sm_two hs) (by first | assumption | omega)) wM_X7_87 wI_X7_sides wN_X7 wC_X7_sides wV_X7_sides hd_X7_sides ⟨Nat.le_of_ble_eq_true rfl, Nat.le_of_ble_eq_true rfl⟩ rfl (mW_o _ _ _ _ _) rfl rfl (Nat.le_of_ble_eq_true rfl) dX7_rank_92 ⟨Nat.le_of_ble_eq_true rfl, Nat.le_of_ble_eq_true rfl⟩ (fun rv n2 σ2 hp => ?_)
          obtain ⟨rfl, rfl, rfl⟩ := hp
          refine V.eq (σ2 := (mW G σ m0 [xstates, xtyped, xat, xreason, xdone, nI kd, nI N, xstrength] [fs, fwas, fbegun, faside, ftext, fsize, fburnt, fnext, ffar, fthen, fqueue, frankAt, fturnAt])) (n2 := n) (st2 := [.int (nI sd), .int (nI (o * 2 ^ N))]) rfl rfl rfl rfl ?_
          refine r_iaddN C dX7_rank_95 ?_
          refine r_goto (tgt := 100) C dX7_rank_96 (by decide) ?_
          exact r_iret C hr hlocks (Nat.le_of_ble_eq_true rfl) (Nat.le_of_ble_eq_true rfl) dX7_rank_100 (hpo _ _ _ ⟨by simp [rk, c82], rfl, rfl⟩)
      · refine r_iconst (v := nI 0) C dX7_rank_12 (by decide) ?_
        refine r_istore_n (lv2 := [(3, .int (nI 0)), (0, .ref m0), (1, .int (nI (lvp N o i))), (2, .int (nI i))]) C dX7_rank_13 rfl (by decide) rfl ?_
        refine r_iload_n C dX7_rank_14 rfl 3 rfl ?_
        refine r_iconst (v := nI 1) C dX7_rank_15 (by decide) ?_
        refine r_iaddN C dX7_rank_16 ?_
        refine r_istore (lv2 := [(4, .int (nI (i + 1))), (3, .int (nI 0)), (0, .ref m0), (1, .int (nI (lvp N o i))), (2, .int (nI i))]) C dX7_rank_17 (by decide) rfl ?_
        have L19 : ∀ (fu : Nat) (j : Nat), (j ≤ N - 1 - i) → (N + 1 - j) < fu → V p l e rm_X7_rank s m args below meth c G 5 (MQ below (gQ G po) args s rm_X7_rank.cells rm_X7_rank.slots (gF G)) 0 0 n (mW G σ m0 [xstates, xtyped, xat, xreason, xdone, nI kd, nI N, xstrength] [fs, fwas, fbegun, faside, ftext, fsize, fburnt, fnext, ffar, fthen, fqueue, frankAt, fturnAt]) 19 [(0, .ref m0), (1, .int (nI (lvp N o i))), (2, .int (nI i)), (3, .int (nI (lsp N o i j))), (4, .int (nI (i + 1 + j)))] [] := by
          intro fu
          induction fu with
          | zero => intro j hj hm; exact absurd hm (Nat.not_lt_zero _)
          | succ fu ih19 =>
            intro j hj hm19
            refine r_iload C dX7_rank_19 4 rfl ?_
            refine r_aload_n C dX7_rank_21 rfl 0 rfl ?_
            refine rm_get (v := .int (nI N)) C 11 (by decide) wF_X7_59 rfl dX7_rank_22 ?_
            refine r_icmp_geN (tgt := 58) C dX7_rank_25 (by decide) (by omega) (by omega) (fun c25 => ?_) (fun c25 => ?_)
            · have hj9 : j = N - 1 - i := by omega
              refine r_iload_n C dX7_rank_58 rfl 1 rfl ?_
              refine r_aload_n C dX7_rank_59 rfl 0 rfl ?_
              refine rm_get (v := .int (nI N)) C 11 (by decide) wF_X7_59 rfl dX7_rank_60 ?_
              refine r_iload_n C dX7_rank_63 rfl 2 rfl ?_
              refine r_isubN C dX7_rank_64 (by omega) ?_
              refine r_imulN C dX7_rank_65 ?_
              refine r_iload_n C dX7_rank_66 rfl 3 rfl ?_
              refine r_iaddN C dX7_rank_67 ?_
              refine r_istore_n (lv2 := [(1, .int (nI (((lvp N o i) * (N - i)) + (lsp N o i j)))), (0, .ref m0), (2, .int (nI i)), (3, .int (nI (lsp N o i j))), (4, .int (nI (i + 1 + j)))]) C dX7_rank_68 rfl (by decide) rfl ?_
              refine r_iinc (v := nI (i + 1)) (lv2 := [(2, .int (nI (i + 1))), (1, .int (nI (((lvp N o i) * (N - i)) + (lsp N o i j)))), (0, .ref m0), (3, .int (nI (lsp N o i j))), (4, .int (nI (i + 1 + j)))]) C dX7_rank_69 (k := 2) rfl (nI_add _ 1) (by decide) rfl ?_
              refine r_goto (tgt := 4) C dX7_rank_72 (by decide) ?_
              refine V.sub (lv2 := [(0, .ref m0), (1, .int (nI (((lvp N o i) * (N - i)) + (lsp N o i j)))), (2, .int (nI (i + 1)))]) [2, 1, 0] rfl ?_
              refine V.eq (σ2 := (mW G σ m0 [xstates, xtyped, xat, xreason, xdone, nI kd, nI N, xstrength] [fs, fwas, fbegun, faside, ftext, fsize, fburnt, fnext, ffar, fthen, fqueue, frankAt, fturnAt])) (lv2 := [(0, .ref m0), (1, .int (nI (lvp N o (i + 1)))), (2, .int (nI (i + 1)))]) (st2 := []) rfl rfl (by rw [(show nI (((lvp N o i) * (N - i)) + (lsp N o i j)) = nI (lvp N o (i + 1)) from by rw [hj9]; rfl)]) rfl ?_
              exact ih4 (i + 1) (by omega) (by omega)
            · refine r_iload_n C dX7_rank_28 rfl 3 rfl ?_
              refine r_aload_n C dX7_rank_29 rfl 0 rfl ?_
              refine rm_get (v := .ref (m0 + 6)) C 13 (by decide) wF_X7_26 rfl dX7_rank_30 ?_
              refine r_iload C dX7_rank_33 4 rfl ?_
              refine rm_ald (f := fsize) (len := 6) C 5 rfl rfl (by decide) (by omega) dX7_rank_35 ?_
              have hzr := sz_rng hN ho (show (i + 1 + j) < N by omega)
              refine V.top (y := nI (sz N o (i + 1 + j))) (hz (i + 1 + j) (by omega)) ?_
              refine r_aload_n C dX7_rank_36 rfl 0 rfl ?_
              refine rm_get (v := .ref (m0 + 6)) C 13 (by decide) wF_X7_26 rfl dX7_rank_37 ?_
              refine r_iload_n C dX7_rank_40 rfl 2 rfl ?_
              refine rm_ald (f := fsize) (len := 6) C 5 rfl rfl (by decide) (by omega) dX7_rank_41 ?_
              have hzr := sz_rng hN ho (show i < N by omega)
              refine V.top (y := nI (sz N o i)) (hz i (by omega)) ?_
              refine r_icmp_geN (tgt := 49) C dX7_rank_42 (by decide) (by omega) (by omega) (fun c42 => ?_) (fun c42 => ?_)
              · refine r_iconst (v := nI 0) C dX7_rank_49 (by decide) ?_
                refine r_iaddN C dX7_rank_50 ?_
                refine r_istore_n (lv2 := [(3, .int (nI (lsp N o i j + 0))), (0, .ref m0), (1, .int (nI (lvp N o i))), (2, .int (nI i)), (4, .int (nI (i + 1 + j)))]) C dX7_rank_51 rfl (by decide) rfl ?_
                refine r_iinc (v := nI (i + 1 + j + 1)) (lv2 := [(4, .int (nI (i + 1 + j + 1))), (3, .int (nI (lsp N o i j + 0))), (0, .ref m0), (1, .int (nI (lvp N o i))), (2, .int (nI i))]) C dX7_rank_52 (k := 4) rfl (nI_add _ 1) (by decide) rfl ?_
                refine r_goto (tgt := 19) C dX7_rank_55 (by decide) ?_
                refine V.sub (lv2 := [(0, .ref m0), (1, .int (nI (lvp N o i))), (2, .int (nI i)), (3, .int (nI (lsp N o i j + 0))), (4, .int (nI (i + 1 + j + 1)))]) [2, 3, 4, 1, 0] rfl ?_
                refine V.eq (σ2 := (mW G σ m0 [xstates, xtyped, xat, xreason, xdone, nI kd, nI N, xstrength] [fs, fwas, fbegun, faside, ftext, fsize, fburnt, fnext, ffar, fthen, fqueue, frankAt, fturnAt])) (lv2 := [(0, .ref m0), (1, .int (nI (lvp N o i))), (2, .int (nI i)), (3, .int (nI (lsp N o i (j + 1)))), (4, .int (nI (i + 1 + (j + 1))))]) (st2 := []) rfl rfl (by rw [(show nI (lsp N o i j + 0) = nI (lsp N o i (j + 1)) from by first | (simp [lsp, Nat.not_lt.mpr c42]; done) | (simp [lsp, c42]; done)), (show nI (i + 1 + j + 1) = nI (i + 1 + (j + 1)) from congrArg nI (show i + 1 + j + 1 = i + 1 + (j + 1) by omega))]) rfl ?_
                exact ih19 (j + 1) (by omega) (by omega)
              · refine r_iconst (v := nI 1) C dX7_rank_45 (by decide) ?_
                refine r_goto (tgt := 50) C dX7_rank_46 (by decide) ?_
                refine r_iaddN C dX7_rank_50 ?_
                refine r_istore_n (lv2 := [(3, .int (nI (lsp N o i j + 1))), (0, .ref m0), (1, .int (nI (lvp N o i))), (2, .int (nI i)), (4, .int (nI (i + 1 + j)))]) C dX7_rank_51 rfl (by decide) rfl ?_
                refine r_iinc (v := nI (i + 1 + j + 1)) (lv2 := [(4, .int (nI (i + 1 + j + 1))), (3, .int (nI (lsp N o i j + 1))), (0, .ref m0), (1, .int (nI (lvp N o i))), (2, .int (nI i))]) C dX7_rank_52 (k := 4) rfl (nI_add _ 1) (by decide) rfl ?_
                refine r_goto (tgt := 19) C dX7_rank_55 (by decide) ?_
                refine V.sub (lv2 := [(0, .ref m0), (1, .int (nI (lvp N o i))), (2, .int (nI i)), (3, .int (nI (lsp N o i j + 1))), (4, .int (nI (i + 1 + j + 1)))]) [2, 3, 4, 1, 0] rfl ?_
                refine V.eq (σ2 := (mW G σ m0 [xstates, xtyped, xat, xreason, xdone, nI kd, nI N, xstrength] [fs, fwas, fbegun, faside, ftext, fsize, fburnt, fnext, ffar, fthen, fqueue, frankAt, fturnAt])) (lv2 := [(0, .ref m0), (1, .int (nI (lvp N o i))), (2, .int (nI i)), (3, .int (nI (lsp N o i (j + 1)))), (4, .int (nI (i + 1 + (j + 1))))]) (st2 := []) rfl rfl (by rw [(show nI (lsp N o i j + 1) = nI (lsp N o i (j + 1)) from by first | (simp [lsp, Nat.not_lt.mpr c42]; done) | (simp [lsp, c42]; done)), (show nI (i + 1 + j + 1) = nI (i + 1 + (j + 1)) from congrArg nI (show i + 1 + j + 1 = i + 1 + (j + 1) by omega))]) rfl ?_
                exact ih19 (j + 1) (by omega) (by omega)
        refine V.sub (lv2 := [(0, .ref m0), (1, .int (nI (lvp N o i))), (2, .int (nI i)), (3, .int (nI 0)), (4, .int (nI (i + 1)))]) [2, 3, 4, 1, 0] rfl ?_
        refine V.eq (σ2 := (mW G σ m0 [xstates, xtyped, xat, xreason, xdone, nI kd, nI N, xstrength] [fs, fwas, fbegun, faside, ftext, fsize, fburnt, fnext, ffar, fthen, fqueue, frankAt, fturnAt])) (lv2 := [(0, .ref m0), (1, .int (nI (lvp N o i))), (2, .int (nI i)), (3, .int (nI (lsp N o i 0))), (4, .int (nI (i + 1 + 0)))]) (st2 := []) rfl rfl (by rw [(show nI 0 = nI (lsp N o i 0) from rfl), (show nI (i + 1) = nI (i + 1 + 0) from congrArg nI (show i + 1 = i + 1 + 0 by omega))]) rfl ?_
        exact L19 _ 0 (by omega) (Nat.lt_succ_self _)
  refine V.sub (lv2 := [(0, .ref m0), (1, .int (nI 0)), (2, .int (nI 0))]) [2, 1, 0] rfl ?_
  refine V.eq (σ2 := (mW G σ m0 [xstates, xtyped, xat, xreason, xdone, nI kd, nI N, xstrength] [fs, fwas, fbegun, faside, ftext, fsize, fburnt, fnext, ffar, fthen, fqueue, frankAt, fturnAt])) (lv2 := [(0, .ref m0), (1, .int (nI (lvp N o 0))), (2, .int (nI 0))]) (st2 := []) rfl rfl (by rw [(show nI 0 = nI (lvp N o 0) from rfl)]) rfl ?_
  exact L4 _ 0 (by omega) (Nat.lt_succ_self _)

abbrev rm_X7_unranks : Room := { frames := 1, cells := 0, slots := 0, locals := 22 }
set_option maxRecDepth 100000 in
set_option maxHeartbeats 4000000 in
theorem c_X7_unranks {l : Launch} {G : gG} {n : Nat} {σ : gS} {m0 : Nat} {xstates xtyped xat xreason xdone xstrength : Int32} {fs fwas fbegun faside ftext fsize fburnt fnext ffar fthen fqueue frankAt fturnAt : Nat → Int32} {kd N o sd r : Nat} (hN : N ≤ 6) (hN1 : 1 ≤ N) (ho : o < fac N) (hkd : kd < 4) (hs : sd < sm (sid kd) N) (hrr : r = rk (sid kd) N o sd) : GM l G yX7_unranks cX7_unranks 9 none rm_X7_unranks n (mW G σ m0 [xstates, xtyped, xat, xreason, xdone, nI kd, nI N, xstrength] [fs, fwas, fbegun, faside, ftext, fsize, fburnt, fnext, ffar, fthen, fqueue, frankAt, fturnAt]) [.ref m0, .int (nI r)] (fun rv n2 σ2 => (none : Option Value) = rv ∧ n = n2 ∧ ∃ (f2 : Nat → Int32) (g2 : Nat → Int32), (mW G σ m0 [xstates, xtyped, xat, xreason, xdone, nI kd, nI N, xstrength] [fs, fwas, fbegun, faside, ftext, f2, g2, fnext, ffar, fthen, fqueue, frankAt, fturnAt]) = σ2 ∧ (∀ j, j < N → f2 j = nI (sz N o j)) ∧ (∀ j, j < N → g2 j = nI (bt sd j))) := by
  refine GM.intro (by decide +kernel) (Nat.le_of_ble_eq_true rfl) (fun p e s m args below meth c C hr hlocks hname po hpo => ?_)
  have C : Cx p s m args c cX7_unranks 9 RX7 G := C
  have hrl := rk_lt hN ho hs
  have hsl := sm_le (sb := sid kd) hN
  refine r_aload_n C dX7_unranks_0 rfl 0 rfl ?_
  refine rm_get (v := .int (nI kd)) C 10 (by decide) wF_X7_66 rfl dX7_unranks_1 ?_
  refine r_callS (As := [.int (nI kd)]) C (c_X7_hasSides (kd := kd) (by first | assumption | omega)) wM_X7_76 wS_X7_hasSides wN_X7 wC_X7_hasSides hd_X7_hasSides ⟨Nat.le_of_ble_eq_true rfl, Nat.le_of_ble_eq_true rfl⟩ rfl rfl (Nat.le_of_ble_eq_true rfl) dX7_unranks_4 ⟨Nat.le_of_ble_eq_true rfl, Nat.le_of_ble_eq_true rfl⟩ (fun rv n2 σ2 hp => ?_)
  obtain ⟨rfl, rfl, rfl⟩ := hp
  refine V.eq (σ2 := (mW G σ m0 [xstates, xtyped, xat, xreason, xdone, nI kd, nI N, xstrength] [fs, fwas, fbegun, faside, ftext, fsize, fburnt, fnext, ffar, fthen, fqueue, frankAt, fturnAt])) (n2 := n) (st2 := [.int (bI (sid kd))]) rfl rfl rfl rfl ?_
  have L24 : V p l e rm_X7_unranks s m args below meth c G 9 (MQ below (gQ G po) args s rm_X7_unranks.cells rm_X7_unranks.slots (gF G)) 0 0 n (mW G σ m0 [xstates, xtyped, xat, xreason, xdone, nI kd, nI N, xstrength] [fs, fwas, fbegun, faside, ftext, fsize, fburnt, fnext, ffar, fthen, fqueue, frankAt, fturnAt]) 24 [(0, .ref m0), (1, .int (nI r))] [.int (nI sd)] := by
    refine r_istore_n (lv2 := [(2, .int (nI sd)), (0, .ref m0), (1, .int (nI r))]) C dX7_unranks_24 rfl (by decide) rfl ?_
    refine r_aload_n C dX7_unranks_25 rfl 1 rfl ?_
    refine rm_get (v := .int (nI kd)) C 10 (by decide) wF_X7_66 rfl dX7_unranks_26 ?_
    refine r_callS (As := [.int (nI kd)]) C (c_X7_hasSides (kd := kd) (by first | assumption | omega)) wM_X7_76 wS_X7_hasSides wN_X7 wC_X7_hasSides hd_X7_hasSides ⟨Nat.le_of_ble_eq_true rfl, Nat.le_of_ble_eq_true rfl⟩ rfl rfl (Nat.le_of_ble_eq_true rfl) dX7_unranks_29 ⟨Nat.le_of_ble_eq_true rfl, Nat.le_of_ble_eq_true rfl⟩ (fun rv n2 σ2 hp => ?_)
    obtain ⟨rfl, rfl, rfl⟩ := hp
    refine V.eq (σ2 := (mW G σ m0 [xstates, xtyped, xat, xreason, xdone, nI kd, nI N, xstrength] [fs, fwas, fbegun, faside, ftext, fsize, fburnt, fnext, ffar, fthen, fqueue, frankAt, fturnAt])) (n2 := n) (st2 := [.int (bI (sid kd))]) rfl rfl rfl rfl ?_
    have L45 : V p l e rm_X7_unranks s m args below meth c G 9 (MQ below (gQ G po) args s rm_X7_unranks.cells rm_X7_unranks.slots (gF G)) 0 0 n (mW G σ m0 [xstates, xtyped, xat, xreason, xdone, nI kd, nI N, xstrength] [fs, fwas, fbegun, faside, ftext, fsize, fburnt, fnext, ffar, fthen, fqueue, frankAt, fturnAt]) 45 [(0, .ref m0), (1, .int (nI r)), (2, .int (nI sd))] [.int (nI o)] := by
      refine r_istore_n (lv2 := [(3, .int (nI o)), (0, .ref m0), (1, .int (nI r)), (2, .int (nI sd))]) C dX7_unranks_45 rfl (by decide) rfl ?_
      refine r_iconst (v := nI 0) C dX7_unranks_46 (by decide) ?_
      refine r_istore (lv2 := [(4, .int (nI 0)), (3, .int (nI o)), (0, .ref m0), (1, .int (nI r)), (2, .int (nI sd))]) C dX7_unranks_47 (by decide) rfl ?_
      refine r_iconst (v := nI 0) C dX7_unranks_49 (by decide) ?_
      refine r_istore (lv2 := [(5, .int (nI 0)), (4, .int (nI 0)), (3, .int (nI o)), (0, .ref m0), (1, .int (nI r)), (2, .int (nI sd))]) C dX7_unranks_50 (by decide) rfl ?_
      have L52 : ∀ (fu : Nat) (i : Nat) (f : Nat → Int32) (g : Nat → Int32), (i ≤ N) → (∀ j, j < i → f j = nI (sz N o j)) → (∀ j, j < i → g j = nI (bt sd j)) → (N + 1 - i) < fu → V p l e rm_X7_unranks s m args below meth c G 9 (MQ below (gQ G po) args s rm_X7_unranks.cells rm_X7_unranks.slots (gF G)) 0 0 n (mW G σ m0 [xstates, xtyped, xat, xreason, xdone, nI kd, nI N, xstrength] [fs, fwas, fbegun, faside, ftext, f, g, fnext, ffar, fthen, fqueue, frankAt, fturnAt]) 52 [(0, .ref m0), (1, .int (nI r)), (2, .int (nI sd)), (3, .int (nI (urs N o i))), (4, .int (nI (usd N o i))), (5, .int (nI i))] [] := by
        intro fu
        induction fu with
        | zero => intro i f g hi hf hg hm; exact absurd hm (Nat.not_lt_zero _)
        | succ fu ih52 =>
          intro i f g hi hf hg hm52
          refine r_iload C dX7_unranks_52 5 rfl ?_
          refine r_aload_n C dX7_unranks_54 rfl 0 rfl ?_
          refine rm_get (v := .int (nI N)) C 11 (by decide) wF_X7_59 rfl dX7_unranks_55 ?_
          refine r_icmp_geN (tgt := 169) C dX7_unranks_58 (by decide) (by omega) (by omega) (fun c58 => ?_) (fun c58 => ?_)
          · exact r_vret C hr hlocks (Nat.le_of_ble_eq_true rfl) (Nat.le_of_ble_eq_true rfl) dX7_unranks_169 (hpo _ _ _ ⟨rfl, rfl, f, g, rfl, fun j hj => hf j (by omega), fun j hj => hg j (by omega)⟩)
          · refine r_aload_n C dX7_unranks_61 rfl 0 rfl ?_
            refine rm_get (v := .int (nI N)) C 11 (by decide) wF_X7_59 rfl dX7_unranks_62 ?_
            refine r_iconst (v := nI 1) C dX7_unranks_65 (by decide) ?_
            refine r_isubN C dX7_unranks_66 (by omega) ?_
            refine r_iload C dX7_unranks_67 5 rfl ?_
            refine r_isubN C dX7_unranks_69 (by omega) ?_
            refine r_callS (As := [.int (nI ((N - 1) - i))]) C (c_X7_factorial (w := (N - 1) - i) (by first | assumption | omega)) wM_X7_83 wS_X7_factorial wN_X7 wC_X7_factorial hd_X7_factorial ⟨Nat.le_of_ble_eq_true rfl, Nat.le_of_ble_eq_true rfl⟩ rfl rfl (Nat.le_of_ble_eq_true rfl) dX7_unranks_70 ⟨Nat.le_of_ble_eq_true rfl, Nat.le_of_ble_eq_true rfl⟩ (fun rv n2 σ2 hp => ?_)
            obtain ⟨rfl, rfl, rfl⟩ := hp
            refine V.eq (σ2 := (mW G σ m0 [xstates, xtyped, xat, xreason, xdone, nI kd, nI N, xstrength] [fs, fwas, fbegun, faside, ftext, f, g, fnext, ffar, fthen, fqueue, frankAt, fturnAt])) (n2 := n) (st2 := [.int (nI (fac ((N - 1) - i)))]) rfl rfl rfl rfl ?_
            refine r_istore (lv2 := [(6, .int (nI (fac ((N - 1) - i)))), (0, .ref m0), (1, .int (nI r)), (2, .int (nI sd)), (3, .int (nI (urs N o i))), (4, .int (nI (usd N o i))), (5, .int (nI i))]) C dX7_unranks_73 (by decide) rfl ?_
            have hf9 := fac_le (show N - 1 - i ≤ 6 by omega)
            have hu9 := ict_sz hN ho (show i < N by omega)
            have hd9 := Nat.div_le_self (urs N o i) (fac (N - 1 - i))
            refine r_iload_n C dX7_unranks_75 rfl 4 rfl ?_
            refine r_iload C dX7_unranks_76 0 rfl ?_
            refine r_idivN C dX7_unranks_78 (by omega) (by omega) (by omega) ?_
            refine r_istore (lv2 := [(7, .int (nI ((urs N o i) / (fac ((N - 1) - i))))), (6, .int (nI (fac ((N - 1) - i)))), (0, .ref m0), (1, .int (nI r)), (2, .int (nI sd)), (3, .int (nI (urs N o i))), (4, .int (nI (usd N o i))), (5, .int (nI i))]) C dX7_unranks_79 (by decide) rfl ?_
            refine r_iload_n C dX7_unranks_81 rfl 5 rfl ?_
            refine r_iload C dX7_unranks_82 1 rfl ?_
            refine r_iremN C dX7_unranks_84 (by omega) (by omega) (by omega) ?_
            refine r_istore_n (lv2 := [(3, .int (nI ((urs N o i) % (fac ((N - 1) - i))))), (7, .int (nI ((urs N o i) / (fac ((N - 1) - i))))), (6, .int (nI (fac ((N - 1) - i)))), (0, .ref m0), (1, .int (nI r)), (2, .int (nI sd)), (4, .int (nI (usd N o i))), (5, .int (nI i))]) C dX7_unranks_85 rfl (by decide) rfl ?_
            refine r_iconst (v := nI 1) C dX7_unranks_86 (by decide) ?_
            refine r_istore (lv2 := [(8, .int (nI 1)), (3, .int (nI ((urs N o i) % (fac ((N - 1) - i))))), (7, .int (nI ((urs N o i) / (fac ((N - 1) - i))))), (6, .int (nI (fac ((N - 1) - i)))), (0, .ref m0), (1, .int (nI r)), (2, .int (nI sd)), (4, .int (nI (usd N o i))), (5, .int (nI i))]) C dX7_unranks_87 (by decide) rfl ?_
            have L89 : ∀ (fu : Nat) (w : Nat) (c1 : Nat) (k : Nat), (ict (usd N o i) w c1 k = some (sz N o i)) → (c1 + w ≤ 9) → (k < 1000) → (w) < fu → V p l e rm_X7_unranks s m args below meth c G 9 (MQ below (gQ G po) args s rm_X7_unranks.cells rm_X7_unranks.slots (gF G)) 0 0 n (mW G σ m0 [xstates, xtyped, xat, xreason, xdone, nI kd, nI N, xstrength] [fs, fwas, fbegun, faside, ftext, f, g, fnext, ffar, fthen, fqueue, frankAt, fturnAt]) 89 [(0, .ref m0), (1, .int (nI r)), (2, .int (nI sd)), (3, .int (nI ((urs N o i) % (fac ((N - 1) - i))))), (4, .int (nI (usd N o i))), (5, .int (nI i)), (6, .int (nI (fac ((N - 1) - i)))), (7, .int (nI k)), (8, .int (nI c1))] [] := by
              intro fu
              induction fu with
              | zero => intro w c1 k hw hc hk hm; exact absurd hm (Nat.not_lt_zero _)
              | succ fu ih89 =>
                intro w c1 k hw hc hk hm89
                obtain ⟨w, rfl⟩ : ∃ z, w = z + 1 := by cases w with | zero => simp [ict] at hw | succ z => exact ⟨z, rfl⟩
                refine r_iload C dX7_unranks_89 4 rfl ?_
                refine r_iload C dX7_unranks_91 8 rfl ?_
                refine r_ishrN C dX7_unranks_93 (by omega) (by omega) ?_
                refine r_iconst (v := nI 1) C dX7_unranks_94 (by decide) ?_
                refine r_iandN C dX7_unranks_95 ?_
                refine V.top (y := nI (bt (usd N o i) c1)) (congrArg nI (Nat.and_one_is_mod _)) ?_
                refine r_iconst (v := nI 1) C dX7_unranks_96 (by decide) ?_
                have hb97 := bt_le (usd N o i) c1
                refine r_icmp_eqN (tgt := 105) C dX7_unranks_97 (by decide) (by omega) (by decide) (fun c97 => ?_) (fun c97 => ?_)
                · refine r_iload C dX7_unranks_105 7 rfl ?_
                  refine r_iload C dX7_unranks_107 4 rfl ?_
                  refine r_iload C dX7_unranks_109 8 rfl ?_
                  refine r_ishrN C dX7_unranks_111 (by omega) (by omega) ?_
                  refine r_iconst (v := nI 1) C dX7_unranks_112 (by decide) ?_
                  refine r_iandN C dX7_unranks_113 ?_
                  refine V.top (y := nI (bt (usd N o i) c1)) (congrArg nI (Nat.and_one_is_mod _)) ?_
                  refine r_iconst (v := nI 1) C dX7_unranks_114 (by decide) ?_
                  refine r_icmp_neN (tgt := 122) C dX7_unranks_115 (by decide) (by omega) (by decide) (fun c115 => ?_) (fun c115 => ?_)
                  · refine r_iconst (v := nI 1) C dX7_unranks_122 (by decide) ?_
                    refine r_isubN C dX7_unranks_123 (by first | omega | exact absurd c97 c115) ?_
                    refine r_istore (lv2 := [(7, .int (nI (k - 1))), (0, .ref m0), (1, .int (nI r)), (2, .int (nI sd)), (3, .int (nI ((urs N o i) % (fac ((N - 1) - i))))), (4, .int (nI (usd N o i))), (5, .int (nI i)), (6, .int (nI (fac ((N - 1) - i)))), (8, .int (nI c1))]) C dX7_unranks_124 (by decide) rfl ?_
                    refine r_iinc (v := nI (c1 + 1)) (lv2 := [(8, .int (nI (c1 + 1))), (7, .int (nI (k - 1))), (0, .ref m0), (1, .int (nI r)), (2, .int (nI sd)), (3, .int (nI ((urs N o i) % (fac ((N - 1) - i))))), (4, .int (nI (usd N o i))), (5, .int (nI i)), (6, .int (nI (fac ((N - 1) - i))))]) C dX7_unranks_126 (k := 8) rfl (nI_add _ 1) (by decide) rfl ?_
                    refine r_goto (tgt := 89) C dX7_unranks_129 (by decide) ?_
                    refine V.sub (lv2 := [(0, .ref m0), (1, .int (nI r)), (2, .int (nI sd)), (3, .int (nI ((urs N o i) % (fac ((N - 1) - i))))), (4, .int (nI (usd N o i))), (5, .int (nI i)), (6, .int (nI (fac ((N - 1) - i)))), (7, .int (nI (k - 1))), (8, .int (nI (c1 + 1)))]) [2, 3, 4, 5, 6, 7, 8, 1, 0] rfl ?_
                    exact ih89 w (c1 + 1) (k - 1) (by first | exact absurd c97 c115 | exact absurd c115 c97 | (simpa [ict, c97] using hw) | (simpa [ict, c97, c102] using hw)) (by omega) (by omega) (by omega)
                  · refine r_iconst (v := nI 0) C dX7_unranks_118 (by decide) ?_
                    refine r_goto (tgt := 123) C dX7_unranks_119 (by decide) ?_
                    refine r_isubN C dX7_unranks_123 (by first | omega | exact absurd c97 c115) ?_
                    refine r_istore (lv2 := [(7, .int (nI (k - 0))), (0, .ref m0), (1, .int (nI r)), (2, .int (nI sd)), (3, .int (nI ((urs N o i) % (fac ((N - 1) - i))))), (4, .int (nI (usd N o i))), (5, .int (nI i)), (6, .int (nI (fac ((N - 1) - i)))), (8, .int (nI c1))]) C dX7_unranks_124 (by decide) rfl ?_
                    refine r_iinc (v := nI (c1 + 1)) (lv2 := [(8, .int (nI (c1 + 1))), (7, .int (nI (k - 0))), (0, .ref m0), (1, .int (nI r)), (2, .int (nI sd)), (3, .int (nI ((urs N o i) % (fac ((N - 1) - i))))), (4, .int (nI (usd N o i))), (5, .int (nI i)), (6, .int (nI (fac ((N - 1) - i))))]) C dX7_unranks_126 (k := 8) rfl (nI_add _ 1) (by decide) rfl ?_
                    refine r_goto (tgt := 89) C dX7_unranks_129 (by decide) ?_
                    refine V.sub (lv2 := [(0, .ref m0), (1, .int (nI r)), (2, .int (nI sd)), (3, .int (nI ((urs N o i) % (fac ((N - 1) - i))))), (4, .int (nI (usd N o i))), (5, .int (nI i)), (6, .int (nI (fac ((N - 1) - i)))), (7, .int (nI (k - 0))), (8, .int (nI (c1 + 1)))]) [2, 3, 4, 5, 6, 7, 8, 1, 0] rfl ?_
                    exact ih89 w (c1 + 1) (k - 0) (by first | exact absurd c97 c115 | exact absurd c115 c97 | (simpa [ict, c97] using hw) | (simpa [ict, c97, c102] using hw)) (by omega) (by omega) (by omega)
                · refine r_iload C dX7_unranks_100 7 rfl ?_
                  refine r_if_leN (tgt := 132) C dX7_unranks_102 (by decide) (by omega) (fun c102 => ?_) (fun c102 => ?_)
                  · have hcz : c1 = sz N o i := by simpa [ict, c97, c102] using hw
                    refine r_iload C dX7_unranks_132 4 rfl ?_
                    refine r_iconst (v := nI 1) C dX7_unranks_134 (by decide) ?_
                    refine r_iload C dX7_unranks_135 8 rfl ?_
                    refine r_ishlN C dX7_unranks_137 (by omega) ?_
                    refine r_iorN C dX7_unranks_138 ?_
                    refine r_istore (lv2 := [(4, .int (nI ((usd N o i) ||| (1 * 2 ^ c1)))), (0, .ref m0), (1, .int (nI r)), (2, .int (nI sd)), (3, .int (nI ((urs N o i) % (fac ((N - 1) - i))))), (5, .int (nI i)), (6, .int (nI (fac ((N - 1) - i)))), (7, .int (nI k)), (8, .int (nI c1))]) C dX7_unranks_139 (by decide) rfl ?_
                    refine r_aload_n C dX7_unranks_141 rfl 1 rfl ?_
                    refine rm_get (v := .ref (m0 + 6)) C 13 (by decide) wF_X7_26 rfl dX7_unranks_142 ?_
                    refine r_iload C dX7_unranks_145 5 rfl ?_
                    refine r_iload C dX7_unranks_147 8 rfl ?_
                    refine rm_ast (f := f) (len := 6) (A2 := [fs, fwas, fbegun, faside, ftext, (upd f i (nI c1)), g, fnext, ffar, fthen, fqueue, frankAt, fturnAt]) C 5 rfl rfl (by decide) (by omega) rfl rfl dX7_unranks_149 ?_
                    refine r_aload_n C dX7_unranks_150 rfl 1 rfl ?_
                    refine rm_get (v := .ref (m0 + 7)) C 14 (by decide) wF_X7_29 rfl dX7_unranks_151 ?_
                    refine r_iload C dX7_unranks_154 5 rfl ?_
                    refine r_iload_n C dX7_unranks_156 rfl 3 rfl ?_
                    refine r_iload C dX7_unranks_157 5 rfl ?_
                    refine r_ishrN C dX7_unranks_159 (by omega) (by omega) ?_
                    refine r_iconst (v := nI 1) C dX7_unranks_160 (by decide) ?_
                    refine r_iandN C dX7_unranks_161 ?_
                    refine V.top (y := nI (bt sd i)) (congrArg nI (Nat.and_one_is_mod _)) ?_
                    refine rm_ast (f := g) (len := 6) (A2 := [fs, fwas, fbegun, faside, ftext, (upd f i (nI c1)), (upd g i (nI (bt sd i))), fnext, ffar, fthen, fqueue, frankAt, fturnAt]) C 6 rfl rfl (by decide) (by omega) rfl rfl dX7_unranks_162 ?_
                    refine r_iinc (v := nI (i + 1)) (lv2 := [(5, .int (nI (i + 1))), (4, .int (nI ((usd N o i) ||| (1 * 2 ^ c1)))), (0, .ref m0), (1, .int (nI r)), (2, .int (nI sd)), (3, .int (nI ((urs N o i) % (fac ((N - 1) - i))))), (6, .int (nI (fac ((N - 1) - i)))), (7, .int (nI k)), (8, .int (nI c1))]) C dX7_unranks_163 (k := 5) rfl (nI_add _ 1) (by decide) rfl ?_
                    refine r_goto (tgt := 52) C dX7_unranks_166 (by decide) ?_
                    refine V.sub (lv2 := [(0, .ref m0), (1, .int (nI r)), (2, .int (nI sd)), (3, .int (nI ((urs N o i) % (fac ((N - 1) - i))))), (4, .int (nI ((usd N o i) ||| (1 * 2 ^ c1)))), (5, .int (nI (i + 1)))]) [2, 3, 4, 5, 1, 0] rfl ?_
                    refine V.eq (σ2 := (mW G σ m0 [xstates, xtyped, xat, xreason, xdone, nI kd, nI N, xstrength] [fs, fwas, fbegun, faside, ftext, (upd f i (nI c1)), (upd g i (nI (bt sd i))), fnext, ffar, fthen, fqueue, frankAt, fturnAt])) (lv2 := [(0, .ref m0), (1, .int (nI r)), (2, .int (nI sd)), (3, .int (nI (urs N o (i + 1)))), (4, .int (nI (usd N o (i + 1)))), (5, .int (nI (i + 1)))]) (st2 := []) rfl rfl (by rw [(show nI ((urs N o i) % (fac ((N - 1) - i))) = nI (urs N o (i + 1)) from rfl), (show nI ((usd N o i) ||| (1 * 2 ^ c1)) = nI (usd N o (i + 1)) from by rw [hcz]; rfl)]) rfl ?_
                    exact ih52 (i + 1) (upd f i (nI c1)) (upd g i (nI (bt sd i))) (by omega) (fun j hj => by rcases Nat.lt_or_eq_of_le (Nat.le_of_lt_succ hj) with h | h; (rw [pk_un (Nat.ne_of_lt h)]; exact hf j h); (subst h; rw [pk_us, hcz])) (fun j hj => by rcases Nat.lt_or_eq_of_le (Nat.le_of_lt_succ hj) with h | h; (rw [pk_un (Nat.ne_of_lt h)]; exact hg j h); (subst h; rw [pk_us])) (by omega)
                  · refine r_iload C dX7_unranks_105 7 rfl ?_
                    refine r_iload C dX7_unranks_107 4 rfl ?_
                    refine r_iload C dX7_unranks_109 8 rfl ?_
                    refine r_ishrN C dX7_unranks_111 (by omega) (by omega) ?_
                    refine r_iconst (v := nI 1) C dX7_unranks_112 (by decide) ?_
                    refine r_iandN C dX7_unranks_113 ?_
                    refine V.top (y := nI (bt (usd N o i) c1)) (congrArg nI (Nat.and_one_is_mod _)) ?_
                    refine r_iconst (v := nI 1) C dX7_unranks_114 (by decide) ?_
                    refine r_icmp_neN (tgt := 122) C dX7_unranks_115 (by decide) (by omega) (by decide) (fun c115 => ?_) (fun c115 => ?_)
                    · refine r_iconst (v := nI 1) C dX7_unranks_122 (by decide) ?_
                      refine r_isubN C dX7_unranks_123 (by first | omega | exact absurd c97 c115) ?_
                      refine r_istore (lv2 := [(7, .int (nI (k - 1))), (0, .ref m0), (1, .int (nI r)), (2, .int (nI sd)), (3, .int (nI ((urs N o i) % (fac ((N - 1) - i))))), (4, .int (nI (usd N o i))), (5, .int (nI i)), (6, .int (nI (fac ((N - 1) - i)))), (8, .int (nI c1))]) C dX7_unranks_124 (by decide) rfl ?_
                      refine r_iinc (v := nI (c1 + 1)) (lv2 := [(8, .int (nI (c1 + 1))), (7, .int (nI (k - 1))), (0, .ref m0), (1, .int (nI r)), (2, .int (nI sd)), (3, .int (nI ((urs N o i) % (fac ((N - 1) - i))))), (4, .int (nI (usd N o i))), (5, .int (nI i)), (6, .int (nI (fac ((N - 1) - i))))]) C dX7_unranks_126 (k := 8) rfl (nI_add _ 1) (by decide) rfl ?_
                      refine r_goto (tgt := 89) C dX7_unranks_129 (by decide) ?_
                      refine V.sub (lv2 := [(0, .ref m0), (1, .int (nI r)), (2, .int (nI sd)), (3, .int (nI ((urs N o i) % (fac ((N - 1) - i))))), (4, .int (nI (usd N o i))), (5, .int (nI i)), (6, .int (nI (fac ((N - 1) - i)))), (7, .int (nI (k - 1))), (8, .int (nI (c1 + 1)))]) [2, 3, 4, 5, 6, 7, 8, 1, 0] rfl ?_
                      exact ih89 w (c1 + 1) (k - 1) (by first | exact absurd c97 c115 | exact absurd c115 c97 | (simpa [ict, c97] using hw) | (simpa [ict, c97, c102] using hw)) (by omega) (by omega) (by omega)
                    · refine r_iconst (v := nI 0) C dX7_unranks_118 (by decide) ?_
                      refine r_goto (tgt := 123) C dX7_unranks_119 (by decide) ?_
                      refine r_isubN C dX7_unranks_123 (by first | omega | exact absurd c97 c115) ?_
                      refine r_istore (lv2 := [(7, .int (nI (k - 0))), (0, .ref m0), (1, .int (nI r)), (2, .int (nI sd)), (3, .int (nI ((urs N o i) % (fac ((N - 1) - i))))), (4, .int (nI (usd N o i))), (5, .int (nI i)), (6, .int (nI (fac ((N - 1) - i)))), (8, .int (nI c1))]) C dX7_unranks_124 (by decide) rfl ?_
                      refine r_iinc (v := nI (c1 + 1)) (lv2 := [(8, .int (nI (c1 + 1))), (7, .int (nI (k - 0))), (0, .ref m0), (1, .int (nI r)), (2, .int (nI sd)), (3, .int (nI ((urs N o i) % (fac ((N - 1) - i))))), (4, .int (nI (usd N o i))), (5, .int (nI i)), (6, .int (nI (fac ((N - 1) - i))))]) C dX7_unranks_126 (k := 8) rfl (nI_add _ 1) (by decide) rfl ?_
                      refine r_goto (tgt := 89) C dX7_unranks_129 (by decide) ?_
                      refine V.sub (lv2 := [(0, .ref m0), (1, .int (nI r)), (2, .int (nI sd)), (3, .int (nI ((urs N o i) % (fac ((N - 1) - i))))), (4, .int (nI (usd N o i))), (5, .int (nI i)), (6, .int (nI (fac ((N - 1) - i)))), (7, .int (nI (k - 0))), (8, .int (nI (c1 + 1)))]) [2, 3, 4, 5, 6, 7, 8, 1, 0] rfl ?_
                      exact ih89 w (c1 + 1) (k - 0) (by first | exact absurd c97 c115 | exact absurd c115 c97 | (simpa [ict, c97] using hw) | (simpa [ict, c97, c102] using hw)) (by omega) (by omega) (by omega)
            refine V.sub (lv2 := [(0, .ref m0), (1, .int (nI r)), (2, .int (nI sd)), (3, .int (nI ((urs N o i) % (fac ((N - 1) - i))))), (4, .int (nI (usd N o i))), (5, .int (nI i)), (6, .int (nI (fac ((N - 1) - i)))), (7, .int (nI ((urs N o i) / (fac ((N - 1) - i))))), (8, .int (nI 1))]) [4, 5, 6, 1, 7, 8, 3, 2, 0] rfl ?_
            exact L89 _ 8 1 ((urs N o i) / (fac ((N - 1) - i))) (hu9.1) (by omega) (by omega) (Nat.lt_succ_self _)
      refine V.sub (lv2 := [(0, .ref m0), (1, .int (nI r)), (2, .int (nI sd)), (3, .int (nI o)), (4, .int (nI 0)), (5, .int (nI 0))]) [3, 4, 5, 2, 1, 0] rfl ?_
      refine V.eq (σ2 := (mW G σ m0 [xstates, xtyped, xat, xreason, xdone, nI kd, nI N, xstrength] [fs, fwas, fbegun, faside, ftext, fsize, fburnt, fnext, ffar, fthen, fqueue, frankAt, fturnAt])) (lv2 := [(0, .ref m0), (1, .int (nI r)), (2, .int (nI sd)), (3, .int (nI (urs N o 0))), (4, .int (nI (usd N o 0))), (5, .int (nI 0))]) (st2 := []) rfl rfl (by rw [(show nI o = nI (urs N o 0) from rfl), (show nI 0 = nI (usd N o 0) from rfl)]) rfl ?_
      exact L52 _ 0 fsize fburnt (by omega) (fun j hj => absurd hj (Nat.not_lt_zero j)) (fun j hj => absurd hj (Nat.not_lt_zero j)) (Nat.lt_succ_self _)
    refine r_if_eqB (tgt := 44) C dX7_unranks_32 (by decide) (fun c32 => ?_) (fun c32 => ?_)
    · refine r_iload_n C dX7_unranks_44 rfl 2 rfl ?_
      refine V.sub (lv2 := [(0, .ref m0), (1, .int (nI r)), (2, .int (nI sd))]) [1, 2, 0] rfl ?_
      refine V.eq (σ2 := (mW G σ m0 [xstates, xtyped, xat, xreason, xdone, nI kd, nI N, xstrength] [fs, fwas, fbegun, faside, ftext, fsize, fburnt, fnext, ffar, fthen, fqueue, frankAt, fturnAt])) (lv2 := [(0, .ref m0), (1, .int (nI r)), (2, .int (nI sd))]) (st2 := [.int (nI o)]) rfl rfl rfl (by rw [(show nI r = nI o from by rw [hrr]; simp [rk, c32])]) ?_
      exact L45  
    · refine r_iload_n C dX7_unranks_35 rfl 2 rfl ?_
      refine r_aload_n C dX7_unranks_36 rfl 1 rfl ?_
      refine rm_get (v := .int (nI N)) C 11 (by decide) wF_X7_59 rfl dX7_unranks_37 ?_
      refine r_ishrN C dX7_unranks_40 (by omega) (by omega) ?_
      refine r_goto (tgt := 45) C dX7_unranks_41 (by decide) ?_
      refine V.sub (lv2 := [(0, .ref m0), (1, .int (nI r)), (2, .int (nI sd))]) [1, 2, 0] rfl ?_
      refine V.eq (σ2 := (mW G σ m0 [xstates, xtyped, xat, xreason, xdone, nI kd, nI N, xstrength] [fs, fwas, fbegun, faside, ftext, fsize, fburnt, fnext, ffar, fthen, fqueue, frankAt, fturnAt])) (lv2 := [(0, .ref m0), (1, .int (nI r)), (2, .int (nI sd))]) (st2 := [.int (nI o)]) rfl rfl rfl (by rw [(show nI (r / 2 ^ N) = nI o from by rw [hrr]; apply congrArg nI; exact rk_ord c32 hs)]) ?_
      exact L45  
  refine r_if_eqB (tgt := 23) C dX7_unranks_7 (by decide) (fun c7 => ?_) (fun c7 => ?_)
  · refine r_iconst (v := nI 0) C dX7_unranks_23 (by decide) ?_
    refine V.eq (σ2 := (mW G σ m0 [xstates, xtyped, xat, xreason, xdone, nI kd, nI N, xstrength] [fs, fwas, fbegun, faside, ftext, fsize, fburnt, fnext, ffar, fthen, fqueue, frankAt, fturnAt])) (lv2 := [(0, .ref m0), (1, .int (nI r))]) (st2 := [.int (nI sd)]) rfl rfl rfl (by rw [(show nI 0 = nI sd from congrArg nI (sm_zero c7 hs).symm)]) ?_
    exact L24  
  · refine r_iload_n C dX7_unranks_10 rfl 1 rfl ?_
    refine r_iconst (v := nI 1) C dX7_unranks_11 (by decide) ?_
    refine r_aload_n C dX7_unranks_12 rfl 0 rfl ?_
    refine rm_get (v := .int (nI N)) C 11 (by decide) wF_X7_59 rfl dX7_unranks_13 ?_
    refine r_ishlN C dX7_unranks_16 (by omega) ?_
    refine r_iconst (v := nI 1) C dX7_unranks_17 (by decide) ?_
    refine r_isubN C dX7_unranks_18 (by have := Nat.one_le_two_pow (n := N); omega) ?_
    refine r_iandN C dX7_unranks_19 ?_
    refine r_goto (tgt := 24) C dX7_unranks_20 (by decide) ?_
    refine V.eq (σ2 := (mW G σ m0 [xstates, xtyped, xat, xreason, xdone, nI kd, nI N, xstrength] [fs, fwas, fbegun, faside, ftext, fsize, fburnt, fnext, ffar, fthen, fqueue, frankAt, fturnAt])) (lv2 := [(0, .ref m0), (1, .int (nI r))]) (st2 := [.int (nI sd)]) rfl rfl rfl (by rw [(show nI (r &&& ((1 * 2 ^ N) - 1)) = nI sd from by rw [hrr]; apply congrArg nI; exact rk_side c7 hs)]) ?_
    exact L24  

abbrev rm_X7_lays : Room := { frames := 0, cells := 0, slots := 0, locals := 0 }
set_option maxRecDepth 100000 in
set_option maxHeartbeats 4000000 in
theorem c_X7_lays {l : Launch} {G : gG} {n : Nat} {σ : gS} {m0 : Nat} {xstates xtyped xat xreason xdone xkind xstrength : Int32} {fs fwas fbegun faside ftext fsize fburnt fnext ffar fthen fqueue frankAt fturnAt : Nat → Int32} {N cw sw : Nat} (hN : N ≤ 6) (hN1 : 1 ≤ N) (hcw : cw < 2 ^ 31) (hsw : sw < 2 ^ 31) : GM l G yX7_lays cX7_lays 5 none rm_X7_lays n (mW G σ m0 [xstates, xtyped, xat, xreason, xdone, xkind, nI N, xstrength] [fs, fwas, fbegun, faside, ftext, fsize, fburnt, fnext, ffar, fthen, fqueue, frankAt, fturnAt]) [.ref m0, .int (nI cw), .int (nI sw)] (fun rv n2 σ2 => (none : Option Value) = rv ∧ n = n2 ∧ ∃ (f2 : Nat → Int32) (g2 : Nat → Int32), (mW G σ m0 [xstates, xtyped, xat, xreason, xdone, xkind, nI N, xstrength] [fs, fwas, fbegun, faside, ftext, f2, g2, fnext, ffar, fthen, fqueue, frankAt, fturnAt]) = σ2 ∧ (∀ j, j < N → f2 j = nI (cw / 10 ^ (N - 1 - j) % 10)) ∧ (∀ j, j < N → g2 j = nI (bt sw j))) := by
  refine GM.intro (by decide +kernel) (Nat.le_of_ble_eq_true rfl) (fun p e s m args below meth c C hr hlocks hname po hpo => ?_)
  have C : Cx p s m args c cX7_lays 5 RX7 G := C
  refine r_iload_n C dX7_lays_0 rfl 1 rfl ?_
  refine r_istore_n (lv2 := [(3, .int (nI cw)), (0, .ref m0), (1, .int (nI cw)), (2, .int (nI sw))]) C dX7_lays_1 rfl (by decide) rfl ?_
  refine r_aload_n C dX7_lays_2 rfl 1 rfl ?_
  refine rm_get (v := .int (nI N)) C 11 (by decide) wF_X7_59 rfl dX7_lays_3 ?_
  refine r_iconst (v := nI 1) C dX7_lays_6 (by decide) ?_
  refine r_isubN C dX7_lays_7 (by omega) ?_
  refine r_istore (lv2 := [(4, .int (nI (N - 1))), (3, .int (nI cw)), (0, .ref m0), (1, .int (nI cw)), (2, .int (nI sw))]) C dX7_lays_8 (by decide) rfl ?_
  have L10 : ∀ (fu : Nat) (i : Nat) (f : Nat → Int32) (g : Nat → Int32), (i ≤ N) → (∀ j, i ≤ j → j < N → f j = nI (cw / 10 ^ (N - 1 - j) % 10)) → (∀ j, i ≤ j → j < N → g j = nI (bt sw j)) → (i + 1) < fu → V p l e rm_X7_lays s m args below meth c G 5 (MQ below (gQ G po) args s rm_X7_lays.cells rm_X7_lays.slots (gF G)) 0 0 n (mW G σ m0 [xstates, xtyped, xat, xreason, xdone, xkind, nI N, xstrength] [fs, fwas, fbegun, faside, ftext, f, g, fnext, ffar, fthen, fqueue, frankAt, fturnAt]) 10 [(0, .ref m0), (1, .int (nI cw)), (2, .int (nI sw)), (3, .int (nI (cw / 10 ^ (N - i)))), (4, .int (nI i + Int32.ofInt (-1)))] [] := by
    intro fu
    induction fu with
    | zero => intro i f g hi hf hg hm; exact absurd hm (Nat.not_lt_zero _)
    | succ fu ih10 =>
      intro i f g hi hf hg hm10
      refine r_iload C dX7_lays_10 4 rfl ?_
      refine r_if_lt (tgt := 50) C dX7_lays_12 (by decide) (fun c12 => ?_) (fun c12 => ?_)
      · have hi0 : i = 0 := by cases i with | zero => rfl | succ z => rw [show nI (z + 1) + Int32.ofInt (-1) = nI z from nI_m1 (by omega)] at c12; exact absurd c12 (nI_pos (by omega))
        exact r_vret C hr hlocks (Nat.le_of_ble_eq_true rfl) (Nat.le_of_ble_eq_true rfl) dX7_lays_50 (hpo _ _ _ ⟨rfl, rfl, f, g, rfl, fun j hj => hf j (by omega) hj, fun j hj => hg j (by omega) hj⟩)
      · have hi0 : 1 ≤ i := by cases i with | zero => exact absurd (show (nI 0 + Int32.ofInt (-1)) < 0 by decide) c12 | succ z => omega
        refine V.eq (lv2 := [(0, .ref m0), (1, .int (nI cw)), (2, .int (nI sw)), (3, .int (nI (cw / 10 ^ (N - i)))), (4, .int (nI (i - 1)))]) rfl rfl (by rw [(show nI i + Int32.ofInt (-1) = nI (i - 1) from nI_m1 hi0)]) rfl ?_
        have hd9 := Nat.div_le_self cw (10 ^ (N - i))
        refine r_aload_n C dX7_lays_15 rfl 0 rfl ?_
        refine rm_get (v := .ref (m0 + 6)) C 13 (by decide) wF_X7_26 rfl dX7_lays_16 ?_
        refine r_iload C dX7_lays_19 4 rfl ?_
        refine r_iload_n C dX7_lays_21 rfl 3 rfl ?_
        refine r_bipush (v := nI 10) C dX7_lays_22 (by decide) ?_
        refine r_iremN C dX7_lays_24 (by omega) (by decide) (by decide) ?_
        refine rm_ast (f := f) (len := 6) (A2 := [fs, fwas, fbegun, faside, ftext, (upd f (i - 1) (nI ((cw / 10 ^ (N - i)) % 10))), g, fnext, ffar, fthen, fqueue, frankAt, fturnAt]) C 5 rfl rfl (by decide) (by omega) rfl rfl dX7_lays_25 ?_
        refine r_aload_n C dX7_lays_26 rfl 0 rfl ?_
        refine rm_get (v := .ref (m0 + 7)) C 14 (by decide) wF_X7_29 rfl dX7_lays_27 ?_
        refine r_iload C dX7_lays_30 4 rfl ?_
        refine r_iload_n C dX7_lays_32 rfl 2 rfl ?_
        refine r_iload C dX7_lays_33 4 rfl ?_
        refine r_ishrN C dX7_lays_35 (by omega) (by omega) ?_
        refine r_iconst (v := nI 1) C dX7_lays_36 (by decide) ?_
        refine r_iandN C dX7_lays_37 ?_
        refine V.top (y := nI (bt sw (i - 1))) (congrArg nI (Nat.and_one_is_mod _)) ?_
        refine rm_ast (f := g) (len := 6) (A2 := [fs, fwas, fbegun, faside, ftext, (upd f (i - 1) (nI ((cw / 10 ^ (N - i)) % 10))), (upd g (i - 1) (nI (bt sw (i - 1)))), fnext, ffar, fthen, fqueue, frankAt, fturnAt]) C 6 rfl rfl (by decide) (by omega) rfl rfl dX7_lays_38 ?_
        refine r_iload_n C dX7_lays_39 rfl 3 rfl ?_
        refine r_bipush (v := nI 10) C dX7_lays_40 (by decide) ?_
        refine r_idivN C dX7_lays_42 (by omega) (by decide) (by decide) ?_
        refine r_istore_n (lv2 := [(3, .int (nI ((cw / 10 ^ (N - i)) / 10))), (0, .ref m0), (1, .int (nI cw)), (2, .int (nI sw)), (4, .int (nI (i - 1)))]) C dX7_lays_43 rfl (by decide) rfl ?_
        refine r_iinc (v := (nI (i - 1)) + Int32.ofInt (-1)) (lv2 := [(4, .int ((nI (i - 1)) + Int32.ofInt (-1))), (3, .int (nI ((cw / 10 ^ (N - i)) / 10))), (0, .ref m0), (1, .int (nI cw)), (2, .int (nI sw))]) C dX7_lays_44 (k := 4) rfl rfl (by decide) rfl ?_
        refine r_goto (tgt := 10) C dX7_lays_47 (by decide) ?_
        refine V.sub (lv2 := [(0, .ref m0), (1, .int (nI cw)), (2, .int (nI sw)), (3, .int (nI ((cw / 10 ^ (N - i)) / 10))), (4, .int ((nI (i - 1)) + Int32.ofInt (-1)))]) [2, 3, 4, 1, 0] rfl ?_
        refine V.eq (σ2 := (mW G σ m0 [xstates, xtyped, xat, xreason, xdone, xkind, nI N, xstrength] [fs, fwas, fbegun, faside, ftext, (upd f (i - 1) (nI ((cw / 10 ^ (N - i)) % 10))), (upd g (i - 1) (nI (bt sw (i - 1)))), fnext, ffar, fthen, fqueue, frankAt, fturnAt])) (lv2 := [(0, .ref m0), (1, .int (nI cw)), (2, .int (nI sw)), (3, .int (nI (cw / 10 ^ (N - (i - 1))))), (4, .int (nI (i - 1) + Int32.ofInt (-1)))]) (st2 := []) rfl rfl (by rw [(show nI ((cw / 10 ^ (N - i)) / 10) = nI (cw / 10 ^ (N - (i - 1))) from by rw [show N - (i - 1) = N - i + 1 by omega, Nat.pow_succ, Nat.div_div_eq_div_mul]), (show (nI (i - 1)) + Int32.ofInt (-1) = nI (i - 1) + Int32.ofInt (-1) from rfl)]) rfl ?_
        exact ih10 (i - 1) (upd f (i - 1) (nI ((cw / 10 ^ (N - i)) % 10))) (upd g (i - 1) (nI (bt sw (i - 1)))) (by omega) (fun j h1 h2 => by rcases Nat.lt_or_ge (i - 1) j with h | h; (rw [pk_un (by omega)]; exact hf j (by omega) h2); (rw [show j = i - 1 by omega, pk_us, show N - 1 - (i - 1) = N - i by omega])) (fun j h1 h2 => by rcases Nat.lt_or_ge (i - 1) j with h | h; (rw [pk_un (by omega)]; exact hg j (by omega) h2); (rw [show j = i - 1 by omega, pk_us])) (by omega)
  refine V.sub (lv2 := [(0, .ref m0), (1, .int (nI cw)), (2, .int (nI sw)), (3, .int (nI cw)), (4, .int (nI (N - 1)))]) [2, 3, 4, 1, 0] rfl ?_
  refine V.eq (σ2 := (mW G σ m0 [xstates, xtyped, xat, xreason, xdone, xkind, nI N, xstrength] [fs, fwas, fbegun, faside, ftext, fsize, fburnt, fnext, ffar, fthen, fqueue, frankAt, fturnAt])) (lv2 := [(0, .ref m0), (1, .int (nI cw)), (2, .int (nI sw)), (3, .int (nI (cw / 10 ^ (N - N)))), (4, .int (nI N + Int32.ofInt (-1)))]) (st2 := []) rfl rfl (by rw [(show nI cw = nI (cw / 10 ^ (N - N)) from by simp), (show nI (N - 1) = nI N + Int32.ofInt (-1) from (nI_m1 (by omega)).symm)]) rfl ?_
  exact L10 _ N fsize fburnt (by omega) (fun j h1 h2 => absurd h1 (by omega)) (fun j h1 h2 => absurd h1 (by omega)) (Nat.lt_succ_self _)
