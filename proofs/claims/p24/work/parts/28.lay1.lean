-- the layouts: words and bounds
def LOK (sb : Bool) (N : Nat) : Prop := 1 ≤ N ∧ N ≤ 6 ∧ (sb = true → N ≤ 5)
def sbN (sb : Bool) (N : Nat) : Nat := if sb then N else 0
theorem LOK.b {sb : Bool} {N : Nat} (h : LOK sb N) : 1 ≤ N ∧ N ≤ 6 ∧ 1 ≤ fac N ∧ fac N ≤ 720 ∧ fac N * N ≤ 4320 ∧ rR sb N ≤ 3840 ∧ 1 ≤ rR sb N ∧ rR sb N * N ≤ 19200 ∧ sbN sb N ≤ 5 ∧ sm sb N ≤ 32 ∧ 1 ≤ sm sb N := by
  obtain ⟨h1, h2, h3⟩ := h
  cases sb with
  | false =>
    rcases (show N = 1 ∨ N = 2 ∨ N = 3 ∨ N = 4 ∨ N = 5 ∨ N = 6 by omega) with rfl | rfl | rfl | rfl | rfl | rfl <;> decide
  | true =>
    have := h3 rfl
    rcases (show N = 1 ∨ N = 2 ∨ N = 3 ∨ N = 4 ∨ N = 5 by omega) with rfl | rfl | rfl | rfl | rfl <;> decide
theorem oR_sb (sb : Bool) (N r : Nat) : r / 2 ^ sbN sb N = oR sb N r := by cases sb <;> simp [sbN, oR]
theorem sR_sb (sb : Bool) (N r : Nat) : r &&& (sm sb N - 1) = sR sb N r := by
  cases sb with
  | false => simp [sm, sR]
  | true => simp only [sm, sR, if_true]; exact Nat.and_two_pow_sub_one_eq_mod r N
theorem sbN_pos {sb : Bool} {N : Nat} (h : 0 < sbN sb N) : sb = true := by cases sb <;> simp_all [sbN]
theorem sbN_0 {sb : Bool} {N : Nat} (h : sbN sb N = 0) (z : sb = true) (h1 : 1 ≤ N) : False := by subst z; simp [sbN] at h; omega
theorem ix_lt {F N o j : Nat} (h : o < F) (h2 : j < N) : o * N + j < F * N := by
  have := Nat.mul_le_mul_right N (show o + 1 ≤ F by omega)
  rw [Nat.add_mul] at this
  omega
theorem ix_lt3 {F N o k : Nat} (h : o < F) (h1 : 1 ≤ k) (h2 : k ≤ N) : o * N + k - 1 < F * N := by
  have := ix_lt (j := k - 1) h (show k - 1 < N by omega)
  omega
theorem bt_1 (a j : Nat) : a / 2 ^ j &&& 1 = bt a j := Nat.and_one_is_mod _
/-- the set of the places where a Boolean holds -/
def bw (b : Nat → Bool) : Nat → Nat
  | 0 => 0
  | i + 1 => bw b i ||| (if b i = true then 1 * 2 ^ i else 0)
theorem bw_tb (b : Nat → Bool) : ∀ n j, (bw b n).testBit j = (decide (j < n) && b j)
  | 0, j => by simp [bw]
  | n + 1, j => by
    rw [bw, Nat.testBit_or, bw_tb b n j]
    cases h : b n with
    | true =>
      rw [if_pos rfl, Nat.one_mul, Nat.testBit_two_pow]
      by_cases g : n = j
      · subst g; simp [h]
      · by_cases g2 : j < n
        · simp [g, g2, show j < n + 1 by omega]
        · simp [g, g2, show ¬ j < n + 1 by omega]
    | false =>
      by_cases g : n = j
      · subst g; simp [h]
      · by_cases g2 : j < n
        · simp [g2, show j < n + 1 by omega]
        · simp [g2, show ¬ j < n + 1 by omega]
theorem bt_tb (a j : Nat) : bt a j = (a.testBit j).toNat := by
  rw [Nat.testBit_eq_decide_div_mod_eq, bt]
  have := Nat.mod_two_eq_zero_or_one (a / 2 ^ j)
  rcases this with h | h <;> simp [h]
theorem bt_bw {b : Nat → Bool} {n j : Nat} : bt (bw b n) j = (decide (j < n) && b j).toNat := by rw [bt_tb, bw_tb]
theorem bw_lt (b : Nat → Bool) (n : Nat) : bw b n < 2 ^ n := by
  apply Nat.lt_pow_two_of_testBit
  intro i hi
  rw [bw_tb]
  simp [show ¬ i < n by omega]
theorem k_inj : chkO (fun N o => (List.range N).all fun i => (List.range N).all fun j => decide (i = j) || !(sz N o i == sz N o j)) = true := by decide +kernel
theorem sz_inj {N o i j : Nat} (hN : N ≤ 6) (ho : o < fac N) (hi : i < N) (hj : j < N) (h : sz N o i = sz N o j) : i = j := by
  have := dec1 (dec1 (chkO_of k_inj hN ho) i hi) j hj
  simp [h] at this
  exact this
def jw (sb : Bool) (N r : Nat) : Nat := bw (jn sb N (oR sb N r) (sR sb N r)) N
theorem jw_lt {sb : Bool} {N r : Nat} (h : N ≤ 6) : jw sb N r < 64 := Nat.lt_of_lt_of_le (bw_lt _ N) (two_le h)
theorem bt_jw {sb : Bool} {N r j : Nat} (hj : j < N) : bt (jw sb N r) j = (jn sb N (oR sb N r) (sR sb N r) j).toNat := by rw [jw, bt_bw, decide_eq_true hj, Bool.true_and]
theorem jn_1 {b : Bool} (h : b.toNat ≠ 0) : b = true := by cases b <;> simp_all
theorem jn_0 {b : Bool} (h : b.toNat = 0) : b = false := by cases b <;> simp_all
theorem pcn_bw (b : Nat → Bool) {N : Nat} (h : N ≤ 6) : pcn (bw b N) = (decide (0 < N) && b 0).toNat + (decide (1 < N) && b 1).toNat + (decide (2 < N) && b 2).toNat + (decide (3 < N) && b 3).toNat + (decide (4 < N) && b 4).toNat + (decide (5 < N) && b 5).toNat := by
  simp only [← bt_bw]
  simp [pcn, bt]
theorem gif (b : Bool) : (if b = true then 0 else 1) = 1 - b.toNat := by cases b <;> rfl
theorem gp_jw {sb : Bool} {N r : Nat} (h : N ≤ 6) : pcn (jw sb N r) ≤ N ∧ N - pcn (jw sb N r) = gp sb N (oR sb N r) (sR sb N r) := by
  rw [jw, pcn_bw _ h, gp]
  have hb : ∀ j, (jn sb N (oR sb N r) (sR sb N r) j).toNat ≤ 1 := fun j => Bool.toNat_le _
  have h0 := hb 0
  have h1 := hb 1
  have h2 := hb 2
  have h3 := hb 3
  have h4 := hb 4
  have h5 := hb 5
  rcases (show N = 0 ∨ N = 1 ∨ N = 2 ∨ N = 3 ∨ N = 4 ∨ N = 5 ∨ N = 6 by omega) with rfl | rfl | rfl | rfl | rfl | rfl | rfl <;> first | (simp only [gpp, gif, Nat.lt_irrefl, Nat.not_lt_zero, Nat.reduceLT, decide_true, decide_false, Bool.true_and, Bool.false_and, Bool.toNat_false, Nat.zero_add, Nat.add_zero]; omega) | (simp [gpp, gif]; done) | (simp [gpp, gif]; omega)
theorem smt_b {p w sd : Nat} {sb : Bool} : (if p = w - 1 then w else if 0 < p then p + 1 else if sb = true ∧ bt sd 0 = 0 then 1 else w) = (if p = w - 1 then w else if 0 < p then p + 1 else if sb = true ∧ decide (bt sd p ≠ 0) = false then 1 else w) := by
  by_cases g : 0 < p
  · simp [g]
  · rw [show p = 0 by omega]
    simp
theorem plc_of {N o w j : Nat} (hN : N ≤ 6) (ho : o < fac N) (hw : 1 ≤ w ∧ w ≤ N) (hj : j < N) (h : sz N o j = w) : plc N o w = j := by
  have hp := plc_ok hN ho hw
  exact sz_inj hN ho hp.1 hj (by rw [hp.2.1, h])

abbrev rm_X1_sizeAt : Room := { frames := 1, cells := 0, slots := 0, locals := 21 }
set_option maxRecDepth 100000 in
set_option maxHeartbeats 4000000 in
theorem c_X1_sizeAt {l : Launch} {G : gG} {n : Nat} {σ : gS} {la N cfl : Nat} {sb : Bool} {f2 : Nat → Int32} {r j : Nat} (hc0 : σ la = some (.inr (1, [.int (nI N), .int (nI (rR sb N)), .int (nI (sbN sb N)), .int (nI (sm sb N - 1)), .ref (la + 1), .ref (la + 2), .ref (la + 3), .ref (la + 4)]))) (hc1 : σ (la + 2) = some (aI G (fac N * N) f2)) (hL : LOK sb N) (h2 : ∀ o, o < fac N → ∀ j, j < N → f2 (o * N + j) = nI (sz N o j)) (hrk : r < rR sb N) (hj : j < N) : GM l G yX1_sizeAt cX1_sizeAt 3 (some .int) rm_X1_sizeAt n σ [.ref la, .int (nI r), .int (nI j)] (fun rv n2 σ2 => some (.int (nI (sz N (oR sb N r) j))) = rv ∧ n = n2 ∧ σ = σ2) := by
  refine GM.intro (by decide +kernel) (Nat.le_of_ble_eq_true rfl) (fun p e s m args below meth c C hr hlocks hname po hpo => ?_)
  have C : Cx p s m args c cX1_sizeAt 3 RX1 G := C
  have hb9 := hL.b
  refine r_aload_n C dX1_sizeAt_0 rfl 0 rfl ?_
  refine r_get (Cn := RX1) (T := TX1) (N := 8) (v := .ref (la + 2)) C inlX1 hc0 rfl 5 (by decide) wF_X1_32 (fun _ h => h) rfl dX1_sizeAt_1 ?_
  refine r_iload_n C dX1_sizeAt_4 rfl 1 rfl ?_
  refine r_aload_n C dX1_sizeAt_5 rfl 0 rfl ?_
  refine r_get (Cn := RX1) (T := TX1) (N := 8) (v := .int (nI (sbN sb N))) C inlX1 hc0 rfl 2 (by decide) wF_X1_15 (fun _ h => h) rfl dX1_sizeAt_6 ?_
  refine r_ishrN C dX1_sizeAt_9 (by omega) (by omega) ?_
  refine V.top (y := nI (oR sb N r)) (congrArg nI (oR_sb sb N r)) ?_
  refine r_aload_n C dX1_sizeAt_10 rfl 0 rfl ?_
  refine r_get (Cn := RX1) (T := TX1) (N := 8) (v := .int (nI N)) C inlX1 hc0 rfl 0 (by decide) wF_X1_9 (fun _ h => h) rfl dX1_sizeAt_11 ?_
  refine r_imulN C dX1_sizeAt_14 ?_
  refine r_iload_n C dX1_sizeAt_15 rfl 2 rfl ?_
  refine r_iaddN C dX1_sizeAt_16 ?_
  refine r_callSN (As := [.ref (la + 2), .int (nI (((oR sb N r) * N) + j))]) C (c_X6_at_y (a := la + 2) (len := (fac N * N)) (f := f2) (i := ((oR sb N r) * N) + j) hc1 (ix_lt (oR_lt hrk) hj) (by first | assumption | omega)) wZ_X1_60 wS_X6_at wN_X6 wC_X6_at hd_X6_at ⟨Nat.le_of_ble_eq_true rfl, Nat.le_of_ble_eq_true rfl⟩ rfl rfl (Nat.le_of_ble_eq_true rfl) dX1_sizeAt_17 ⟨(Nat.le_of_ble_eq_true rfl), (Nat.le_of_ble_eq_true rfl)⟩ (fun rv n2 σ2 hp => ?_)
  obtain ⟨rfl, rfl, rfl⟩ := hp
  refine V.eq (σ2 := σ) (n2 := n) (st2 := [.int (f2 (((oR sb N r) * N) + j))]) rfl rfl rfl rfl ?_
  refine V.top (y := nI (sz N (oR sb N r) j)) (h2 _ (oR_lt hrk) _ hj) ?_
  exact r_iret C hr hlocks (Nat.le_of_ble_eq_true rfl) (Nat.le_of_ble_eq_true rfl) dX1_sizeAt_20 (hpo _ _ _ ⟨rfl, rfl, rfl⟩)

abbrev rm_X1_isBurnt : Room := { frames := 0, cells := 0, slots := 0, locals := 0 }
set_option maxRecDepth 100000 in
set_option maxHeartbeats 4000000 in
theorem c_X1_isBurnt {l : Launch} {G : gG} {n : Nat} {σ : gS} {la N cfl : Nat} {sb : Bool} {r j : Nat} (hc0 : σ la = some (.inr (1, [.int (nI N), .int (nI (rR sb N)), .int (nI (sbN sb N)), .int (nI (sm sb N - 1)), .ref (la + 1), .ref (la + 2), .ref (la + 3), .ref (la + 4)]))) (hL : LOK sb N) (hrk : r < rR sb N) (hj : j < N) : GM l G yX1_isBurnt cX1_isBurnt 3 (some .boolean) rm_X1_isBurnt n σ [.ref la, .int (nI r), .int (nI j)] (fun rv n2 σ2 => some (.int (bI (decide (bt (sR sb N r) j ≠ 0)))) = rv ∧ n = n2 ∧ σ = σ2) := by
  refine GM.intro (by decide +kernel) (Nat.le_of_ble_eq_true rfl) (fun p e s m args below meth c C hr hlocks hname po hpo => ?_)
  have C : Cx p s m args c cX1_isBurnt 3 RX1 G := C
  have hb9 := hL.b
  have hs9 := sR_lt (sb := sb) (N := N) (r := r)
  refine r_iload_n C dX1_isBurnt_0 rfl 1 rfl ?_
  refine r_aload_n C dX1_isBurnt_1 rfl 0 rfl ?_
  refine r_get (Cn := RX1) (T := TX1) (N := 8) (v := .int (nI (sm sb N - 1))) C inlX1 hc0 rfl 3 (by decide) wF_X1_18 (fun _ h => h) rfl dX1_isBurnt_2 ?_
  refine r_iandN C dX1_isBurnt_5 ?_
  refine V.top (y := nI (sR sb N r)) (congrArg nI (sR_sb sb N r)) ?_
  refine r_iload_n C dX1_isBurnt_6 rfl 2 rfl ?_
  refine r_ishrN C dX1_isBurnt_7 (by omega) (by omega) ?_
  refine r_iconst (v := nI 1) C dX1_isBurnt_8 (by decide) ?_
  refine r_iandN C dX1_isBurnt_9 ?_
  refine V.top (y := nI (bt (sR sb N r) j)) (congrArg nI (bt_1 _ _)) ?_
  have hbt := bt_le (sR sb N r) j
  refine r_if_eqN (tgt := 17) C dX1_isBurnt_10 (by decide) (by omega) (fun c10 => ?_) (fun c10 => ?_)
  · refine r_iconst (v := nI 0) C dX1_isBurnt_17 (by decide) ?_
    exact r_zret C (by decide) hr hlocks (Nat.le_of_ble_eq_true rfl) (Nat.le_of_ble_eq_true rfl) dX1_isBurnt_18 (hpo _ _ _ ⟨bI_f (by simp [c10]), rfl, rfl⟩)
  · refine r_iconst (v := nI 1) C dX1_isBurnt_13 (by decide) ?_
    refine r_goto (tgt := 18) C dX1_isBurnt_14 (by decide) ?_
    exact r_zret C (by decide) hr hlocks (Nat.le_of_ble_eq_true rfl) (Nat.le_of_ble_eq_true rfl) dX1_isBurnt_18 (hpo _ _ _ ⟨bI_t (by simp [c10]), rfl, rfl⟩)

abbrev rm_X1_behind : Room := { frames := 1, cells := 0, slots := 0, locals := 21 }
set_option maxRecDepth 100000 in
set_option maxHeartbeats 4000000 in
theorem c_X1_behind {l : Launch} {G : gG} {n : Nat} {σ : gS} {la N cfl : Nat} {sb : Bool} {f3 : Nat → Int32} {r k : Nat} (hc0 : σ la = some (.inr (1, [.int (nI N), .int (nI (rR sb N)), .int (nI (sbN sb N)), .int (nI (sm sb N - 1)), .ref (la + 1), .ref (la + 2), .ref (la + 3), .ref (la + 4)]))) (hc1 : σ (la + 3) = some (aI G (rR sb N * N) f3)) (hL : LOK sb N) (h3 : ∀ r, r < rR sb N → ∀ k, 1 ≤ k → k ≤ N → f3 (r * N + k - 1) = nI (nx sb N r k)) (hrk : r < rR sb N) (hk1 : 1 ≤ k) (hk : k ≤ N) : GM l G yX1_behind cX1_behind 3 (some .int) rm_X1_behind n σ [.ref la, .int (nI r), .int (nI k)] (fun rv n2 σ2 => some (.int (nI (nx sb N r k))) = rv ∧ n = n2 ∧ σ = σ2) := by
  refine GM.intro (by decide +kernel) (Nat.le_of_ble_eq_true rfl) (fun p e s m args below meth c C hr hlocks hname po hpo => ?_)
  have C : Cx p s m args c cX1_behind 3 RX1 G := C
  have hb9 := hL.b
  refine r_aload_n C dX1_behind_0 rfl 0 rfl ?_
  refine r_get (Cn := RX1) (T := TX1) (N := 8) (v := .ref (la + 3)) C inlX1 hc0 rfl 6 (by decide) wF_X1_35 (fun _ h => h) rfl dX1_behind_1 ?_
  refine r_iload_n C dX1_behind_4 rfl 1 rfl ?_
  refine r_aload_n C dX1_behind_5 rfl 0 rfl ?_
  refine r_get (Cn := RX1) (T := TX1) (N := 8) (v := .int (nI N)) C inlX1 hc0 rfl 0 (by decide) wF_X1_9 (fun _ h => h) rfl dX1_behind_6 ?_
  refine r_imulN C dX1_behind_9 ?_
  refine r_iload_n C dX1_behind_10 rfl 2 rfl ?_
  refine r_iaddN C dX1_behind_11 ?_
  refine r_iconst (v := nI 1) C dX1_behind_12 (by decide) ?_
  refine r_isubN C dX1_behind_13 (by omega) ?_
  refine r_callSN (As := [.ref (la + 3), .int (nI ((r * N + k) - 1))]) C (c_X6_at_y (a := la + 3) (len := (rR sb N * N)) (f := f3) (i := (r * N + k) - 1) hc1 (ix_lt3 hrk hk1 hk) (by first | assumption | omega)) wZ_X1_60 wS_X6_at wN_X6 wC_X6_at hd_X6_at ⟨Nat.le_of_ble_eq_true rfl, Nat.le_of_ble_eq_true rfl⟩ rfl rfl (Nat.le_of_ble_eq_true rfl) dX1_behind_14 ⟨(Nat.le_of_ble_eq_true rfl), (Nat.le_of_ble_eq_true rfl)⟩ (fun rv n2 σ2 hp => ?_)
  obtain ⟨rfl, rfl, rfl⟩ := hp
  refine V.eq (σ2 := σ) (n2 := n) (st2 := [.int (f3 ((r * N + k) - 1))]) rfl rfl rfl rfl ?_
  refine V.top (y := nI (nx sb N r k)) (h3 _ hrk _ hk1 hk) ?_
  exact r_iret C hr hlocks (Nat.le_of_ble_eq_true rfl) (Nat.le_of_ble_eq_true rfl) dX1_behind_17 (hpo _ _ _ ⟨rfl, rfl, rfl⟩)

abbrev rm_X1_isJoined : Room := { frames := 1, cells := 0, slots := 0, locals := 21 }
set_option maxRecDepth 100000 in
set_option maxHeartbeats 4000000 in
theorem c_X1_isJoined {l : Launch} {G : gG} {n : Nat} {σ : gS} {la N cfl : Nat} {sb : Bool} {f4 : Nat → Int32} {r j : Nat} (hc0 : σ la = some (.inr (1, [.int (nI N), .int (nI (rR sb N)), .int (nI (sbN sb N)), .int (nI (sm sb N - 1)), .ref (la + 1), .ref (la + 2), .ref (la + 3), .ref (la + 4)]))) (hc1 : σ (la + 4) = some (aI G (rR sb N) f4)) (hL : LOK sb N) (h4 : ∀ r, r < rR sb N → f4 r = nI (jw sb N r)) (hrk : r < rR sb N) (hj : j < N) : GM l G yX1_isJoined cX1_isJoined 3 (some .boolean) rm_X1_isJoined n σ [.ref la, .int (nI r), .int (nI j)] (fun rv n2 σ2 => some (.int (bI (jn sb N (oR sb N r) (sR sb N r) j))) = rv ∧ n = n2 ∧ σ = σ2) := by
  refine GM.intro (by decide +kernel) (Nat.le_of_ble_eq_true rfl) (fun p e s m args below meth c C hr hlocks hname po hpo => ?_)
  have C : Cx p s m args c cX1_isJoined 3 RX1 G := C
  have hb9 := hL.b
  have hjw := jw_lt hL.2.1 (sb := sb) (r := r)
  refine r_aload_n C dX1_isJoined_0 rfl 0 rfl ?_
  refine r_get (Cn := RX1) (T := TX1) (N := 8) (v := .ref (la + 4)) C inlX1 hc0 rfl 7 (by decide) wF_X1_38 (fun _ h => h) rfl dX1_isJoined_1 ?_
  refine r_iload_n C dX1_isJoined_4 rfl 1 rfl ?_
  refine r_callSN (As := [.ref (la + 4), .int (nI r)]) C (c_X6_at_y (a := la + 4) (len := rR sb N) (f := f4) (i := r) hc1 (by first | assumption | omega) (by first | assumption | omega)) wZ_X1_60 wS_X6_at wN_X6 wC_X6_at hd_X6_at ⟨Nat.le_of_ble_eq_true rfl, Nat.le_of_ble_eq_true rfl⟩ rfl rfl (Nat.le_of_ble_eq_true rfl) dX1_isJoined_5 ⟨(Nat.le_of_ble_eq_true rfl), (Nat.le_of_ble_eq_true rfl)⟩ (fun rv n2 σ2 hp => ?_)
  obtain ⟨rfl, rfl, rfl⟩ := hp
  refine V.eq (σ2 := σ) (n2 := n) (st2 := [.int (f4 r)]) rfl rfl rfl rfl ?_
  refine V.top (y := nI (jw sb N r)) (h4 _ hrk) ?_
  refine r_iload_n C dX1_isJoined_8 rfl 2 rfl ?_
  refine r_ishrN C dX1_isJoined_9 (by omega) (by omega) ?_
  refine r_iconst (v := nI 1) C dX1_isJoined_10 (by decide) ?_
  refine r_iandN C dX1_isJoined_11 ?_
  refine V.top (y := nI (bt (jw sb N r) j)) (congrArg nI (bt_1 _ _)) ?_
  have hbt := bt_le (jw sb N r) j
  have hbj := bt_jw (sb := sb) (r := r) hj
  refine r_if_eqN (tgt := 19) C dX1_isJoined_12 (by decide) (by omega) (fun c12 => ?_) (fun c12 => ?_)
  · refine r_iconst (v := nI 0) C dX1_isJoined_19 (by decide) ?_
    exact r_zret C (by decide) hr hlocks (Nat.le_of_ble_eq_true rfl) (Nat.le_of_ble_eq_true rfl) dX1_isJoined_20 (hpo _ _ _ ⟨by rw [hbj] at c12; first | exact bI_t (jn_1 c12) | exact bI_f (jn_0 c12), rfl, rfl⟩)
  · refine r_iconst (v := nI 1) C dX1_isJoined_15 (by decide) ?_
    refine r_goto (tgt := 20) C dX1_isJoined_16 (by decide) ?_
    exact r_zret C (by decide) hr hlocks (Nat.le_of_ble_eq_true rfl) (Nat.le_of_ble_eq_true rfl) dX1_isJoined_20 (hpo _ _ _ ⟨by rw [hbj] at c12; first | exact bI_t (jn_1 c12) | exact bI_f (jn_0 c12), rfl, rfl⟩)

abbrev rm_X1_gaps : Room := { frames := 1, cells := 0, slots := 0, locals := 21 }
set_option maxRecDepth 100000 in
set_option maxHeartbeats 4000000 in
theorem c_X1_gaps {l : Launch} {G : gG} {n : Nat} {σ : gS} {la N cfl : Nat} {sb : Bool} {f4 : Nat → Int32} {r : Nat} (hc0 : σ la = some (.inr (1, [.int (nI N), .int (nI (rR sb N)), .int (nI (sbN sb N)), .int (nI (sm sb N - 1)), .ref (la + 1), .ref (la + 2), .ref (la + 3), .ref (la + 4)]))) (hc1 : σ (la + 4) = some (aI G (rR sb N) f4)) (hL : LOK sb N) (h4 : ∀ r, r < rR sb N → f4 r = nI (jw sb N r)) (hrk : r < rR sb N) : GM l G yX1_gaps cX1_gaps 2 (some .int) rm_X1_gaps n σ [.ref la, .int (nI r)] (fun rv n2 σ2 => some (.int (nI (gp sb N (oR sb N r) (sR sb N r)))) = rv ∧ n = n2 ∧ σ = σ2) := by
  refine GM.intro (by decide +kernel) (Nat.le_of_ble_eq_true rfl) (fun p e s m args below meth c C hr hlocks hname po hpo => ?_)
  have C : Cx p s m args c cX1_gaps 2 RX1 G := C
  have hb9 := hL.b
  have hjw := jw_lt hL.2.1 (sb := sb) (r := r)
  have hg9 := gp_jw hL.2.1 (sb := sb) (r := r)
  refine r_aload_n C dX1_gaps_0 rfl 0 rfl ?_
  refine r_get (Cn := RX1) (T := TX1) (N := 8) (v := .int (nI N)) C inlX1 hc0 rfl 0 (by decide) wF_X1_9 (fun _ h => h) rfl dX1_gaps_1 ?_
  refine r_aload_n C dX1_gaps_4 rfl 0 rfl ?_
  refine r_get (Cn := RX1) (T := TX1) (N := 8) (v := .ref (la + 4)) C inlX1 hc0 rfl 7 (by decide) wF_X1_38 (fun _ h => h) rfl dX1_gaps_5 ?_
  refine r_iload_n C dX1_gaps_8 rfl 1 rfl ?_
  refine r_callSN (As := [.ref (la + 4), .int (nI r)]) C (c_X6_at_y (a := la + 4) (len := rR sb N) (f := f4) (i := r) hc1 (by first | assumption | omega) (by first | assumption | omega)) wZ_X1_60 wS_X6_at wN_X6 wC_X6_at hd_X6_at ⟨Nat.le_of_ble_eq_true rfl, Nat.le_of_ble_eq_true rfl⟩ rfl rfl (Nat.le_of_ble_eq_true rfl) dX1_gaps_9 ⟨(Nat.le_of_ble_eq_true rfl), (Nat.le_of_ble_eq_true rfl)⟩ (fun rv n2 σ2 hp => ?_)
  obtain ⟨rfl, rfl, rfl⟩ := hp
  refine V.eq (σ2 := σ) (n2 := n) (st2 := [.int (f4 r), .int (nI N)]) rfl rfl rfl rfl ?_
  refine V.top (y := nI (jw sb N r)) (h4 _ hrk) ?_
  refine r_callS (As := [.int (nI (jw sb N r))]) C (c_J6_bitCount_0f7a4 (v := jw sb N r)  (by first | assumption | omega)) wM_X1_81 wS_J6_bitCount_0f7a4 wN_J6 wC_J6_bitCount_0f7a4 hd_J6_bitCount_0f7a4 ⟨Nat.le_of_ble_eq_true rfl, Nat.le_of_ble_eq_true rfl⟩ rfl rfl (Nat.le_of_ble_eq_true rfl) dX1_gaps_12 ⟨(Nat.le_of_ble_eq_true rfl), (Nat.le_of_ble_eq_true rfl)⟩ (fun rv n2 σ2 hp => ?_)
  obtain ⟨rfl, rfl, rfl⟩ := hp
  refine V.eq (σ2 := σ) (n2 := n) (st2 := [.int (nI (pcn (jw sb N r))), .int (nI N)]) rfl rfl rfl rfl ?_
  refine r_isubN C dX1_gaps_15 (by omega) ?_
  exact r_iret C hr hlocks (Nat.le_of_ble_eq_true rfl) (Nat.le_of_ble_eq_true rfl) dX1_gaps_16 (hpo _ _ _ ⟨congrArg (fun z => some (Value.int (nI z))) (show gp sb N (oR sb N r) (sR sb N r) = N - (pcn (jw sb N r)) by omega), rfl, rfl⟩)

abbrev rm_X1_codeOf : Room := { frames := 1, cells := 0, slots := 0, locals := 21 }
set_option maxRecDepth 100000 in
set_option maxHeartbeats 4000000 in
theorem c_X1_codeOf {l : Launch} {G : gG} {n : Nat} {σ : gS} {la N cfl : Nat} {sb : Bool} {f1 : Nat → Int32} {r : Nat} (hc0 : σ la = some (.inr (1, [.int (nI N), .int (nI (rR sb N)), .int (nI (sbN sb N)), .int (nI (sm sb N - 1)), .ref (la + 1), .ref (la + 2), .ref (la + 3), .ref (la + 4)]))) (hc1 : σ (la + 1) = some (aI G (fac N) f1)) (hL : LOK sb N) (h1 : ∀ o, o < fac N → f1 o = nI (cd N o)) (hrk : r < rR sb N) : GM l G yX1_codeOf cX1_codeOf 2 (some .int) rm_X1_codeOf n σ [.ref la, .int (nI r)] (fun rv n2 σ2 => some (.int (nI (cd N (oR sb N r)))) = rv ∧ n = n2 ∧ σ = σ2) := by
  refine GM.intro (by decide +kernel) (Nat.le_of_ble_eq_true rfl) (fun p e s m args below meth c C hr hlocks hname po hpo => ?_)
  have C : Cx p s m args c cX1_codeOf 2 RX1 G := C
  have hb9 := hL.b
  refine r_aload_n C dX1_codeOf_0 rfl 0 rfl ?_
  refine r_get (Cn := RX1) (T := TX1) (N := 8) (v := .ref (la + 1)) C inlX1 hc0 rfl 4 (by decide) wF_X1_28 (fun _ h => h) rfl dX1_codeOf_1 ?_
  refine r_iload_n C dX1_codeOf_4 rfl 1 rfl ?_
  refine r_aload_n C dX1_codeOf_5 rfl 0 rfl ?_
  refine r_get (Cn := RX1) (T := TX1) (N := 8) (v := .int (nI (sbN sb N))) C inlX1 hc0 rfl 2 (by decide) wF_X1_15 (fun _ h => h) rfl dX1_codeOf_6 ?_
  refine r_ishrN C dX1_codeOf_9 (by omega) (by omega) ?_
  refine V.top (y := nI (oR sb N r)) (congrArg nI (oR_sb sb N r)) ?_
  refine r_callSN (As := [.ref (la + 1), .int (nI (oR sb N r))]) C (c_X6_at_y (a := la + 1) (len := fac N) (f := f1) (i := oR sb N r) hc1 (oR_lt hrk) (by first | assumption | omega)) wZ_X1_60 wS_X6_at wN_X6 wC_X6_at hd_X6_at ⟨Nat.le_of_ble_eq_true rfl, Nat.le_of_ble_eq_true rfl⟩ rfl rfl (Nat.le_of_ble_eq_true rfl) dX1_codeOf_10 ⟨(Nat.le_of_ble_eq_true rfl), (Nat.le_of_ble_eq_true rfl)⟩ (fun rv n2 σ2 hp => ?_)
  obtain ⟨rfl, rfl, rfl⟩ := hp
  refine V.eq (σ2 := σ) (n2 := n) (st2 := [.int (f1 (oR sb N r))]) rfl rfl rfl rfl ?_
  refine V.top (y := nI (cd N (oR sb N r))) (h1 _ (oR_lt hrk)) ?_
  exact r_iret C hr hlocks (Nat.le_of_ble_eq_true rfl) (Nat.le_of_ble_eq_true rfl) dX1_codeOf_13 (hpo _ _ _ ⟨rfl, rfl, rfl⟩)

abbrev rm_X1_sidesOf : Room := { frames := 0, cells := 0, slots := 0, locals := 0 }
set_option maxRecDepth 100000 in
set_option maxHeartbeats 4000000 in
theorem c_X1_sidesOf {l : Launch} {G : gG} {n : Nat} {σ : gS} {la N cfl : Nat} {sb : Bool} {r : Nat} (hc0 : σ la = some (.inr (1, [.int (nI N), .int (nI (rR sb N)), .int (nI (sbN sb N)), .int (nI (sm sb N - 1)), .ref (la + 1), .ref (la + 2), .ref (la + 3), .ref (la + 4)]))) (hL : LOK sb N) (hrk : r < rR sb N) : GM l G yX1_sidesOf cX1_sidesOf 2 (some .int) rm_X1_sidesOf n σ [.ref la, .int (nI r)] (fun rv n2 σ2 => some (.int (nI (sR sb N r))) = rv ∧ n = n2 ∧ σ = σ2) := by
  refine GM.intro (by decide +kernel) (Nat.le_of_ble_eq_true rfl) (fun p e s m args below meth c C hr hlocks hname po hpo => ?_)
  have C : Cx p s m args c cX1_sidesOf 2 RX1 G := C
  have hb9 := hL.b
  refine r_iload_n C dX1_sidesOf_0 rfl 1 rfl ?_
  refine r_aload_n C dX1_sidesOf_1 rfl 0 rfl ?_
  refine r_get (Cn := RX1) (T := TX1) (N := 8) (v := .int (nI (sm sb N - 1))) C inlX1 hc0 rfl 3 (by decide) wF_X1_18 (fun _ h => h) rfl dX1_sidesOf_2 ?_
  refine r_iandN C dX1_sidesOf_5 ?_
  refine V.top (y := nI (sR sb N r)) (congrArg nI (sR_sb sb N r)) ?_
  exact r_iret C hr hlocks (Nat.le_of_ble_eq_true rfl) (Nat.le_of_ble_eq_true rfl) dX1_sidesOf_6 (hpo _ _ _ ⟨rfl, rfl, rfl⟩)
