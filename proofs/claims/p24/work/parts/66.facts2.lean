/-- the turns of the first i stacks -/
def mdS (a : AK) : Nat → Int32
  | 0 => 0
  | i + 1 => mdS a i + aMd a i
/-- turns are counted alike, by stacks and by hands -/
def SUMI (a : AK) : Prop := mdS a (aN a) = aTu a 0 + aTu a 1 + aTu a 2
def SHP (a b : AK) : Prop := aN b = aN a ∧ b.2.2.1 = a.2.2.1
theorem SHP.rf (a : AK) : SHP a a := ⟨rfl, rfl⟩
theorem SHP.tr {a b c : AK} (h : SHP a b) (g : SHP b c) : SHP a c := ⟨g.1.trans h.1, g.2.trans h.2⟩
theorem k_us : chkO (fun N o => usd N o N == 2 * 2 ^ N - 2) = true := by decide +kernel
theorem usd_N {N o : Nat} (hN : N ≤ 6) (ho : o < fac N) : usd N o N = 2 * 2 ^ N - 2 := by
  have := chkO_of k_us hN ho
  simpa using this
theorem k_wtn : chkO (fun N o => (List.range (N + 1)).all fun k => wt N (tnO N o k) k == wt N o k) = true := by decide +kernel
theorem wt_tn {N o k : Nat} (hN : N ≤ 6) (ho : o < fac N) (hk : k ≤ N) : wt N (tnO N o k) k = wt N o k := by
  have := dec1 (chkO_of k_wtn hN ho) k (by omega)
  simpa using this
theorem gp_00 (sb : Bool) {N : Nat} (hN : N ≤ 6) : gp sb N 0 0 = 0 := by
  cases sb <;> rcases (show N = 0 ∨ N = 1 ∨ N = 2 ∨ N = 3 ∨ N = 4 ∨ N = 5 ∨ N = 6 by omega) with rfl | rfl | rfl | rfl | rfl | rfl | rfl <;> decide +kernel
theorem gpA_le (a : AK) (k : Nat) : gpA a k ≤ aCk a k := gpp_le _ _ _ _ _
theorem sr_1 {a : AK} {k : Nat} (hA : AOK a) (hk : k < aN a) (h : srA a k = true) : gpA a k = 0 ∧ rkA a k = 0 := by
  have hv := hA.2.2 k hk
  rw [srA, srt_iff hv] at h
  simp only [Bool.and_eq_true, beq_iff_eq] at h
  rw [gpA, rkA, h.1, h.2]
  exact ⟨gp_00 _ hv.1.N, rk_00 _ _⟩
theorem sr_0 {a : AK} {k : Nat} (hA : AOK a) (hk : k < aN a) (ho : aO a k = 0) (hs : aSd a k = 0) : srA a k = true ∧ gpA a k = 0 ∧ rkA a k = 0 := by
  have hv := hA.2.2 k hk
  refine ⟨?_, ?_, ?_⟩
  · rw [srA, srt_iff hv, ho, hs]; rfl
  · rw [gpA, ho, hs]; exact gp_00 _ hv.1.N
  · rw [rkA, ho, hs]; exact rk_00 _ _
theorem rk_z {a : AK} {k : Nat} (hA : AOK a) (hk : k < aN a) (h : rkA a k = 0) : aO a k = 0 ∧ aSd a k = 0 := by
  have hs := (hA.2.2 k hk).2.2
  have h1 := oR_rk (N := aCk a k) (o := aO a k) hs
  have h2 := sR_rk (N := aCk a k) (o := aO a k) hs
  rw [rkA] at h
  rw [h] at h1 h2
  refine ⟨?_, ?_⟩
  · rw [← h1]; unfold oR; split <;> simp
  · rw [← h2]; unfold sR; split <;> simp
theorem sd_even {a : AK} {k : Nat} (hA : AOK a) (hk : k < aN a) (h : ¬ aKd a k % 2 = 1) : aSd a k = 0 := by
  have hs := (hA.2.2 k hk).2.2
  have e : sid (aKd a k) = false := by simp [sid, h]
  rw [e] at hs
  simpa [sm] using hs
theorem ofa_1 (a : AK) (w : Nat) : nI (ofa a 1 w) + bI (srA a w) = nI (ofa a 1 (w + 1)) := by
  rw [ofa, if_pos rfl, bI_n]
  exact nI_add _ _
theorem ofa_2 (a : AK) (w : Nat) : ofa a 2 (w + 1) = ofa a 2 w + gpA a w := by
  rw [ofa, if_neg (by decide)]
theorem sub_10 (a : Nat) : nI a - nI 10 + nI 10 = nI a := Int32.sub_add_cancel _ _
theorem sub_00 (a : Nat) : nI a - nI 0 = nI a := Int32.sub_zero _
theorem k_le10 : ∀ a, a < 7 → nI a - nI 10 ≤ 0 := by decide +kernel
theorem cake_t {N o sd j : Nat} (hN : N ≤ 6) (ho : o < fac N) (hj : j < N) (h : nI (sz N o j) - nI (10 * bt sd j) ≤ 0) : bt sd j = 1 := by
  have h1 := bt_le sd j
  have h2 := sz_rng hN ho hj
  rcases (show bt sd j = 0 ∨ bt sd j = 1 by omega) with g | g
  · rw [g, Nat.mul_zero, sub_00] at h
    have := Int32.le_iff_toInt_le.mp h
    rw [nI_toInt (by omega), show (0 : Int32).toInt = 0 from rfl] at this
    omega
  · exact g
theorem cake_f {N o sd j : Nat} (hN : N ≤ 6) (ho : o < fac N) (hj : j < N) (h : ¬ nI (sz N o j) - nI (10 * bt sd j) ≤ 0) : bt sd j = 0 := by
  have h1 := bt_le sd j
  have h2 := sz_rng hN ho hj
  rcases (show bt sd j = 0 ∨ bt sd j = 1 by omega) with g | g
  · exact g
  · rw [g] at h
    exact absurd (k_le10 _ (by omega)) h
theorem sz_n0 {N o j b : Nat} (hN : N ≤ 6) (ho : o < fac N) (hj : j < N) (hb : b ≤ 1) : ¬ nI (sz N o j) - nI (10 * b) = 0 := by
  have h2 := sz_rng hN ho hj
  have key : ∀ a, a < 7 → 1 ≤ a → ∀ b, b < 2 → ¬ nI a - nI (10 * b) = 0 := by decide +kernel
  exact key _ (by omega) h2.1 _ (by omega)
/-! a turn -/
theorem tnA_f (a : AK) (k m : Nat) : aN (tnA a k m) = aN a ∧ (tnA a k m).2.2.1 = a.2.2.1 ∧ (∀ j, aKd (tnA a k m) j = aKd a j) ∧ (∀ j, aCk (tnA a k m) j = aCk a j) ∧ (∀ j, aSr (tnA a k m) j = aSr a j) ∧ aH (tnA a k m) = (aH a + 1) % 3 ∧
    aO (tnA a k m) k = tnO (aCk a k) (aO a k) m ∧ aSd (tnA a k m) k = tnS (sid (aKd a k)) (aSd a k) m ∧ aTu (tnA a k m) (aH a) = aTu a (aH a) + nI 1 ∧ aWo (tnA a k m) (aH a) = aWo a (aH a) + nI m := by
  refine ⟨rfl, rfl, fun _ => rfl, fun _ => rfl, fun _ => rfl, rfl, ?_, ?_, ?_, ?_⟩ <;> simp [aO, aSd, aTu, aWo, tnA, va_up]
theorem gpA_tn (a : AK) (k m : Nat) : gpA (tnA a k m) k = gbA a k m := by
  obtain ⟨-, -, h1, h2, -, -, h3, h4, -⟩ := tnA_f a k m
  rw [gpA, gbA, h1, h2, h3, h4]
theorem gbA_tn {a : AK} {k m : Nat} (hA : AOK a) (hk : k < aN a) (hm : m ≤ aCk a k) : gbA (tnA a k m) k m = gpA a k := by
  obtain ⟨-, -, h1, h2, -, -, h3, h4, -⟩ := tnA_f a k m
  have hv := hA.2.2 k hk
  rw [gpA, gbA, h1, h2, h3, h4, tnO_in hv.1.N hv.2.1 hm, tnS_in hv.1.N hv.2.2 hm]
theorem tn2 {a : AK} {k m : Nat} (hA : AOK a) (hk : k < aN a) (hm : m ≤ aCk a k) : cdA (tnA (tnA a k m) k m) k = cdA a k ∧ aSd (tnA (tnA a k m) k m) k = aSd a k := by
  obtain ⟨-, -, h1, h2, -, -, h3, h4, -⟩ := tnA_f a k m
  obtain ⟨-, -, g1, g2, -, -, g3, g4, -⟩ := tnA_f (tnA a k m) k m
  have hv := hA.2.2 k hk
  rw [cdA, cdA, g2, g3, g4, h1, h2, h3, h4, tnO_in hv.1.N hv.2.1 hm, tnS_in hv.1.N hv.2.2 hm]
  exact ⟨rfl, rfl⟩
theorem gb_near {a : AK} {k m : Nat} (hA : AOK a) (hk : k < aN a) (h1 : 1 ≤ m) (hm : m ≤ aCk a k) : gpA a k ≤ gbA a k m + 1 ∧ gbA a k m ≤ gpA a k + 1 := by
  have hv := hA.2.2 k hk
  exact gp_tn hv.1.N hv.2.1 hv.2.2 h1 hm
theorem okA_tn {a : AK} {k m : Nat} (hA : AOK a) (hk : k < aN a) (h : okA a k m = true) (h2 : aKd a k ≠ 2) : okA (tnA a k m) k m = true := by
  obtain ⟨-, -, e1, e2, e3, -, e4, e5, -⟩ := tnA_f a k m
  have hv := hA.2.2 k hk
  rw [okA, okT] at h ⊢
  rw [e1, e2, e3, e4, e5]
  simp only [Bool.and_eq_true, decide_eq_true_eq] at h ⊢
  refine ⟨h.1, ?_⟩
  have h3 := h.2
  rw [al, if_neg h2] at h3 ⊢
  rw [wt_tn hv.1.N hv.2.1 h.1.2]
  exact h3
theorem okA_f {a : AK} {k m : Nat} (h : okA a k m = false) (h1 : 1 ≤ m) (hm : m ≤ aCk a k) : 1 < aKd a k := by
  rw [okA, okT, decide_eq_true ⟨h1, hm⟩, Bool.true_and, al] at h
  by_cases g : aKd a k = 2
  · omega
  · rw [if_neg g] at h
    simp at h
    omega
theorem ps_bit {a : AK} {k m : Nat} (h1 : 1 ≤ m) (hm : m ≤ aCk a k) : psA a k / 2 ^ m &&& 1 = (okA a k m).toNat := by
  have h := psp_tb (aKd a k) (aSr a k) (aCk a k) (aO a k) (aSd a k) (aCk a k) m
  rw [Nat.testBit_eq_decide_div_mod_eq] at h
  rw [Nat.and_one_is_mod, okA, okT, ← h, psA]
  have := Nat.mod_two_eq_zero_or_one (psp (aKd a k) (aSr a k) (aCk a k) (aO a k) (aSd a k) (aCk a k) / 2 ^ m)
  rcases this with g | g <;> simp [g]
theorem psp_lt2 (kd sr N o sd : Nat) : ∀ n, psp kd sr N o sd n < 2 ^ (n + 1)
  | 0 => by simp [psp]
  | n + 1 => by
    rw [psp]
    have h1 : psp kd sr N o sd n < 2 ^ (n + 1 + 1) := Nat.lt_trans (psp_lt2 kd sr N o sd n) (Nat.pow_lt_pow_right (by decide) (by omega))
    refine Nat.or_lt_two_pow h1 ?_
    split
    · rw [Nat.one_mul]; exact Nat.pow_lt_pow_right (by decide) (by omega)
    · exact two_pos _
theorem psA_lt {a : AK} {k : Nat} (hA : AOK a) (hk : k < aN a) : psA a k < 128 := by
  have hN := (hA.2.2 k hk).1.N
  exact Nat.lt_of_lt_of_le (psp_lt2 _ _ _ _ _ _) (Nat.pow_le_pow_right (n := 2) (by decide) (show aCk a k + 1 ≤ 7 by omega))
theorem mdS_c {a b : AK} : ∀ n, (∀ j, j < n → aMd b j = aMd a j) → mdS b n = mdS a n
  | 0, _ => rfl
  | n + 1, h => by rw [mdS, mdS, mdS_c n (fun j hj => h j (by omega)), h n (by omega)]
theorem i32_acb (x y z : Int32) : x + y + z = x + z + y := by rw [Int32.add_assoc, Int32.add_comm y z, ← Int32.add_assoc]
theorem mdS_tn (a : AK) (k m : Nat) : ∀ n, k < n → mdS (tnA a k m) n = mdS a n + nI 1
  | 0, h => absurd h (Nat.not_lt_zero k)
  | n + 1, h => by
    rw [mdS, mdS]
    by_cases g : k = n
    · subst g
      rw [mdS_c (a := a) (b := tnA a k m) k (fun j hj => by simp [aMd, tnA, va_up, show j ≠ k by omega]), show aMd (tnA a k m) k = aMd a k + nI 1 by simp [aMd, tnA, va_up], ← Int32.add_assoc]
    · rw [mdS_tn a k m n (by omega), show aMd (tnA a k m) n = aMd a n by simp [aMd, tnA, va_up, show n ≠ k from fun z => g z.symm], i32_acb]
theorem SUMI.tn {a : AK} {k m : Nat} (h : SUMI a) (hH : aH a < 3) (hk : k < aN a) : SUMI (tnA a k m) := by
  unfold SUMI at h ⊢
  rw [(tnA_f a k m).1, mdS_tn a k m _ hk, h]
  have e : ∀ j, aTu (tnA a k m) j = if j = aH a then aTu a (aH a) + nI 1 else aTu a j := fun j => rfl
  rw [e, e, e]
  rcases (show aH a = 0 ∨ aH a = 1 ∨ aH a = 2 by omega) with g | g | g <;> rw [g]
  · rw [if_pos rfl, if_neg (by decide), if_neg (by decide), i32_acb _ (aTu a 2) (nI 1), i32_acb (aTu a 0)]
  · rw [if_neg (by decide), if_pos rfl, if_neg (by decide), i32_acb _ (aTu a 2) (nI 1), Int32.add_assoc (aTu a 0)]
  · rw [if_neg (by decide), if_neg (by decide), if_pos rfl, Int32.add_assoc (aTu a 0 + aTu a 1)]
theorem SUMI.rw {k row : Nat} : ∀ {j : Nat} {a a2 : AK}, AOK a → SUMI a → k < aN a → rwA k row j a = some a2 → SUMI a2
  | 0, a, a2, _, h, _, h2 => by cases h2; exact h
  | j + 1, a, a2, hA, h, hk, h2 => by
    rw [rwA] at h2
    split at h2
    · next g => exact SUMI.rw (a := tnA a k (row / 10 ^ j % 10)) (tnA_ok hA hk g) (h.tn hA.2.1 hk) hk h2
    · cases h2
theorem SUMI.lay {a : AK} {k o2 sd2 : Nat} (h : SUMI a) : SUMI (layA a k o2 sd2) := by
  unfold SUMI at h ⊢
  rw [show aN (layA a k o2 sd2) = aN a from rfl, mdS_c (a := a) (b := layA a k o2 sd2) _ (fun j _ => rfl)]
  exact h
theorem SUMI.add {a : AK} {kd N sr : Nat} (h : SUMI a) : SUMI (addA a kd N sr) := by
  unfold SUMI at h ⊢
  rw [show aN (addA a kd N sr) = aN a + 1 from rfl, mdS, mdS_c (a := a) (b := addA a kd N sr) _ (fun j hj => (addA_o (by omega)).2.2.2.2.2), addA_n.2.2.2.2.2, h]
  exact Int32.add_zero _
theorem zP_top (Z : ZT) (a2 : AK) : zH (zP Z a2) (zS (zP Z a2) - 1) = zA Z ∧ 1 ≤ zS (zP Z a2) := by
  have e : zS (zP Z a2) = if zS Z < 4 then zS Z + 1 else 4 := rfl
  have e2 : ∀ i, zH (zP Z a2) i = if zS Z < 4 then (if i = zS Z then zA Z else zH Z i) else (if i = 3 then zA Z else zH Z (i + 1)) := fun i => rfl
  rw [e2, e]
  by_cases g : zS Z < 4
  · rw [if_pos g, if_pos g, Nat.add_sub_cancel, if_pos rfl]; exact ⟨rfl, by omega⟩
  · rw [if_neg g, if_neg g, if_pos rfl]; exact ⟨rfl, by omega⟩
theorem zU_ok {Z : ZT} (h : ZOK Z) (h1 : 1 ≤ zS Z) : ZOK (zH Z (zS Z - 1), zH Z, zS Z - 1, zX Z, zL Z) := ⟨h.2.1 _ (by omega), fun i hi => h.2.1 i (by have hi : i < zS Z - 1 := hi; omega), by show zS Z - 1 ≤ 4; have := h.2.2.1; omega, h.2.2.2.1, h.2.2.2.2⟩
/-! rows that sort -/
theorem cF_0 : cF false = one := by funext m; simp [cF, one]
theorem pth_one {kd sr N : Nat} : ∀ {l w r : Nat}, pth one kd sr N l w r → w = l
  | 0, _, _, h => h.1
  | l + 1, w, r, h => by
    obtain ⟨m, r2, w2, -, hw, hp⟩ := h
    rw [hw, pth_one hp]; rfl
theorem pth_ge {kd sr N : Nat} : ∀ {l w r : Nat}, pth (cF true) kd sr N l w r → l ≤ w
  | 0, _, _, _ => Nat.zero_le _
  | l + 1, w, r, h => by
    obtain ⟨m, r2, w2, e, hw, hp⟩ := h
    have h1 := pth_ge hp
    have h2 := e.1
    have h3 : cF true m = m := if_pos rfl
    omega
theorem pth_c {c c2 : Nat → Nat} {kd sr N : Nat} : ∀ {l w r : Nat}, pth c kd sr N l w r → ∃ w2, pth c2 kd sr N l w2 r
  | 0, w, r, h => ⟨0, rfl, h.2⟩
  | l + 1, w, r, h => by
    obtain ⟨m, r2, w2, e, hw, hp⟩ := h
    obtain ⟨w3, h3⟩ := pth_c (c2 := c2) hp
    exact ⟨w3 + c2 m, m, r2, w3, e, rfl, h3⟩
theorem wyp_pos {kd sr N t r m : Nat} (h1 : 1 ≤ m) (ha : aR1 kd sr N r m = true) (hw : 0 < wy kd sr N t (nx (sid kd) N r m)) : ∀ i, m ≤ i → 0 < wyp kd sr N t r i
  | 0, h => absurd h (by omega)
  | i + 1, h => by
    rw [wyp]
    by_cases g : m = i + 1
    · subst g
      rw [if_pos ha]; omega
    · have := wyp_pos h1 ha hw i (by omega)
      omega
theorem wyp_ex {kd sr N t r : Nat} : ∀ i, 0 < wyp kd sr N t r i → ∃ m, 1 ≤ m ∧ m ≤ i ∧ aR1 kd sr N r m = true ∧ 0 < wy kd sr N t (nx (sid kd) N r m)
  | 0, h => absurd h (Nat.lt_irrefl 0)
  | i + 1, h => by
    rw [wyp] at h
    by_cases g : 0 < wyp kd sr N t r i
    · obtain ⟨m, h1, h2, h3⟩ := wyp_ex i g
      exact ⟨m, h1, by omega, h3⟩
    · by_cases ha : aR1 kd sr N r (i + 1) = true
      · rw [if_pos ha] at h
        exact ⟨i + 1, by omega, Nat.le_refl _, ha, by omega⟩
      · rw [if_neg ha] at h; omega
theorem pth_wy {c : Nat → Nat} {kd sr N : Nat} : ∀ {l w r : Nat}, pth c kd sr N l w r → 0 < wy kd sr N l r
  | 0, w, r, h => by rw [wy, if_pos h.2]; decide
  | l + 1, w, r, h => by
    obtain ⟨m, r2, w2, e, hw, hp⟩ := h
    obtain ⟨h1, h2, h3, h4⟩ := e
    subst h4
    rw [← wy_s]
    exact wyp_pos h1 h3 (pth_wy hp) N h2
theorem wy_pth {kd sr N : Nat} : ∀ {t r : Nat}, 0 < wy kd sr N t r → pth one kd sr N t t r
  | 0, r, h => by
    rw [wy] at h
    by_cases g : r = 0
    · exact ⟨rfl, g⟩
    · rw [if_neg g] at h; exact absurd h (Nat.lt_irrefl 0)
  | t + 1, r, h => by
    rw [← wy_s] at h
    obtain ⟨m, h1, h2, h3, h4⟩ := wyp_ex N h
    exact ⟨m, _, t, ⟨h1, h2, h3, rfl⟩, rfl, wy_pth h4⟩
section
variable {kd sr N r : Nat}
theorem ds_wy (hh : shOK kd N sr) (hr : r < rR (sid kd) N) (h : dst false kd sr N r ≠ 1000000) : 0 < wy kd sr N (dst false kd sr N r) r := by
  obtain ⟨-, h2, -⟩ := dst_ok false hh r hr
  obtain ⟨⟨l, hl⟩, -⟩ := h2 h
  rw [cF_0] at hl
  have := pth_one hl
  rw [this]
  exact pth_wy hl
theorem ds_lo (hh : shOK kd N sr) (hr : r < rR (sid kd) N) {t : Nat} (h : t < dst false kd sr N r) : wy kd sr N t r = 0 := by
  obtain ⟨-, h2, h3⟩ := dst_ok false hh r hr
  rw [cF_0] at h2 h3
  by_cases g : 0 < wy kd sr N t r
  · have hp : rc one kd sr N t r := ⟨t, wy_pth g⟩
    by_cases e : dst false kd sr N r = 1000000
    · exact absurd hp (h3 e _)
    · have := (h2 e).2 _ hp
      omega
  · omega
theorem ds_gap (hh : shOK kd N sr) (hr : r < rR (sid kd) N) (h : dst false kd sr N r ≠ 1000000) : gpR kd N r ≤ dst false kd sr N r := by
  have h1 := ds_wy hh hr h
  by_cases g : dst false kd sr N r < gpR kd N r
  · rw [wy_gap hh.N _ _ hr g] at h1
    exact absurd h1 (Nat.lt_irrefl 0)
  · omega
theorem ds_work (hh : shOK kd N sr) (hr : r < rR (sid kd) N) (h : dst false kd sr N r ≠ 1000000) : dst true kd sr N r < 1000000 ∧ dst false kd sr N r ≤ dst true kd sr N r := by
  obtain ⟨-, h2, h3⟩ := dst_ok false hh r hr
  obtain ⟨g1, g2, g3⟩ := dst_ok true hh r hr
  obtain ⟨⟨l, hl⟩, hmin⟩ := h2 h
  obtain ⟨w2, hw2⟩ := pth_c (c2 := cF true) hl
  have hne : dst true kd sr N r ≠ 1000000 := fun z => g3 z _ ⟨l, hw2⟩
  obtain ⟨⟨l2, hl2⟩, -⟩ := g2 hne
  obtain ⟨w3, hw3⟩ := pth_c (c2 := cF false) hl2
  have h5 := hmin _ ⟨l2, hw3⟩
  rw [cF_0] at hw3
  have h6 := pth_one hw3
  have h7 := pth_ge hl2
  omega
theorem ofd_pos {dd : Nat → Nat} {w : Nat} : ∀ {i : Nat}, r < i → dd r = w → 0 < ofd dd w i
  | 0, h, _ => absurd h (Nat.not_lt_zero r)
  | i + 1, h, e => by
    rw [ofd]
    by_cases g : r = i
    · subst g; rw [if_pos e]; omega
    · have := ofd_pos (i := i) (by omega) e
      omega
theorem ds_0 (hh : shOK kd N sr) : dst false kd sr N 0 = 0 := by
  obtain ⟨-, h2, h3⟩ := dst_ok false hh 0 (rR_pos hh.N)
  have hp : rc (cF false) kd sr N 0 0 := ⟨0, rfl, rfl⟩
  by_cases e : dst false kd sr N 0 = 1000000
  · exact absurd hp (h3 e _)
  · have := (h2 e).2 _ hp
    omega
theorem ds_z (hh : shOK kd N sr) (hr : r < rR (sid kd) N) (h : dst false kd sr N r = 0) : r = 0 := by
  obtain ⟨-, h2, h3⟩ := dst_ok false hh r hr
  obtain ⟨⟨l, hl⟩, -⟩ := h2 (by rw [h]; decide)
  rw [h, cF_0] at hl
  have := pth_one hl
  subst this
  exact hl.2
end
theorem rkA_tn {a : AK} {k m : Nat} (hA : AOK a) (hk : k < aN a) : rkA (tnA a k m) k = nx (sid (aKd a k)) (aCk a k) (rkA a k) m := by
  obtain ⟨-, -, h1, h2, -, -, h3, h4, -⟩ := tnA_f a k m
  have hs := (hA.2.2 k hk).2.2
  rw [rkA, h1, h2, h3, h4, nx, rkA, oR_rk hs, sR_rk hs]
/-- the digits of the first row lead to the sorted stack -/
theorem fw_rw {k kd sr N : Nat} (hh : shOK kd N sr) : ∀ (t row : Nat) (a : AK), AOK a → k < aN a → aKd a k = kd → aCk a k = N → aSr a k = sr → dst false kd sr N (rkA a k) = t → t ≤ 9 →
    fwR kd sr N (dst false kd sr N) t (rkA a k) row / 10 ^ t = row ∧ ∃ a2, rwA k (fwR kd sr N (dst false kd sr N) t (rkA a k) row) t a = some a2 ∧ rkA a2 k = 0
  | 0, row, a, hA, hk, e1, e2, e3, hd, _ => by
    refine ⟨by rw [fwR]; simp, a, rfl, ?_⟩
    have hr := rk_at hA hk e1 e2
    rw [rkA, e1, e2] at hd ⊢
    exact ds_z hh hr hd
  | t + 1, row, a, hA, hk, e1, e2, e3, hd, h9 => by
    have hr := rk_at hA hk e1 e2
    have er : rkA a k = rk (sid kd) N (aO a k) (aSd a k) := by rw [rkA, e1, e2]
    rw [← er] at hr
    have hD := dst_ok false hh
    rw [cF_0] at hD
    obtain ⟨f1, f2, ⟨f3, f4⟩, -⟩ := fst_ok hh hD hr (by omega) (by omega)
    rw [fwR, if_neg (by omega)]
    have hm6 := hh.N
    generalize hm : fst9 kd sr N (dst false kd sr N) (rkA a k) = m at *
    have hok : okA a k m = true := by
      rw [okA_R hA hk e1 e2 e3, okR, ← er, f3, Bool.and_true]
      exact decide_eq_true ⟨f1, f2⟩
    have hx := rkA_tn (m := m) hA hk
    rw [e1, e2] at hx
    obtain ⟨g1, a2, g2, g3⟩ := fw_rw hh t (10 * row + m) (tnA a k m) (tnA_ok hA hk hok) hk e1 e2 e3 (by rw [hx, f4, hd]; rfl) (by omega)
    rw [hx] at g1 g2
    generalize hF : fwR kd sr N (dst false kd sr N) t (nx (sid kd) N (rkA a k) m) (10 * row + m) = F at *
    have hdig : F / 10 ^ t % 10 = m := by rw [g1]; omega
    refine ⟨?_, a2, ?_, g3⟩
    · rw [Nat.pow_succ, ← Nat.div_div_eq_div_mul, g1]; omega
    · rw [rwA, hdig, if_pos hok]
      exact g2
/-- its first digit is no 0 -/
theorem fw_hd {k kd sr N : Nat} (hh : shOK kd N sr) {t : Nat} {a : AK} (hA : AOK a) (hk : k < aN a) (e1 : aKd a k = kd) (e2 : aCk a k = N) (e3 : aSr a k = sr) (hd : dst false kd sr N (rkA a k) = t + 1) (h9 : t + 1 ≤ 9) : 10 ^ t ≤ fwR kd sr N (dst false kd sr N) (t + 1) (rkA a k) 0 := by
  have hr := rk_at hA hk e1 e2
  have er : rkA a k = rk (sid kd) N (aO a k) (aSd a k) := by rw [rkA, e1, e2]
  rw [← er] at hr
  have hD := dst_ok false hh
  rw [cF_0] at hD
  obtain ⟨f1, f2, ⟨f3, f4⟩, -⟩ := fst_ok hh hD hr (by omega) (by omega)
  rw [fwR, if_neg (by omega)]
  generalize hm : fst9 kd sr N (dst false kd sr N) (rkA a k) = m at *
  have hok : okA a k m = true := by
    rw [okA_R hA hk e1 e2 e3, okR, ← er, f3, Bool.and_true]
    exact decide_eq_true ⟨f1, f2⟩
  have hx := rkA_tn (m := m) hA hk
  rw [e1, e2] at hx
  obtain ⟨g1, -⟩ := fw_rw hh t (10 * 0 + m) (tnA a k m) (tnA_ok hA hk hok) hk e1 e2 e3 (by rw [hx, f4, hd]; rfl) (by omega)
  rw [hx] at g1
  have h1 : 1 ≤ fwR kd sr N (dst false kd sr N) t (nx (sid kd) N (rkA a k) m) (10 * 0 + m) / 10 ^ t := by rw [g1]; omega
  have h2 := (Nat.le_div_iff_mul_le (Nat.pow_pos (n := t) (show 0 < 10 by decide))).mp h1
  omega
theorem k_m1 : ∀ a, a < 9 → ∀ b, b < 9 → a ≤ b + 1 → ¬ nI b < nI a - nI 1 := by decide +kernel
theorem gp0_rk {a : AK} {k : Nat} (hA : AOK a) (hk : k < aN a) (h : gpA a k = 0) : rkA a k = 0 := by
  have hv := hA.2.2 k hk
  have hr := rk_at hA hk rfl rfl
  refine gp0_o hv.1.N hr ?_
  exact (gpR_rk hv.2.2).trans h
theorem gpR_A {a : AK} {k : Nat} (hA : AOK a) (hk : k < aN a) : gpR (aKd a k) (aCk a k) (rkA a k) = gpA a k := gpR_rk (hA.2.2 k hk).2.2
/-- all that is wanted of the first row of turns -/
theorem fwA_ok {a : AK} {k : Nat} (hA : AOK a) (hk : k < aN a) (h1 : 1 ≤ dsA a k) (h8 : dsA a k ≤ 8) : (1 ≤ fwA a k ∧ fwA a k ≤ 99999999) ∧ (1 ≤ dsA a k ∧ dsA a k ≤ 8 ∧ 10 ^ (dsA a k - 1) ≤ fwA a k ∧ fwA a k < 10 ^ dsA a k) ∧ ∃ a2, rwA k (fwA a k) (dsA a k) a = some a2 ∧ rkA a2 k = 0 := by
  have hv := hA.2.2 k hk
  obtain ⟨f1, f2⟩ := fw_rw hv.1 (dsA a k) 0 a hA hk rfl rfl rfl rfl (by omega)
  obtain ⟨t, ht⟩ : ∃ t, dsA a k = t + 1 := ⟨dsA a k - 1, by omega⟩
  have f3 := fw_hd hv.1 hA hk rfl rfl rfl ht (by omega)
  rw [← ht] at f3
  have f1 : fwA a k / 10 ^ dsA a k = 0 := f1
  have f2 : ∃ a2, rwA k (fwA a k) (dsA a k) a = some a2 ∧ rkA a2 k = 0 := f2
  have f3 : 10 ^ t ≤ fwA a k := f3
  have hp : 0 < 10 ^ dsA a k := Nat.pow_pos (by decide)
  have f4 : fwA a k < 10 ^ dsA a k := by
    rcases Nat.div_eq_zero_iff.mp f1 with g | g
    · omega
    · exact g
  have h8p : 10 ^ dsA a k ≤ 10 ^ 8 := Nat.pow_le_pow_right (by decide) h8
  have h1p : 0 < 10 ^ t := Nat.pow_pos (by decide)
  refine ⟨⟨by omega, by omega⟩, ⟨h1, h8, ?_, f4⟩, f2⟩
  rw [ht, Nat.add_sub_cancel]
  exact f3
theorem wyp_le {kd sr N t r B : Nat} (h : ∀ r, wy kd sr N t r ≤ B) : ∀ i, wyp kd sr N t r i ≤ i * B
  | 0 => by rw [wyp]; omega
  | i + 1 => by
    rw [wyp, Nat.succ_mul]
    have := wyp_le h (r := r) i
    have h2 := h (nx (sid kd) N r (i + 1))
    split <;> omega
theorem wy_le {kd sr N : Nat} : ∀ t r, wy kd sr N t r ≤ N ^ t
  | 0, r => by rw [wy]; split <;> simp
  | t + 1, r => by
    rw [← wy_s, Nat.pow_succ, Nat.mul_comm]
    exact wyp_le (wy_le t) N
theorem wy_31 {kd sr N t r : Nat} (hN : N ≤ 6) (ht : t ≤ 5) : wy kd sr N t r < 2 ^ 31 := by
  have h1 := wy_le (kd := kd) (sr := sr) (N := N) t r
  have h2 : N ^ t ≤ 6 ^ t := Nat.pow_le_pow_left hN t
  have h3 : 6 ^ t ≤ 6 ^ 5 := Nat.pow_le_pow_right (by decide) ht
  omega
theorem ofd_le {dd : Nat → Nat} {w : Nat} : ∀ i, ofd dd w i ≤ i
  | 0 => Nat.le_refl _
  | i + 1 => by
    have := ofd_le (dd := dd) (w := w) i
    rw [ofd]
    split <;> omega
theorem msk (x : Int32) : ∃ y, y < 2 ^ 31 ∧ x &&& nI 2147483647 = nI y := by
  refine ⟨(x.toBitVec &&& BitVec.ofNat 32 2147483647).toNat, ?_, ?_⟩
  · rw [BitVec.toNat_and]; exact Nat.and_lt_two_pow _ (by decide)
  · apply Int32.toBitVec_inj.mp
    rw [Int32.toBitVec_and, nI_bv, nI_bv, BitVec.ofNat_toNat, BitVec.setWidth_eq]
/-! a contract that reads the law's own script -/
def cPre (G : gG) (n : Nat) (σ : gS) (av : List Value) (b L : Nat) (xs : Nat → Int32) : Array Value → State → Prop := fun v U => gPre G n σ av v U ∧ va_X b L xs U U.heap ∧ b < U.heap.size
theorem cPre.blind {G : gG} {n : Nat} {σ : gS} {av : List Value} {b L : Nat} {xs : Nat → Int32} : FrameBlind (cPre G n σ av b L xs) := fun a U g mk q => ⟨gPre.blind a U g mk q.1, va_X.moved (u := U) (U := U.calling g mk a) (Vm.Alike.refl U.vm) q.2.1, q.2.2⟩
abbrev CM (l : Launch) (G : gG) (y : MethodName) (cc : ByteArray) (maxL : Nat) (ret : Option FieldType) (rm : Room) (n : Nat) (σ : gS) (av : List Value) (b L : Nat) (xs : Nat → Int32) (post : Option Value → Nat → gS → Prop) : Prop := Met l y (wm y cc maxL ret) rm (cPre G n σ av b L xs) (gQ G post) rm.cells rm.slots (gF G)
