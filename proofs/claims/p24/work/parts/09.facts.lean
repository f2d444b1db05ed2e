theorem bI_t {b : Bool} (h : b = true) : some (Value.int (bI b)) = some (.int (nI 1)) := by rw [h]; rfl
theorem bI_f {b : Bool} (h : b = false) : some (Value.int (bI b)) = some (.int (nI 0)) := by rw [h]; rfl
theorem bI_u {b : Bool} : some (Value.int (bI b)) = some (.int (nI b.toNat)) := by cases b <;> rfl
theorem in_1 {v low high : Int32} (h : v < low) : decide (low ≤ v ∧ v ≤ high) = false := by
  rw [decide_eq_false_iff_not]
  intro hh
  exact absurd h (Int32.not_lt.mpr hh.1)
theorem in_2 {v low high : Int32} (h : high < v) : decide (low ≤ v ∧ v ≤ high) = false := by
  rw [decide_eq_false_iff_not]
  intro hh
  exact absurd h (Int32.not_lt.mpr hh.2)
theorem in_3 {v low high : Int32} (h1 : ¬ v < low) (h2 : ¬ high < v) : decide (low ≤ v ∧ v ≤ high) = true := by
  rw [decide_eq_true_iff]
  exact ⟨Int32.not_lt.mp h1, Int32.not_lt.mp h2⟩
theorem bt_le (sd j : Nat) : bt sd j ≤ 1 := by unfold bt; omega
theorem sz_rng {N o j : Nat} (hN : N ≤ 6) (ho : o < fac N) (hj : j < N) : 1 ≤ sz N o j ∧ sz N o j ≤ N := of_decide_eq_true (dec1 (chkO_of k_rng hN ho) j hj)
theorem cd_dig {N o j : Nat} (hN : N ≤ 6) (ho : o < fac N) (hj : j < N) : cd N o / 10 ^ (N - 1 - j) % 10 = sz N o j := by
  have := dec1 (chkO_of k_dig hN ho) j hj
  simpa using this
theorem cd_lt {N o : Nat} (hN : N ≤ 6) (ho : o < fac N) : cd N o < 1000000 := by
  have := chkO_of k_cd hN ho
  simp at this
  exact this.1
theorem cdp_lt {N o i : Nat} (hN : N ≤ 6) (ho : o < fac N) (hi : i < 7) : cdp N o i < 1000000 := by
  have := chkO_of k_cd hN ho
  simp at this
  exact this.2 i hi
theorem tnO_lt {N o k : Nat} (hN : N ≤ 6) (ho : o < fac N) (hk : k ≤ N) : tnO N o k < fac N := by
  have := dec1 (chkO_of k_tn hN ho) k (by omega)
  simp at this
  exact this.1
theorem tnO_sz {N o k j : Nat} (hN : N ≤ 6) (ho : o < fac N) (hk : k ≤ N) (hj : j < N) : sz N (tnO N o k) j = if j < k then sz N o (k - 1 - j) else sz N o j := by
  have := dec1 (chkO_of k_tn hN ho) k (by omega)
  simp at this
  simpa using this.2 j hj
theorem lvp_N {N o : Nat} (hN : N ≤ 6) (ho : o < fac N) : lvp N o N = o := by
  have := chkO_of k_lv hN ho
  simp at this
  exact this.1
theorem lvp_lt {N o i : Nat} (hN : N ≤ 6) (ho : o < fac N) (hi : i ≤ N) : lvp N o i < 1000 := by
  have := chkO_of k_lv hN ho
  simp at this
  exact this.2 i (by omega)
theorem lsp_le (N o i : Nat) : ∀ j, lsp N o i j ≤ j
  | 0 => Nat.le_refl _
  | j + 1 => by
    have := lsp_le N o i j
    unfold lsp
    split <;> omega
theorem ict_sz {N o p : Nat} (hN : N ≤ 6) (ho : o < fac N) (hp : p < N) : ict (usd N o p) 8 1 (urs N o p / fac (N - 1 - p)) = some (sz N o p) ∧ urs N o p < 1000 ∧ usd N o p < 256 := by
  have := dec1 (chkO_of k_ic hN ho) p hp
  simp at this
  exact ⟨this.1.1, this.1.2, this.2⟩
theorem wt_le {N o i : Nat} (hN : N ≤ 6) (ho : o < fac N) (hi : i ≤ N) : wt N o i ≤ 21 := by
  have := dec1 (chkO_of k_wt hN ho) i (by omega)
  simpa using this
theorem two_le {N : Nat} (hN : N ≤ 6) : 2 ^ N ≤ 64 := Nat.pow_le_pow_right (n := 2) (by decide) hN
theorem sm_le {sb : Bool} {N : Nat} (hN : N ≤ 6) : sm sb N ≤ 64 := by
  unfold sm
  split
  · exact two_le hN
  · decide
theorem sdp_N {N sd : Nat} (hN : N ≤ 6) (h : sd < 2 ^ N) : sdp sd N = sd := by
  have h1 := two_le hN
  have := chk2_of k_sd (i := N) (j := sd) (by omega) (by omega)
  simp at this
  exact (this.resolve_left (by omega)).1
theorem sm_two {sb : Bool} {N sd : Nat} (h : sd < sm sb N) : sd < 2 ^ N := by
  unfold sm at h
  split at h
  · exact h
  · have : 0 < 2 ^ N := Nat.pos_of_ne_zero (by simp)
    omega
theorem sdp_lt {N sd i : Nat} (hN : N ≤ 6) (h : sd < 2 ^ N) (hi : i < N) : sdp sd i < 64 := by
  have h1 := two_le hN
  have := chk2_of k_sd (i := N) (j := sd) (by omega) (by omega)
  simp at this
  exact (this.resolve_left (by omega)).2 i hi
theorem bt_0 (j : Nat) : bt 0 j = 0 := by simp [bt]
theorem tnS_bt {sb : Bool} {N sd k j : Nat} (hN : N ≤ 6) (hs : sd < sm sb N) (hk : k ≤ N) (hj : j < N) : bt (tnS sb sd k) j = if j < k then bt sd (k - 1 - j) ^^^ sb.toNat else bt sd j := by
  cases sb with
  | false =>
    have h0 : sd = 0 := by simp [sm] at hs; exact hs
    subst h0
    simp [tnS, bt_0]
  | true =>
    have h2 : sd < 2 ^ N := by simpa [sm] using hs
    have h1 := two_le hN
    have := chk2_of k_ts (i := N) (j := sd) (by omega) (by omega)
    simp at this
    have h3 := (this.resolve_left (by omega)) k (by omega)
    rw [h3.2 j hj]
    have hx : ∀ x, x ≤ 1 → 1 - x = x ^^^ 1 := by
      intro x hx
      rcases (show x = 0 ∨ x = 1 by omega) with rfl | rfl <;> rfl
    simp only [Bool.toNat_true]
    split
    · exact hx _ (bt_le _ _)
    · rfl
theorem tnS_lt {sb : Bool} {N sd k : Nat} (hN : N ≤ 6) (hs : sd < sm sb N) (hk : k ≤ N) : tnS sb sd k < sm sb N := by
  cases sb with
  | false => simpa [tnS] using hs
  | true =>
    have h2 : sd < 2 ^ N := by simpa [sm] using hs
    have h1 := two_le hN
    have := chk2_of k_ts (i := N) (j := sd) (by omega) (by omega)
    simp at this
    have h3 := (this.resolve_left (by omega)) k (by omega)
    simpa [sm] using h3.1
theorem dif_1 : ∀ a, a < 7 → ∀ b, b < 7 → (nI a - nI b = nI 1 ↔ a = b + 1) := by decide +kernel
theorem dif_m : ∀ a, a < 7 → ∀ b, b < 7 → (nI a - nI b = -1 ↔ b = a + 1) := by decide +kernel
theorem fac_le {N : Nat} (hN : N ≤ 6) : fac N ≤ 720 ∧ 1 ≤ fac N := by
  rcases (show N = 0 ∨ N = 1 ∨ N = 2 ∨ N = 3 ∨ N = 4 ∨ N = 5 ∨ N = 6 by omega) with rfl | rfl | rfl | rfl | rfl | rfl | rfl <;> decide
theorem srp_iff (N o sd : Nat) : ∀ i, srp N o sd i = true ↔ ∀ j, j < i → sz N o j = j + 1 ∧ bt sd j = 0
  | 0 => by simp [srp]
  | i + 1 => by
    simp only [srp, Bool.and_eq_true, srp_iff N o sd i, beq_iff_eq]
    constructor
    · intro h j hj
      rcases Nat.lt_succ_iff_lt_or_eq.mp hj with h1 | h1
      · exact h.1 j h1
      · subst h1; exact h.2
    · intro h
      exact ⟨fun j hj => h j (by omega), h i (by omega)⟩
theorem nI_inj7 {a b : Nat} (ha : a < 2 ^ 31) (hb : b < 2 ^ 31) (h : nI a = nI b) : a = b := (nI_eq ha hb).mp h
theorem gpp_le (sb : Bool) (N o sd : Nat) : ∀ i, gpp sb N o sd i ≤ i
  | 0 => Nat.le_refl _
  | i + 1 => by
    have := gpp_le sb N o sd i
    unfold gpp
    split <;> omega
