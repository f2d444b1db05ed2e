theorem swp_step {f : Nat → Int32} {k i N o j : Nat} (h1 : i < (k + 1) / 2) (h2 : k ≤ N) (hj : j < N) (hf : ∀ j, j < N → f j = nI (if j < i ∨ (k - i ≤ j ∧ j < k) then sz N o (k - 1 - j) else sz N o j)) :
    upd (upd f i (nI (sz N o (k - 1 - i)))) (k - 1 - i) (nI (sz N o i)) j = nI (if j < i + 1 ∨ (k - (i + 1) ≤ j ∧ j < k) then sz N o (k - 1 - j) else sz N o j) := by
  by_cases g1 : j = k - 1 - i
  · subst g1
    rw [pk_us, if_pos (by omega)]
    congr 2
    omega
  · rw [pk_un g1]
    by_cases g2 : j = i
    · subst g2
      rw [pk_us, if_pos (by omega)]
    · rw [pk_un g2, hf j hj]
      congr 1
      by_cases g3 : j < i ∨ (k - i ≤ j ∧ j < k)
      · rw [if_pos g3, if_pos (by omega)]
      · rw [if_neg g3, if_neg (by omega)]
theorem swp_stepX {f : Nat → Int32} {k i N sd fl j : Nat} (h1 : i < (k + 1) / 2) (h2 : k ≤ N) (hj : j < N) (hf : ∀ j, j < N → f j = nI (if j < i ∨ (k - i ≤ j ∧ j < k) then bt sd (k - 1 - j) ^^^ fl else bt sd j)) :
    upd (upd f i (nI (bt sd (k - 1 - i) ^^^ fl))) (k - 1 - i) (nI (bt sd i ^^^ fl)) j = nI (if j < i + 1 ∨ (k - (i + 1) ≤ j ∧ j < k) then bt sd (k - 1 - j) ^^^ fl else bt sd j) := by
  by_cases g1 : j = k - 1 - i
  · subst g1
    rw [pk_us, if_pos (by omega)]
    rw [show k - 1 - (k - 1 - i) = i by omega]
  · rw [pk_un g1]
    by_cases g2 : j = i
    · subst g2
      rw [pk_us, if_pos (by omega)]
    · rw [pk_un g2, hf j hj]
      congr 1
      by_cases g3 : j < i ∨ (k - i ≤ j ∧ j < k)
      · rw [if_pos g3, if_pos (by omega)]
      · rw [if_neg g3, if_neg (by omega)]
theorem rk_side {kd N o sd : Nat} (h : sid kd = true) (hs : sd < sm (sid kd) N) : rk (sid kd) N o sd &&& (1 * 2 ^ N - 1) = sd := by
  have h2 := sm_two hs
  rw [Nat.one_mul, Nat.and_two_pow_sub_one_eq_mod]
  simp only [rk, h, if_true]
  rw [Nat.mul_comm, Nat.mul_add_mod, Nat.mod_eq_of_lt h2]
theorem sm_zero {kd N sd : Nat} (h : sid kd = false) (hs : sd < sm (sid kd) N) : sd = 0 := by
  simp [sm, h] at hs
  exact hs
theorem rk_ord {kd N o sd : Nat} (h : sid kd = true) (hs : sd < sm (sid kd) N) : rk (sid kd) N o sd / 2 ^ N = o := by
  have h2 := sm_two hs
  simp only [rk, h, if_true]
  rw [Nat.mul_comm, Nat.mul_add_div (by omega), Nat.div_eq_of_lt h2, Nat.add_zero]
theorem rk_lt {kd N o sd : Nat} (hN : N ≤ 6) (ho : o < fac N) (hs : sd < sm (sid kd) N) : rk (sid kd) N o sd < 50000 := by
  have h1 := sm_two hs
  have h2 := two_le hN
  have h3 := (fac_le hN).1
  unfold rk
  split
  · have : o * 2 ^ N ≤ 720 * 64 := Nat.mul_le_mul (by omega) h2
    omega
  · omega
