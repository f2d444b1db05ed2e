-- rows of turns pruned by gaps
theorem gpR_nx {kd N r m : Nat} (hN : N ≤ 6) (hr : r < rR (sid kd) N) (h1 : 1 ≤ m) (h : m ≤ N) : gpR kd N r ≤ gpR kd N (nx (sid kd) N r m) + 1 := by
  have h2 := (gp_tn (sb := sid kd) hN (oR_lt hr) (sR_lt (sb := sid kd) (N := N) (r := r)) h1 h).1
  rw [nx, gpR_rk (tnS_lt hN sR_lt h)]
  exact h2
theorem gpR_00 (kd : Nat) {N : Nat} (hN : N ≤ 6) : gpR kd N 0 = 0 := by
  have h1 : oR (sid kd) N 0 = 0 := by unfold oR; split <;> simp
  have h2 : sR (sid kd) N 0 = 0 := by unfold sR; split <;> simp
  rw [gpR, h1, h2]
  cases sid kd <;> rcases (show N = 0 ∨ N = 1 ∨ N = 2 ∨ N = 3 ∨ N = 4 ∨ N = 5 ∨ N = 6 by omega) with rfl | rfl | rfl | rfl | rfl | rfl | rfl <;> decide +kernel
theorem wy_gap {kd sr N : Nat} (hN : N ≤ 6) : ∀ (t r : Nat), r < rR (sid kd) N → t < gpR kd N r → wy kd sr N t r = 0
  | 0, r, hr, h => by
    rw [wy, if_neg]
    intro z
    rw [z, gpR_00 kd hN] at h
    omega
  | t + 1, r, hr, h => by
    rw [← wy_s]
    have : ∀ i, i ≤ N → wyp kd sr N t r i = 0 := by
      intro i
      induction i with
      | zero => intro _; rfl
      | succ i ih =>
        intro hi
        rw [wyp, ih (by omega)]
        have h3 := gpR_nx hN hr (show 1 ≤ i + 1 by omega) hi
        rw [wy_gap hN t _ (nx_lt hN hr hi) (by omega)]
        simp
    exact this N (Nat.le_refl _)
theorem k_g0 : chkO (fun N o => (o == 0 || decide (0 < gp false N o 0)) && (o == 0 || decide (0 < gp true N o 0))) = true := by decide +kernel
theorem gpp_0le {sb : Bool} {N o sd : Nat} : ∀ i, gpp sb N o sd i = 0 → ∀ p, p < i → jn sb N o sd p = true
  | 0, _, p, h => absurd h (Nat.not_lt_zero p)
  | i + 1, h, p, hp => by
    rw [gpp_gif] at h
    rcases Nat.lt_or_eq_of_le (Nat.le_of_lt_succ hp) with g | g
    · exact gpp_0le i (by omega) p g
    · rw [g]
      cases e : jn sb N o sd i with
      | true => rfl
      | false => rw [e] at h; simp at h
theorem bts_0 {N o sd : Nat} (h : ∀ p, p < N → jn true N o sd p = true) : ∀ d, d < N → bt sd (N - 1 - d) = 0
  | 0, hd => by
    have h1 := h (N - 1) (by omega)
    rw [jn, if_pos (show N - 1 + 1 = N by omega)] at h1
    simp at h1
    exact h1.2
  | d + 1, hd => by
    have h0 := bts_0 h d (by omega)
    have h1 := h (N - 1 - (d + 1)) (by omega)
    rw [jn_q (by omega) rfl, show N - 1 - (d + 1) + 1 = N - 1 - d by omega] at h1
    simp at h1
    rw [h1.1, h0]
theorem gp0_o {kd N r : Nat} (hN : N ≤ 6) (hr : r < rR (sid kd) N) (h : gpR kd N r = 0) : r = 0 := by
  rw [rk_R (sid kd) N r]
  have ho := oR_lt hr
  have hs := sR_lt (sb := sid kd) (N := N) (r := r)
  rw [gpR] at h
  generalize oR (sid kd) N r = o at *
  generalize sR (sid kd) N r = sd at *
  have hk := chkO_of k_g0 hN ho
  simp only [Bool.and_eq_true, Bool.or_eq_true, beq_iff_eq, decide_eq_true_eq] at hk
  have hs0 : sd = 0 := by
    cases hb : sid kd with
    | false => rw [hb] at hs; simpa [sm] using hs
    | true =>
      rw [hb] at hs h
      have h1 := bts_0 (gpp_0le N h)
      have h2 : ∀ j, sd.testBit j = false := by
        intro j
        by_cases hj : j < N
        · have h3 := h1 (N - 1 - j) (by omega)
          rw [show N - 1 - (N - 1 - j) = j by omega, bt_tb] at h3
          cases g : sd.testBit j with
          | false => rfl
          | true => rw [g] at h3; exact absurd h3 (by decide)
        · exact Nat.testBit_lt_two_pow (Nat.lt_of_lt_of_le hs (by simp [sm]; exact Nat.pow_le_pow_right (by decide) (by omega)))
      exact Nat.eq_of_testBit_eq (by intro i; rw [h2, Nat.zero_testBit])
  subst hs0
  have ho0 : o = 0 := by
    cases hb : sid kd with
    | false => rw [hb] at h; rcases hk.1 with g | g; exact g; omega
    | true => rw [hb] at h; rcases hk.2 with g | g; exact g; omega
  rw [ho0, rk]
  split <;> simp
