-- rows of turns pruned by gaps
theorem gpR_nx {kd N r m : Nat} (hN : N ≤ 6) (hr : r < rR (sid kd) N) (h1 : 1 ≤ m) (h : m ≤ N) : gpR kd N r ≤ gpR kd N (nx (sid kd) N r m) + 1 := by
  have h2 := (gp_tn (sb := sid kd) hN (oR_lt hr) (sR_lt (sb := sid kd) (N := N) (r := r)) h1 h).1
  rw [nx, gpR_rk (tnS_lt hN sR_lt h)]
  exact h2
theorem gpR_00 (kd : Nat) {N : Nat} (hN : N ≤ 6) : gpR kd N 0 = 0 := by
  have h1 : oR (sid kd) N 0 = 0 := by unfold oR; split <;> simp
  have h2 : sR (sid kd) N 0 = 0 := by unfold sR; split <;> simp
  rw [gpR, h1, h2]
  cases sid kd <;> rcases (show N = 0 ∨ N = 1 ∨ N = 2 ∨ N = 3 ∨ N = 4 ∨ N = 5 ∨ N = 6 by omega) with rfl | rfl | rfl | rfl | rfl | rfl | rfl <;> decide +kernel
theorem wy_gap {kd sr N : Nat} (hN : N ≤ 6) : ∀ (t r : Nat), r < rR (sid kd) N → t < gpR kd N r → wy kd sr N t r = 0
  | 0, r, hr, h => by
    rw [wy, if_neg]
    intro z
    rw [z, gpR_00 kd hN] at h
    omega
  | t + 1, r, hr, h => by
    rw [← wy_s]
    have : ∀ i, i ≤ N → wyp kd sr N t r i = 0 := by
      intro i
      induction i with
      | zero => intro _; rfl
      | succ i ih =>
        intro hi
        rw [wyp, ih (by omega)]
        have h3 := gpR_nx hN hr (show 1 ≤ i + 1 by omega) hi
        rw [wy_gap hN t _ (nx_lt hN hr hi) (by omega)]
        simp
    exact this N (Nat.le_refl _)
