/-! which numbers are codes: the set of digits of a number of N digits is 1 to N only for the orders -/
def snF (c : Nat) : Nat → Nat
  | 0 => 0
  | i + 1 => snF c i ||| 1 * 2 ^ (c / 10 ^ i % 10)
def isC (N c : Nat) : Bool := (List.range (fac N)).any fun o => c == cd N o
def mcn (N mask : Nat) : Nat := (List.range N).countP fun j => mask / 2 ^ (j + 1) % 2 == 0
def full (N : Nat) : Nat := 2 ^ (N + 1) - 2
/-- from i digits on, with mask seen and the number c of these, all ways that may still come to the full set -/
def dfs (N : Nat) : Nat → Nat → Nat → Nat → Bool
  | 0, _, mask, c => !(mask == full N) || isC N c
  | k + 1, i, mask, c => decide (k + 1 < mcn N mask) || (List.range 10).all fun d => dfs N k (i + 1) (mask ||| 1 * 2 ^ d) (c + d * 10 ^ i)
theorem k_mc : (List.range 7).all (fun N => (List.range 1024).all fun mask => (List.range 10).all fun d => decide (mcn N mask ≤ mcn N (mask ||| 1 * 2 ^ d) + 1)) = true := by decide +kernel
theorem k_mf : (List.range 7).all (fun N => mcn N (full N) == 0 && mcn N 0 == N) = true := by decide +kernel
theorem k_dfs : (List.range 7).all (fun N => dfs N N 0 0 0) = true := by decide +kernel
theorem k_cc : chkO (fun N o => snF (cd N o) N == full N && (List.range N).all fun i => !(cd N o / 10 ^ i == 0)) = true := by decide +kernel
theorem k_cn : chkO (fun N o => cd N o / 10 ^ N == 0) = true := by decide +kernel
theorem or_lt {a d : Nat} (ha : a < 1024) (hd : d < 10) : a ||| 1 * 2 ^ d < 1024 := by
  have h1 : 1 * 2 ^ d < 2 ^ 10 := by rw [Nat.one_mul]; exact Nat.pow_lt_pow_right (by decide) hd
  exact Nat.or_lt_two_pow (n := 10) ha h1
theorem mc_step {N mask d : Nat} (hN : N ≤ 6) (hm : mask < 1024) (hd : d < 10) : mcn N mask ≤ mcn N (mask ||| 1 * 2 ^ d) + 1 := of_decide_eq_true (dec1 (dec1 (dec1 k_mc N (by omega)) mask hm) d hd)
theorem snF_lt (c : Nat) : ∀ i, snF c i < 1024
  | 0 => by simp [snF]
  | i + 1 => or_lt (snF_lt c i) (Nat.mod_lt _ (by decide))
/-- each digit fills one place at most -/
theorem mc_snF {N c : Nat} (hN : N ≤ 6) (i : Nat) : ∀ k, mcn N (snF c i) ≤ mcn N (snF c (i + k)) + k
  | 0 => Nat.le_refl _
  | k + 1 => by
    have h1 := mc_snF hN i k (c := c)
    have h2 := mc_step (N := N) (mask := snF c (i + k)) (d := c / 10 ^ (i + k) % 10) hN (snF_lt _ _) (Nat.mod_lt _ (by decide))
    have h3 : snF c (i + (k + 1)) = snF c (i + k) ||| 1 * 2 ^ (c / 10 ^ (i + k) % 10) := rfl
    rw [h3]
    omega
theorem dfs_ok {N c : Nat} (hN : N ≤ 6) (hf : snF c N = full N) : ∀ k i, i + k = N → dfs N k i (snF c i) (c % 10 ^ i) = true → isC N (c % 10 ^ N) = true
  | 0, i, hi, h => by
    have : i = N := by omega
    subst this
    simp [dfs, hf] at h
    exact h
  | k + 1, i, hi, h => by
    simp only [dfs, Bool.or_eq_true, decide_eq_true_eq] at h
    rcases h with h | h
    · have h1 := mc_snF (c := c) hN i (k + 1)
      rw [hi, hf] at h1
      have h2 := dec1 k_mf N (by omega)
      simp at h2
      rw [h2.1] at h1
      omega
    · have h1 := List.all_eq_true.mp h (c / 10 ^ i % 10) (List.mem_range.mpr (Nat.mod_lt _ (by decide)))
      refine dfs_ok hN hf k (i + 1) (by omega) ?_
      have h3 : c % 10 ^ (i + 1) = c % 10 ^ i + c / 10 ^ i % 10 * 10 ^ i := by
        rw [Nat.pow_succ, Nat.mod_mul, Nat.mul_comm (10 ^ i)]
      rw [h3]
      exact h1
theorem isC_iff {N c : Nat} : isC N c = true ↔ ∃ o, o < fac N ∧ c = cd N o := by
  simp [isC]
/-- a number whose digits are all there, and no more of them -/
theorem isC_of {N c i : Nat} (hN : N ≤ 6) (hi : i ≤ N) (h0 : c / 10 ^ i = 0) (hs : snF c i = full N) : isC N c = true := by
  have hi2 : i = N := by
    have h1 := mc_snF (N := N) (c := c) hN 0 i
    have h2 := dec1 k_mf N (by omega)
    simp at h2
    have h3 : snF c 0 = 0 := rfl
    rw [Nat.zero_add, hs, h3, h2.1, h2.2] at h1
    omega
  subst hi2
  have hlt : c < 10 ^ i := by
    rcases Nat.lt_or_ge c (10 ^ i) with h | h
    · exact h
    · have := Nat.div_pos h (Nat.pos_of_ne_zero (by simp))
      omega
  have h4 := dfs_ok (c := c) hN hs i 0 (by omega) (by have := dec1 k_dfs i (by omega); simpa [snF, Nat.mod_one] using this)
  rwa [Nat.mod_eq_of_lt hlt] at h4
theorem isC_not {N c : Nat} (hN : N ≤ 6) (h0 : ¬ c / 10 ^ N = 0) : isC N c = false := by
  rw [Bool.eq_false_iff]
  intro h
  obtain ⟨o, ho, rfl⟩ := isC_iff.mp h
  have := chkO_of k_cn hN ho
  simp at this
  exact h0 (by rw [Nat.div_eq_of_lt]; exact this)
theorem isC_not2 {N c i : Nat} (hN : N ≤ 6) (hi : i ≤ N) (hz : i < N → c / 10 ^ i = 0) (hs : ¬ snF c i = full N) : isC N c = false := by
  rw [Bool.eq_false_iff]
  intro h
  obtain ⟨o, ho, rfl⟩ := isC_iff.mp h
  have hk := chkO_of k_cc hN ho
  simp at hk
  rcases Nat.lt_or_ge i N with h1 | h1
  · have h3 := hk.2 i h1
    have h4 := hz h1
    rcases Nat.lt_or_ge (cd N o) (10 ^ i) with h5 | h5
    · omega
    · have := Nat.div_pos h5 (Nat.pos_of_ne_zero (by simp))
      omega
  · have : i = N := by omega
    subst this
    exact hs hk.1
theorem cd_inj_chk : (List.range 7).all (fun N => (List.range (fac N - 1)).all fun o => decide (cd N o < cd N (o + 1))) = true := by decide +kernel
/-- codes rise with the orders -/
theorem cd_mono {N : Nat} (hN : N ≤ 6) : ∀ k o, o + k < fac N → cd N o ≤ cd N (o + k) ∧ (0 < k → cd N o < cd N (o + k))
  | 0, o, _ => ⟨Nat.le_refl _, fun h => absurd h (Nat.lt_irrefl 0)⟩
  | k + 1, o, h => by
    have h1 := (cd_mono hN k o (by omega)).1
    have h2 : cd N (o + k) < cd N (o + k + 1) := of_decide_eq_true (dec1 (dec1 cd_inj_chk N (by omega)) (o + k) (by omega))
    have h3 : o + (k + 1) = o + k + 1 := rfl
    rw [h3]
    exact ⟨by omega, fun _ => by omega⟩
theorem cd_inj {N o o2 : Nat} (hN : N ≤ 6) (h1 : o < fac N) (h2 : o2 < fac N) (h : cd N o = cd N o2) : o = o2 := by
  rcases Nat.lt_trichotomy o o2 with g | g | g
  · have := (cd_mono hN (o2 - o) o (by omega)).2 (by omega)
    rw [show o + (o2 - o) = o2 by omega] at this
    omega
  · exact g
  · have := (cd_mono hN (o - o2) o2 (by omega)).2 (by omega)
    rw [show o2 + (o - o2) = o by omega] at this
    omega
