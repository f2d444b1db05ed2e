-- a turn takes away one gap at most; no gap: sorted
theorem jn_hi {sb : Bool} {N o sd k p : Nat} (hN : N ≤ 6) (ho : o < fac N) (hs : sd < sm sb N) (hk : k ≤ N) (hp : k ≤ p) (hp2 : p < N) : jn sb N (tnO N o k) (tnS sb sd k) p = jn sb N o sd p := by
  have z1 : sz N (tnO N o k) p = sz N o p := by rw [tnO_sz hN ho hk hp2, if_neg (by omega)]
  have b1 : bt (tnS sb sd k) p = bt sd p := by rw [tnS_bt hN hs hk hp2, if_neg (by omega)]
  by_cases h : p + 1 = N
  · rw [jn, jn, if_pos h, if_pos h, z1, b1]
  · have z2 : sz N (tnO N o k) (p + 1) = sz N o (p + 1) := by rw [tnO_sz hN ho hk (by omega), if_neg (by omega)]
    have b2 : bt (tnS sb sd k) (p + 1) = bt sd (p + 1) := by rw [tnS_bt hN hs hk (by omega), if_neg (by omega)]
    rw [jn, jn, if_neg h, if_neg h, z1, b1, z2, b2]
theorem jn_lo {sb : Bool} {N o sd k p : Nat} (hN : N ≤ 6) (ho : o < fac N) (hs : sd < sm sb N) (hk : k ≤ N) (hp : p + 2 ≤ k) : jn sb N (tnO N o k) (tnS sb sd k) p = jn sb N o sd (k - 2 - p) := by
  have z1 : sz N (tnO N o k) p = sz N o (k - 2 - p + 1) := by rw [tnO_sz hN ho hk (by omega), if_pos (by omega), show k - 1 - p = k - 2 - p + 1 by omega]
  have z2 : sz N (tnO N o k) (p + 1) = sz N o (k - 2 - p) := by rw [tnO_sz hN ho hk (by omega), if_pos (by omega), show k - 1 - (p + 1) = k - 2 - p by omega]
  have b1 : bt (tnS sb sd k) p = bt sd (k - 2 - p + 1) ^^^ sb.toNat := by rw [tnS_bt hN hs hk (by omega), if_pos (by omega), show k - 1 - p = k - 2 - p + 1 by omega]
  have b2 : bt (tnS sb sd k) (p + 1) = bt sd (k - 2 - p) ^^^ sb.toNat := by rw [tnS_bt hN hs hk (by omega), if_pos (by omega), show k - 1 - (p + 1) = k - 2 - p by omega]
  have h1 : ¬ p + 1 = N := by omega
  have h2 : ¬ k - 2 - p + 1 = N := by omega
  cases sb with
  | false =>
    rw [jn, jn, if_neg h1, if_neg h2, z1, z2]
    simp only [Bool.false_eq_true, if_false]
    rw [Bool.or_comm]
  | true =>
    rw [jn, jn, if_neg h1, if_neg h2, z1, z2, b1, b2]
    have c1 := bt_le sd (k - 2 - p)
    have c2 := bt_le sd (k - 2 - p + 1)
    rcases (show bt sd (k - 2 - p) = 0 ∨ bt sd (k - 2 - p) = 1 by omega) with g1 | g1 <;> rcases (show bt sd (k - 2 - p + 1) = 0 ∨ bt sd (k - 2 - p + 1) = 1 by omega) with g2 | g2 <;> rw [g1, g2] <;> simp
theorem gpp_gif (sb : Bool) (N o sd i : Nat) : gpp sb N o sd (i + 1) = gpp sb N o sd i + (1 - (jn sb N o sd i).toNat) := by rw [gpp, gif]
theorem gpp_0 (sb : Bool) (N o sd : Nat) : gpp sb N o sd 0 = 0 := rfl
set_option maxHeartbeats 4000000 in
theorem gp_tn {sb : Bool} {N o sd k : Nat} (hN : N ≤ 6) (ho : o < fac N) (hs : sd < sm sb N) (hk1 : 1 ≤ k) (hk : k ≤ N) : gp sb N o sd ≤ gp sb N (tnO N o k) (tnS sb sd k) + 1 ∧ gp sb N (tnO N o k) (tnS sb sd k) ≤ gp sb N o sd + 1 := by
  have hh := fun p => Decidable.not_or_of_imp (fun (z : k ≤ p ∧ p < N) => congrArg Bool.toNat (jn_hi (p := p) hN ho hs hk z.1 z.2))
  have hl := fun p => Decidable.not_or_of_imp (fun (z : p + 2 ≤ k) => congrArg Bool.toNat (jn_lo (p := p) hN ho hs hk z))
  have e := fun p => Bool.toNat_le (jn sb N o sd p)
  have e2 := fun p => Bool.toNat_le (jn sb N (tnO N o k) (tnS sb sd k) p)
  have e0 := e 0
  have e1 := e 1
  have e3 := e 2
  have e4 := e 3
  have e5 := e 4
  have e6 := e 5
  have d := e2 (k - 1)
  rw [gp, gp]
  rcases (show N = 1 ∨ N = 2 ∨ N = 3 ∨ N = 4 ∨ N = 5 ∨ N = 6 by omega) with rfl | rfl | rfl | rfl | rfl | rfl <;>
    rcases (show k = 1 ∨ k = 2 ∨ k = 3 ∨ k = 4 ∨ k = 5 ∨ k = 6 by omega) with rfl | rfl | rfl | rfl | rfl | rfl <;>
    first
    | omega
    | (have h0 := hh 0; have h1 := hh 1; have h2 := hh 2; have h3 := hh 3; have h4 := hh 4; have h5 := hh 5
       have l0 := hl 0; have l1 := hl 1; have l2 := hl 2; have l3 := hl 3; have l4 := hl 4
       try simp only [Nat.reduceSub, Nat.sub_zero, Nat.sub_self, Nat.reduceLeDiff, Nat.reduceLT, Nat.reduceAdd, Nat.le_refl, Nat.lt_irrefl, true_and, and_true, false_and, and_false, not_true_eq_false, not_false_eq_true, false_or, true_or] at h0 h1 h2 h3 h4 h5 l0 l1 l2 l3 l4 d
       simp only [gpp_gif, gpp_0]
       omega)
