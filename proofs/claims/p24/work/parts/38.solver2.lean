theorem okR_f {kd sr N r k : Nat} (h : okR kd sr N r k = false) (h2 : 1 ≤ k ∧ k ≤ N) : aR1 kd sr N r k = false := okR_na h h2
theorem nb_eq {a b : Nat} (ha : a < 2 ^ 31) (hb : b < 2 ^ 31) (h : nI a = nb b) : a = b := by
  rw [nb] at h
  split at h
  · exact absurd h (nI_m1n ha)
  · exact nI_inj7 ha hb h
theorem nb_eq2 {a b : Nat} (h : a + 1 = b) : nI (a + 1) = nb b := by
  rw [← h, nb, if_neg (Nat.succ_ne_zero a)]
