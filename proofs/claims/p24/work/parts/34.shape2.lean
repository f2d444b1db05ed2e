def nb (b : Nat) : Int32 := if b = 0 then (-1) else nI b
def fwg (b g : Nat) : Nat := if b = 0 then 0 else g
theorem okR_al {kd sr N r k : Nat} (h : okR kd sr N r k = true) : al kd sr N (oR (sid kd) N r) (sR (sid kd) N r) k = true := by
  rw [okR, Bool.and_eq_true] at h
  exact h.2
theorem okR_na {kd sr N r k : Nat} (h : okR kd sr N r k = false) (h2 : 1 ≤ k ∧ k ≤ N) : al kd sr N (oR (sid kd) N r) (sR (sid kd) N r) k = false := by
  rw [okR, decide_eq_true h2, Bool.true_and] at h
  exact h
theorem bv_nx {kd sr N r k : Nat} (hN : N ≤ 6) (h : al kd sr N (oR (sid kd) N r) (sR (sid kd) N r) k = true) (hk : k ≤ N) : bv kd N sr (oR (sid kd) N r) (sR (sid kd) N r) k = gp (sid kd) N (oR (sid kd) N (nx (sid kd) N r k)) (sR (sid kd) N (nx (sid kd) N r k)) := by
  rw [bv, if_pos h, nx, oR_rk (tnS_lt hN sR_lt hk), sR_rk (tnS_lt hN sR_lt hk)]
theorem bst_no {kd N sr o sd i : Nat} (h : al kd sr N o sd (i + 1) = false) : bst kd N sr o sd (i + 1) = bst kd N sr o sd i := by
  have := bst_le kd N sr o sd i
  rw [bst, if_neg]
  rw [bv, if_neg (by rw [h]; decide)]
  omega
theorem bst_not {kd N sr o sd i : Nat} (h : ¬ bv kd N sr o sd (i + 1) < (bst kd N sr o sd i).2) : bst kd N sr o sd (i + 1) = bst kd N sr o sd i := by rw [bst, if_neg h]
theorem bst_yes {kd N sr o sd i : Nat} (h : bv kd N sr o sd (i + 1) < (bst kd N sr o sd i).2) : bst kd N sr o sd (i + 1) = (i + 1, bv kd N sr o sd (i + 1)) := by rw [bst, if_pos h]
theorem bst_i (kd N sr o sd : Nat) : ∀ i, i < 2 ^ 31 → (bst kd N sr o sd i).1 < 2 ^ 31
  | 0, _ => by simp [bst]
  | i + 1, h => by
    have := bst_i kd N sr o sd i (by omega)
    rw [bst]
    split
    · exact h
    · exact this
theorem bst_0 {kd N sr o sd : Nat} : ∀ {i : Nat}, (bst kd N sr o sd i).1 = 0 → (bst kd N sr o sd i).2 = 9
  | 0, _ => rfl
  | i + 1, h => by
    rw [bst] at h ⊢
    split at h
    · exact absurd h (Nat.succ_ne_zero i)
    · next g => rw [if_neg g]; exact bst_0 h
theorem nb_0 {b : Nat} (hb : b < 2 ^ 31) (h : nb b = (-1)) : b = 0 := by
  rw [nb] at h
  split at h
  · assumption
  · exact absurd h (nI_m1n hb)
