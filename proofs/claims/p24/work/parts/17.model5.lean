theorem p10_le {i : Nat} (h : i ≤ 8) : 10 ^ i ≤ 100000000 := Nat.pow_le_pow_right (n := 10) (by decide) h
theorem p10_d {j : Nat} (h : 1 ≤ j) : 10 ^ j / 10 = 10 ^ (j - 1) := by
  obtain ⟨z, rfl⟩ : ∃ z, j = z + 1 := ⟨j - 1, by omega⟩
  rw [Nat.pow_succ, Nat.mul_div_cancel _ (by decide), Nat.add_sub_cancel]
theorem p10_pos {j : Nat} (h : 0 < 10 ^ j / 10) : 1 ≤ j := by
  cases j with
  | zero => exact absurd h (by decide)
  | succ z => omega
theorem p10_zero {j : Nat} (h : 10 ^ j / 10 = 0) : j = 0 := by
  cases j with
  | zero => rfl
  | succ z =>
    rw [p10_d (by omega), Nat.add_sub_cancel] at h
    have := Nat.pos_of_ne_zero (n := 10 ^ z) (by simp)
    omega
theorem dg_lt {i D row : Nat} (hi : i ≤ D - 1) (hD : 1 ≤ D ∧ D ≤ 8 ∧ 10 ^ (D - 1) ≤ row ∧ row < 10 ^ D) (h : 9 < row / 10 ^ i) : i < D - 1 := by
  rcases Nat.lt_or_eq_of_le hi with g | g
  · exact g
  · have h2 : row < 10 ^ (D - 1) * 10 := by rw [← Nat.pow_succ, show (D - 1).succ = D by omega]; exact hD.2.2.2
    have h3 := Nat.div_lt_of_lt_mul h2
    rw [g] at h
    omega
theorem dg_eq {i D row : Nat} (hi : i ≤ D - 1) (hD : 1 ≤ D ∧ D ≤ 8 ∧ 10 ^ (D - 1) ≤ row ∧ row < 10 ^ D) (h : row / 10 ^ i ≤ 9) : i = D - 1 := by
  rcases Nat.lt_or_eq_of_le hi with g | g
  · have h2 : 10 ^ (i + 1) ≤ 10 ^ (D - 1) := Nat.pow_le_pow_right (by decide) (by omega)
    have h3 : 10 ≤ row / 10 ^ i := by
      rw [Nat.le_div_iff_mul_le (Nat.pos_of_ne_zero (by simp)), Nat.mul_comm, ← Nat.pow_succ]
      exact Nat.le_trans h2 hD.2.2.1
    omega
  · exact g
theorem rwA_s {k row j : Nat} {a a2 : AK} (hj : 1 ≤ j) (h : rwA k row j a = some a2) : okA a k (row / 10 ^ (j - 1) % 10) = true ∧ rwA k row (j - 1) (tnA a k (row / 10 ^ (j - 1) % 10)) = some a2 := by
  obtain ⟨z, rfl⟩ : ∃ z, j = z + 1 := ⟨j - 1, by omega⟩
  rw [rwA] at h
  simp only [Nat.add_sub_cancel]
  split at h
  · next g => exact ⟨g, h⟩
  · cases h
theorem tr1_ok {a : AK} {k w : Nat} (h : okA a k w = true) : tr1 (aKd a k) (aSr a k) (aCk a k) (aO a k) (aSd a k) w = nI (gpA (tnA a k w) k) := by
  rw [tr1, if_pos (show okT (aKd a k) (aSr a k) (aCk a k) (aO a k) (aSd a k) w = true from h)]
  simp [gpA, tnA, aKd, aCk, aO, aSd, va_up]
theorem ts1_ok {f : Nat → Int32} {a : AK} {k w h1 : Nat} (h : okA a k w = true) : ts1 f k (aKd a k) (aSr a k) (aCk a k) (aO a k) (aSd a k) w h1 = tnM f k (cd (aCk a k) (tnO (aCk a k) (aO a k) w)) (tnS (sid (aKd a k)) (aSd a k) w) w h1 := if_pos h
theorem gpA_lt {a : AK} {k : Nat} (h : AOK a) (hk : k < aN a) : gpA a k < 2 ^ 31 := gp_lt _ (h.2.2 k hk).1.N _ _
theorem rw_end {k row j : Nat} {r : Int32} {a1 a : AK} {f : Nat → Int32} (hr : r = (-1000002) ∨ ∃ v, v < 2 ^ 31 ∧ r = nI v ∧ rwA k row j a1 = none ∧ MR f a1 ∧ AOK a1 ∧ aN a1 = aN a) (hj : j = 0) : r = (-1000002) := by
  rcases hr with h | ⟨v, -, -, h, -⟩
  · exact h
  · subst hj
    cases h
theorem rw_neg {k row j : Nat} {r : Int32} {a1 a : AK} {f : Nat → Int32} (hr : r = (-1000002) ∨ ∃ v, v < 2 ^ 31 ∧ r = nI v ∧ rwA k row j a1 = none ∧ MR f a1 ∧ AOK a1 ∧ aN a1 = aN a) (h : r < 0) : r = (-1000002) := by
  rcases hr with g | ⟨v, hv, rfl, -⟩
  · exact g
  · exact absurd h (nI_pos hv)
theorem rw_back {f : Nat → Int32} {a1 a : AK} {k row j : Nat} (hM1 : MR f a1) (hA1 : AOK a1) (hk1 : k < aN a1) (hj : 1 ≤ j) (hN : aN a1 = aN a) (h : rwA k row j a1 = none) :
    tr1 (aKd a1 k) (aSr a1 k) (aCk a1 k) (aO a1 k) (aSd a1 k) (row / 10 ^ (j - 1) % 10) = (-1000002) ∨ ∃ v, v < 2 ^ 31 ∧ tr1 (aKd a1 k) (aSr a1 k) (aCk a1 k) (aO a1 k) (aSd a1 k) (row / 10 ^ (j - 1) % 10) = nI v ∧
      rwA k row (j - 1) (if okA a1 k (row / 10 ^ (j - 1) % 10) = true then tnA a1 k (row / 10 ^ (j - 1) % 10) else a1) = none ∧ MR (ts1 f k (aKd a1 k) (aSr a1 k) (aCk a1 k) (aO a1 k) (aSd a1 k) (row / 10 ^ (j - 1) % 10) (aH a1)) (if okA a1 k (row / 10 ^ (j - 1) % 10) = true then tnA a1 k (row / 10 ^ (j - 1) % 10) else a1) ∧
      AOK (if okA a1 k (row / 10 ^ (j - 1) % 10) = true then tnA a1 k (row / 10 ^ (j - 1) % 10) else a1) ∧ aN (if okA a1 k (row / 10 ^ (j - 1) % 10) = true then tnA a1 k (row / 10 ^ (j - 1) % 10) else a1) = aN a := by
  obtain ⟨z, rfl⟩ : ∃ z, j = z + 1 := ⟨j - 1, by omega⟩
  rw [rwA] at h
  simp only [Nat.add_sub_cancel]
  cases hok : okA a1 k (row / 10 ^ z % 10) with
  | false => exact Or.inl (by rw [tr1, if_neg]; rw [show okT _ _ _ _ _ _ = okA a1 k (row / 10 ^ z % 10) from rfl, hok]; decide)
  | true =>
    rw [hok] at h
    simp only [if_true] at h ⊢
    exact Or.inr ⟨_, gpA_lt (tnA_ok hA1 hk1 hok) hk1, tr1_ok hok, h, by rw [ts1_ok hok]; exact tnM_MR hM1 hA1 hk1, tnA_ok hA1 hk1 hok, hN⟩
