def lwA (v : Nat) : Int32 := if v < 1000000 then nI v else (-1000004)
theorem okE_neg {kd sr N k : Nat} {d : Nat → Nat} {t : Int32} (hh : shOK kd N sr) (hk : k < 6 * rR (sid kd) N) (h : (k % 6 + 1 ≤ N ∧ t = nxV kd sr N (k / 6) (k % 6 + 1)) ∨ (¬ k % 6 + 1 ≤ N ∧ t = -1)) (hn : t < 0) : okE kd sr N d k := by
  intro h1 h2
  rcases h with ⟨g1, g2⟩ | ⟨g1, -⟩
  · rw [g2] at hn
    exact absurd h2 (nxV_neg hh (by omega) g1 hn)
  · exact absurd h1 g1
theorem lw_all {kd sr N R S kk : Nat} {b : Bool} {d : Nat → Nat} (h : (b = false ∧ sumD d R = S ∧ ∀ z, z < kk → okE kd sr N d z) ∨ (b = true ∧ sumD d R < S)) (hb : b = false) (hk : 6 * R ≤ kk) : ∀ z, z < 6 * R → okE kd sr N d z := by
  rcases h with ⟨-, -, h⟩ | ⟨h, -⟩
  · exact fun z hz => h z (by omega)
  · rw [hb] at h; cases h
theorem lw_meas {kd sr N R S kk fu : Nat} {b b0 : Bool} {d : Nat → Nat} (h : (b = false ∧ sumD d R = S ∧ ∀ z, z < kk → okE kd sr N d z) ∨ (b = true ∧ sumD d R < S)) (h0 : b0 = true) (hm : 2 * S + b0.toNat < fu + 1) : 2 * sumD d R + b.toNat < fu := by
  subst h0
  rcases h with ⟨rfl, h, -⟩ | ⟨rfl, h⟩
  · simp only [Bool.toNat_true, Bool.toNat_false] at *; omega
  · simp only [Bool.toNat_true] at *; omega
theorem lw_skip {kd sr N R S kk : Nat} {b : Bool} {d : Nat → Nat} (h : (b = false ∧ sumD d R = S ∧ ∀ z, z < kk → okE kd sr N d z) ∨ (b = true ∧ sumD d R < S)) (hs : okE kd sr N d kk) : (b = false ∧ sumD d R = S ∧ ∀ z, z < kk + 1 → okE kd sr N d z) ∨ (b = true ∧ sumD d R < S) := by
  rcases h with ⟨h1, h2, h3⟩ | h
  · refine Or.inl ⟨h1, h2, fun z hz => ?_⟩
    rcases Nat.lt_or_eq_of_le (Nat.le_of_lt_succ hz) with g | g
    · exact h3 z g
    · rw [g]; exact hs
  · exact Or.inr h
theorem lw_low {kd sr N R S kk x v : Nat} {b : Bool} {d : Nat → Nat} (h : (b = false ∧ sumD d R = S ∧ ∀ z, z < kk → okE kd sr N d z) ∨ (b = true ∧ sumD d R < S)) (hx : x < R) (hv : v < d x) : (true = false ∧ sumD (va_up d x v) R = S ∧ ∀ z, z < kk + 1 → okE kd sr N (va_up d x v) z) ∨ (true = true ∧ sumD (va_up d x v) R < S) := by
  have h1 := (sumD_up (d := d) (x := x) (v := v) R).2 hx
  refine Or.inr ⟨rfl, ?_⟩
  rcases h with ⟨-, h2, -⟩ | ⟨-, h2⟩ <;> omega
