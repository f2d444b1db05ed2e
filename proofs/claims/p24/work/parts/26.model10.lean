def isL (kd sr N tu v r t last : Nat) : Bool := aR1 kd sr N r (t + 1) && (!(decide (t + 1 = last)) && decide (v + 1 + gpR kd N (nx (sid kd) N r (t + 1)) ≤ tu))
theorem isL_t {kd sr N tu v r t last : Nat} (h : isL kd sr N tu v r t last = true) : aR1 kd sr N r (t + 1) = true ∧ t + 1 ≠ last ∧ v + 1 + gpR kd N (nx (sid kd) N r (t + 1)) ≤ tu := by
  simp only [isL, Bool.and_eq_true, Bool.not_eq_true', decide_eq_true_eq, decide_eq_false_iff_not] at h
  exact ⟨h.1, h.2.1, h.2.2⟩
theorem isL_f {kd sr N w v r t last : Nat} (hv : v < w) (h : isL kd sr N w v r t last = false) : aR1 kd sr N r (t + 1) = false ∨ t + 1 = last ∨ w - v - 1 < gpR kd N (nx (sid kd) N r (t + 1)) := by
  simp only [isL, Bool.and_eq_false_iff, Bool.not_eq_false', decide_eq_true_eq, decide_eq_false_iff_not] at h
  rcases h with h | h | h
  · exact Or.inl h
  · exact Or.inr (Or.inl h)
  · exact Or.inr (Or.inr (by omega))
theorem isL_0 {kd sr N tu v r t last : Nat} (h : aR1 kd sr N r (t + 1) = false) : false = isL kd sr N tu v r t last := by simp [isL, h]
theorem isL_1 {kd sr N tu v r t last : Nat} (h : decide (t + 1 = last) = true) : false = isL kd sr N tu v r t last := by simp [isL, h]
theorem isL_2 {kd sr N tu v r t last : Nat} (h : tu < v + 1 + gpR kd N (nx (sid kd) N r (t + 1))) : false = isL kd sr N tu v r t last := by simp [isL, Nat.not_le.mpr h]
theorem isL_3 {kd sr N tu v r t last : Nat} (h : aR1 kd sr N r (t + 1) = true) (h2 : decide (t + 1 = last) = false) (h3 : v + 1 + gpR kd N (nx (sid kd) N r (t + 1)) ≤ tu) : true = isL kd sr N tu v r t last := by simp [isL, h, h2, h3]
theorem ag_0 {TA : Nat → Nat} {v x : Nat} (h : v = 0) : false = decide (x + 1 = lastL TA v) := by simp [lastL, h]
theorem ag_t {TA : Nat → Nat} {v x : Nat} (h : 0 < v) (h2 : TA (v - 1) = x + 1) : true = decide (x + 1 = lastL TA v) := by simp [lastL, Nat.ne_of_gt h, h2]
theorem ag_f {TA : Nat → Nat} {v x : Nat} (h : 0 < v) (h2 : TA (v - 1) ≠ x + 1) : false = decide (x + 1 = lastL TA v) := by simp [lastL, Nat.ne_of_gt h, Ne.symm h2]
theorem gpR_le (kd : Nat) {N : Nat} (hN : N ≤ 6) (r : Nat) : gpR kd N r ≤ 6 := by
  have := gpp_le (sid kd) N (oR (sid kd) N r) (sR (sid kd) N r) N
  unfold gpR gp
  omega
theorem gpR_rk {kd N o sd : Nat} (hs : sd < sm (sid kd) N) : gpR kd N (rk (sid kd) N o sd) = gp (sid kd) N o sd := by rw [gpR, oR_rk hs, sR_rk hs]
theorem lk_cut {kd sr N w r last : Nat} (h : w < gpR kd N r) : lkA kd sr N w r last = 0 := by
  cases w with
  | zero => rw [lkA, if_pos h]
  | succ w => rw [lkA, if_pos h]
theorem lk_init {kd sr N w r : Nat} (hN : N ≤ 6) (hr : r < rR (sid kd) N) (hg : gpR kd N r ≤ w) : LKI kd sr N w (fun _ => r) (fun _ => 0) (if r = 0 then 0 else 1) 1 (lkA kd sr N w r 0) := by
  by_cases h : r = 0
  · rw [if_pos h]
    refine ⟨by omega, fun j hj => absurd hj (Nat.not_lt_zero j), ?_⟩
    rw [h] at hg ⊢
    rw [lkA_0 hg]
    rfl
  · rw [if_neg h]
    refine ⟨by omega, fun j hj => ⟨hr, Nat.zero_le _⟩, ?_⟩
    simp only [remL, rlL, lastL]
    cases w with
    | zero => rw [lkA, if_neg (show ¬ 0 < gpR kd N r by omega), if_neg (Nat.lt_irrefl 0)]
    | succ w =>
      rw [lkA_s hg h, if_pos (Nat.succ_pos w)]
      simp
theorem upd_vr {ra : Nat → Int32} {RA : Nat → Nat} {dp x : Nat} (h1 : 1 ≤ dp) (h : ∀ j, j < dp → ra j = nI (RA j)) : ∀ j, j < dp + 1 → upd ra (dp - 1 + 1) (nI x) j = nI (va_up RA (dp - 1 + 1) x j) := fun j hj => by
  by_cases g : j = dp - 1 + 1
  · rw [g, pk_us, va_at1]
  · rw [pk_un g, va_ne1 g]; exact h j (by omega)
theorem upd_vt {ta : Nat → Int32} {TA : Nat → Nat} {dp x : Nat} (_ : 1 ≤ dp) (h : ∀ j, j < dp → ta j = nI (TA j)) : ∀ j, j < dp → upd ta (dp - 1) (nI x) j = nI (va_up TA (dp - 1) x j) := fun j hj => by
  by_cases g : j = dp - 1
  · rw [g, pk_us, va_at1]
  · rw [pk_un g, va_ne1 g]; exact h j hj
theorem upd_vs {ta : Nat → Int32} {TA : Nat → Nat} {dp x y : Nat} (h1 : 1 ≤ dp) (h : ∀ j, j < dp → ta j = nI (TA j)) : ∀ j, j < dp + 1 → upd (upd ta (dp - 1) (nI x)) (dp - 1 + 1) (nI y) j = nI (va_up (va_up TA (dp - 1) x) (dp - 1 + 1) y j) := fun j hj => by
  by_cases g : j = dp - 1 + 1
  · rw [g, pk_us, va_at1]
  · rw [pk_un g, va_ne1 g]; exact upd_vt h1 h j (by omega)
theorem upd_vp {ta : Nat → Int32} {TA : Nat → Nat} {dp x : Nat} (_ : 1 ≤ dp) (h : ∀ j, j < dp → ta j = nI (TA j)) : ∀ j, j < dp - 1 → upd ta (dp - 1) (nI x) j = nI (TA j) := fun j hj => by
  rw [pk_un (by omega)]; exact h j (by omega)
theorem lk_meas {a b c d : Nat} (h : a + 9 ^ c = b) (hm : b < d + 1) : a < d := by
  have : 0 < 9 ^ c := Nat.pos_of_ne_zero (by simp)
  omega
