/-! the search that is cut off by the gaps: as a sum, and with a stack of its own -/
def gpR (kd N r : Nat) : Nat := gp (sid kd) N (oR (sid kd) N r) (sR (sid kd) N r)
def lkA (kd sr N : Nat) : Nat → Nat → Nat → Nat
  | 0, r, _ => if 0 < gpR kd N r then 0 else 1
  | w + 1, r, last => if w + 1 < gpR kd N r then 0 else if r = 0 then 1 else
    1 + ((List.range N).map fun j => if j + 1 ≠ last ∧ aR1 kd sr N r (j + 1) = true then lkA kd sr N w (nx (sid kd) N r (j + 1)) (j + 1) else 0).sum
def conL (kd sr N w r last j : Nat) : Nat := if j + 1 ≠ last ∧ aR1 kd sr N r (j + 1) = true then lkA kd sr N w (nx (sid kd) N r (j + 1)) (j + 1) else 0
/-- the turns from the t-th on -/
def srL (kd sr N w r last t : Nat) : Nat := ((List.range' t (N - t)).map (conL kd sr N w r last)).sum
theorem srL_s {kd sr N w r last t : Nat} (h : t < N) : srL kd sr N w r last t = conL kd sr N w r last t + srL kd sr N w r last (t + 1) := by
  unfold srL
  rw [show N - t = (N - (t + 1)) + 1 by omega, List.range'_succ]
  simp
theorem srL_N {kd sr N w r last : Nat} : srL kd sr N w r last N = 0 := by simp [srL]
theorem lkA_s {kd sr N w r last : Nat} (h1 : gpR kd N r ≤ w + 1) (h2 : r ≠ 0) : lkA kd sr N (w + 1) r last = 1 + srL kd sr N w r last 0 := by
  rw [lkA, if_neg (by omega), if_neg h2]
  unfold srL conL
  rw [List.range_eq_range', Nat.sub_zero]
def lastL (TA : Nat → Nat) (v : Nat) : Nat := if v = 0 then 0 else TA (v - 1)
def rlL (kd sr N tu : Nat) (RA TA : Nat → Nat) (v : Nat) : Nat := if v < tu then srL kd sr N (tu - v - 1) (RA v) (lastL TA v) (TA v) else 0
def remL (kd sr N tu : Nat) (RA TA : Nat → Nat) : Nat → Nat
  | 0 => 0
  | v + 1 => remL kd sr N tu RA TA v + rlL kd sr N tu RA TA v
def muL (N tu : Nat) (TA : Nat → Nat) : Nat → Nat
  | 0 => 0
  | v + 1 => muL N tu TA v + (N + 1 - TA v) * 9 ^ (tu - v)
theorem rem_c {kd sr N tu : Nat} {RA TA RB TB : Nat → Nat} : ∀ v, (∀ j, j < v → RA j = RB j ∧ TA j = TB j) → remL kd sr N tu RA TA v = remL kd sr N tu RB TB v
  | 0, _ => rfl
  | v + 1, h => by
    rw [remL, remL, rem_c v (fun j hj => h j (by omega))]
    congr 1
    obtain ⟨h1, h2⟩ := h v (by omega)
    unfold rlL lastL
    rw [h1, h2]
    by_cases g : v = 0
    · simp [g]
    · rw [(h (v - 1) (by omega)).2]
theorem mu_c {N tu : Nat} {TA TB : Nat → Nat} : ∀ v, (∀ j, j < v → TA j = TB j) → muL N tu TA v = muL N tu TB v
  | 0, _ => rfl
  | v + 1, h => by rw [muL, muL, mu_c v (fun j hj => h j (by omega)), h v (by omega)]
def LKI (kd sr N tu : Nat) (RA TA : Nat → Nat) (dp cnt tot : Nat) : Prop := dp ≤ tu + 1 ∧ (∀ j, j < dp → RA j < rR (sid kd) N ∧ TA j ≤ N) ∧ cnt + remL kd sr N tu RA TA dp = tot
theorem LKI.pop {kd sr N tu : Nat} {RA TA : Nat → Nat} {dp cnt tot : Nat} (h : LKI kd sr N tu RA TA dp cnt tot) (h1 : 1 ≤ dp) (hk : N < TA (dp - 1) + 1 ∨ dp - 1 = tu) : LKI kd sr N tu RA TA (dp - 1) cnt tot ∧ muL N tu TA (dp - 1) < muL N tu TA dp := by
  obtain ⟨v, rfl⟩ : ∃ v, dp = v + 1 := ⟨dp - 1, by omega⟩
  simp only [Nat.add_sub_cancel] at hk ⊢
  obtain ⟨g1, g2, g3⟩ := h
  have hT := (g2 v (by omega)).2
  have h0 : rlL kd sr N tu RA TA v = 0 := by
    unfold rlL
    split
    · rw [show TA v = N by omega, srL_N]
    · rfl
  rw [remL, h0] at g3
  refine ⟨⟨by omega, fun j hj => g2 j (by omega), by omega⟩, ?_⟩
  rw [muL]
  have : 0 < (N + 1 - TA v) * 9 ^ (tu - v) := Nat.mul_pos (by omega) (Nat.pos_of_ne_zero (by simp))
  omega
theorem va_at1 {f : Nat → Nat} {k v : Nat} : va_up f k v k = v := by simp [va_up]
theorem va_ne1 {f : Nat → Nat} {k v j : Nat} (h : j ≠ k) : va_up f k v j = f j := by simp [va_up, h]
/-- the next turn is made or not: what it adds -/
theorem LKI.stay {kd sr N tu : Nat} {RA TA : Nat → Nat} {dp cnt tot : Nat} (h : LKI kd sr N tu RA TA dp cnt tot) (h1 : 1 ≤ dp) (hk : TA (dp - 1) + 1 ≤ N) (hd : dp - 1 ≠ tu) {x : Nat} (hx : conL kd sr N (tu - (dp - 1) - 1) (RA (dp - 1)) (lastL TA (dp - 1)) (TA (dp - 1)) = x) :
    LKI kd sr N tu RA (va_up TA (dp - 1) (TA (dp - 1) + 1)) dp (cnt + x) tot ∧ muL N tu (va_up TA (dp - 1) (TA (dp - 1) + 1)) dp + 9 ^ (tu - (dp - 1)) = muL N tu TA dp := by
  obtain ⟨v, rfl⟩ : ∃ v, dp = v + 1 := ⟨dp - 1, by omega⟩
  simp only [Nat.add_sub_cancel] at hk hd hx ⊢
  obtain ⟨g1, g2, g3⟩ := h
  have hv : v < tu := by omega
  have e : ∀ j, j < v → RA j = RA j ∧ TA j = va_up TA v (TA v + 1) j := fun j hj => ⟨rfl, (va_ne1 (by omega)).symm⟩
  refine ⟨⟨g1, fun j hj => ⟨(g2 j hj).1, ?_⟩, ?_⟩, ?_⟩
  · by_cases g : j = v
    · subst g; rw [va_at1]; exact hk
    · rw [va_ne1 g]; exact (g2 j hj).2
  · rw [remL, ← rem_c v e]
    rw [remL] at g3
    have hl : lastL (va_up TA v (TA v + 1)) v = lastL TA v := by
      unfold lastL
      by_cases g : v = 0
      · simp [g]
      · rw [if_neg g, if_neg g, va_ne1 (by omega)]
    unfold rlL at g3 ⊢
    rw [if_pos hv] at g3 ⊢
    rw [hl, va_at1]
    rw [srL_s (by omega), hx] at g3
    omega
  · rw [muL, muL, ← mu_c v (fun j hj => (e j hj).2), va_at1]
    have : (N + 1 - TA v) * 9 ^ (tu - v) = (N + 1 - (TA v + 1)) * 9 ^ (tu - v) + 9 ^ (tu - v) := by
      rw [show N + 1 - TA v = (N + 1 - (TA v + 1)) + 1 by omega, Nat.add_mul, Nat.one_mul]
    omega
theorem LKI.push {kd sr N tu : Nat} {RA TA : Nat → Nat} {dp cnt tot x : Nat} (hN : N ≤ 6) (h : LKI kd sr N tu RA TA dp cnt tot) (h1 : 1 ≤ dp) (hk : TA (dp - 1) + 1 ≤ N) (hd : dp - 1 ≠ tu) (hx : x < rR (sid kd) N) (hx0 : x ≠ 0)
    (hc : conL kd sr N (tu - (dp - 1) - 1) (RA (dp - 1)) (lastL TA (dp - 1)) (TA (dp - 1)) = lkA kd sr N (tu - (dp - 1) - 1) x (TA (dp - 1) + 1)) (hg : gpR kd N x ≤ tu - (dp - 1) - 1) :
    LKI kd sr N tu (va_up RA (dp - 1 + 1) x) (va_up (va_up TA (dp - 1) (TA (dp - 1) + 1)) (dp - 1 + 1) 0) (dp + 1) (cnt + 1) tot ∧ muL N tu (va_up (va_up TA (dp - 1) (TA (dp - 1) + 1)) (dp - 1 + 1) 0) (dp + 1) < muL N tu TA dp := by
  obtain ⟨hS, hM⟩ := h.stay h1 hk hd hc
  obtain ⟨v, rfl⟩ : ∃ v, dp = v + 1 := ⟨dp - 1, by omega⟩
  simp only [Nat.add_sub_cancel] at *
  obtain ⟨g1, g2, g3⟩ := hS
  have hv : v < tu := by have := h.1; omega
  generalize hT : va_up TA v (TA v + 1) = T1 at *
  have hT1 : T1 v = TA v + 1 := by rw [← hT, va_at1]
  have e : ∀ j, j < v + 1 → RA j = va_up RA (v + 1) x j ∧ T1 j = va_up T1 (v + 1) 0 j := fun j hj => ⟨(va_ne1 (by omega)).symm, (va_ne1 (by omega)).symm⟩
  refine ⟨⟨by omega, fun j hj => ?_, ?_⟩, ?_⟩
  · by_cases g : j = v + 1
    · subst g
      rw [va_at1, va_at1]
      exact ⟨hx, Nat.zero_le _⟩
    · rw [va_ne1 g, va_ne1 g]
      exact g2 j (by omega)
  · rw [remL, ← rem_c (v + 1) e]
    have hr : 1 + rlL kd sr N tu (va_up RA (v + 1) x) (va_up T1 (v + 1) 0) (v + 1) = lkA kd sr N (tu - v - 1) x (TA v + 1) := by
      unfold rlL lastL
      rw [va_at1, va_at1, if_neg (show ¬ v + 1 = 0 by omega), Nat.add_sub_cancel, va_ne1 (show v ≠ v + 1 by omega), hT1]
      by_cases g : v + 1 < tu
      · rw [if_pos g]
        have e2 : tu - v - 1 = (tu - (v + 1) - 1) + 1 := by omega
        rw [e2] at hg ⊢
        rw [lkA_s hg hx0]
      · rw [if_neg g]
        have e2 : tu - v - 1 = 0 := by omega
        rw [e2] at hg ⊢
        rw [lkA, if_neg (by omega)]
    omega
  · rw [muL, ← mu_c (v + 1) (fun j hj => (e j hj).2), va_at1]
    have h8 : (N + 1 - 0) * 9 ^ (tu - (v + 1)) < 9 ^ (tu - v) := by
      rw [show tu - v = (tu - (v + 1)) + 1 by omega, Nat.pow_succ, Nat.mul_comm]
      exact Nat.mul_lt_mul_of_pos_left (by omega) (Nat.pos_of_ne_zero (by simp))
    omega
theorem con_no {kd sr N w r last t : Nat} (h : aR1 kd sr N r (t + 1) = false ∨ t + 1 = last ∨ w < gpR kd N (nx (sid kd) N r (t + 1))) : conL kd sr N w r last t = 0 := by
  unfold conL
  split
  · next g =>
    rcases h with h | h | h
    · rw [h] at g; exact absurd g.2 (by decide)
    · exact absurd h g.1
    · cases w with
      | zero => rw [lkA, if_pos h]
      | succ w => rw [lkA, if_pos h]
  · rfl
theorem con_yes {kd sr N w r last t : Nat} (h1 : aR1 kd sr N r (t + 1) = true) (h2 : t + 1 ≠ last) : conL kd sr N w r last t = lkA kd sr N w (nx (sid kd) N r (t + 1)) (t + 1) := if_pos ⟨h2, h1⟩
theorem lkA_0 {kd sr N w last : Nat} (h : gpR kd N 0 ≤ w) : lkA kd sr N w 0 last = 1 := by
  cases w with
  | zero => rw [lkA, if_neg (by omega)]
  | succ w => rw [lkA, if_neg (by omega), if_pos rfl]
