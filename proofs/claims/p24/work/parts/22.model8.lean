theorem nxV_eq {kd sr N r m t : Nat} (ht : t < 2 ^ 31) (h : nxV kd sr N r m = nI t) : aR1 kd sr N r m = true := by
  cases g : aR1 kd sr N r m with
  | true => rfl
  | false =>
    rw [nxV, if_neg (by rw [g]; decide)] at h
    have := nI_pos' ht
    rw [← h] at this
    exact absurd this (by decide)
theorem nxV_ne {kd sr N r m t : Nat} (hn : nx (sid kd) N r m = t) (h : ¬ nxV kd sr N r m = nI t) : aR1 kd sr N r m = false := by
  cases g : aR1 kd sr N r m with
  | false => rfl
  | true => exact absurd (by rw [nxV, if_pos g, hn]) h
theorem nxV_neg {kd sr N r m : Nat} (hh : shOK kd N sr) (hr : r < rR (sid kd) N) (hm : m ≤ N) (h : nxV kd sr N r m < 0) : ¬ aR1 kd sr N r m = true := by
  intro g
  rw [nxV, if_pos g] at h
  have h1 := nx_lt (sb := sid kd) hh.N hr hm
  have h2 := rR_le hh
  exact nI_pos (by omega) h
theorem bi_st {kd sr N : Nat} {d Q : Nat → Nat} {many q k t : Nat} (hh : shOK kd N sr) (h : BI kd sr N d Q many q k) (hq : q < many) (hk : k < N) (ht : Q q = t) (hF : d (nx (sid kd) N t (k + 1)) = 1000000) (he : aR1 kd sr N (nx (sid kd) N t (k + 1)) (k + 1) = true) :
    BI kd sr N (va_up d (nx (sid kd) N t (k + 1)) (d t + 1)) (va_up Q many (nx (sid kd) N t (k + 1))) (many + 1) q (k + 1) := by
  subst ht
  exact h.step hh hq hk hF he
theorem bi_sk {kd sr N : Nat} {d Q : Nat → Nat} {many q k t : Nat} (hh : shOK kd N sr) (h : BI kd sr N d Q many q k) (hq : q < many) (hk : k < N) (ht : Q q = t) (hs : aR1 kd sr N (nx (sid kd) N t (k + 1)) (k + 1) = false ∨ d (nx (sid kd) N t (k + 1)) ≠ 1000000) : BI kd sr N d Q many q (k + 1) := by
  subst ht
  exact h.skip hh hq hk hs
theorem upd_va {f : Nat → Int32} {d : Nat → Nat} {R x v : Nat} (h : ∀ j, j < R → f j = nI (d j)) : ∀ j, j < R → upd f x (nI v) j = nI (va_up d x v j) := fun j hj => by
  by_cases e : j = x
  · subst e
    rw [pk_us]
    simp [va_up]
  · rw [pk_un e, h j hj]
    simp [va_up, e]
theorem upd_vq {f : Nat → Int32} {d : Nat → Nat} {m v : Nat} (h : ∀ j, j < m → f j = nI (d j)) : ∀ j, j < m + 1 → upd f m (nI v) j = nI (va_up d m v j) := fun j hj => by
  by_cases e : j = m
  · subst e
    rw [pk_us]
    simp [va_up]
  · rw [pk_un e, h j (by omega)]
    simp [va_up, e]
/-- how many are at a distance -/
def ofd (dd : Nat → Nat) (w : Nat) : Nat → Nat
  | 0 => 0
  | i + 1 => ofd dd w i + (if dd i = w then 1 else 0)
/-- a turn that leads nearer -/
def nrr (kd sr N : Nat) (dd : Nat → Nat) (r m : Nat) : Prop := aR1 kd sr N r m = true ∧ dd (nx (sid kd) N r m) = dd r - 1
/-- the first of them -/
def fst9 (kd sr N : Nat) (dd : Nat → Nat) (r : Nat) : Nat := ((List.range N).find? fun j => aR1 kd sr N r (j + 1) && dd (nx (sid kd) N r (j + 1)) == dd r - 1).getD 0 + 1
theorem fst_ok {kd sr N : Nat} {dd : Nat → Nat} {r : Nat} (hh : shOK kd N sr) (hd : DistIs one kd sr N dd) (hr : r < rR (sid kd) N) (h0 : 0 < dd r) (h9 : dd r ≤ 9) :
    1 ≤ fst9 kd sr N dd r ∧ fst9 kd sr N dd r ≤ N ∧ nrr kd sr N dd r (fst9 kd sr N dd r) ∧ ∀ m, 1 ≤ m → m < fst9 kd sr N dd r → ¬ nrr kd sr N dd r m := by
  have hex : ∃ j, j < N ∧ nrr kd sr N dd r (j + 1) := by
    obtain ⟨-, h2, -⟩ := hd r hr
    obtain ⟨⟨l, hl⟩, hmin⟩ := h2 (by omega)
    cases l with
    | zero => have := hl.1; omega
    | succ l =>
      obtain ⟨m, r2, w2, e, hw, hp⟩ := hl
      have hr2 := (ed_back hh.N hr e).2
      refine ⟨m - 1, by have := e.1; have := e.2.1; omega, ?_⟩
      rw [show m - 1 + 1 = m by have := e.1; omega]
      refine ⟨e.2.2.1, ?_⟩
      rw [e.2.2.2]
      have hw1 : dd r = w2 + 1 := hw
      obtain ⟨g1, g2, g3⟩ := hd r2 hr2
      have hne : dd r2 ≠ 1000000 := fun z => g3 z w2 ⟨l, hp⟩
      have ha := (g2 hne).2 w2 ⟨l, hp⟩
      obtain ⟨l3, hl3⟩ := (g2 hne).1
      have hb := hmin (dd r2 + 1) ⟨l3 + 1, m, r2, dd r2, e, rfl, hl3⟩
      omega
  unfold fst9
  cases hf : (List.range N).find? (fun j => aR1 kd sr N r (j + 1) && dd (nx (sid kd) N r (j + 1)) == dd r - 1) with
  | none =>
    obtain ⟨j, hj, hn⟩ := hex
    have := List.find?_eq_none.mp hf j (List.mem_range.mpr hj)
    simp [hn.1, hn.2] at this
  | some j =>
    have h1 := List.find?_some hf
    have h2 := List.mem_range.mp (List.mem_of_find?_eq_some hf)
    simp at h1
    simp only [Option.getD_some]
    refine ⟨by omega, by omega, ⟨h1.1, h1.2⟩, fun m hm1 hm2 hn => ?_⟩
    have h3 := List.find?_eq_some_iff_getElem.mp hf
    obtain ⟨-, i, hi, hij, hall⟩ := h3
    simp at hij hi
    have h4 := hall (m - 1) (by omega)
    simp at h4
    rw [show m - 1 + 1 = m by omega] at h4
    rcases h4 with h4 | h4
    · rw [hn.1] at h4; cases h4
    · exact h4 hn.2
theorem fst_eq {kd sr N : Nat} {dd : Nat → Nat} {r j : Nat} (h : 1 ≤ fst9 kd sr N dd r ∧ fst9 kd sr N dd r ≤ N ∧ nrr kd sr N dd r (fst9 kd sr N dd r) ∧ ∀ m, 1 ≤ m → m < fst9 kd sr N dd r → ¬ nrr kd sr N dd r m) (_ : j < N) (hy : nrr kd sr N dd r (j + 1)) (hl : ∀ i, i < j → ¬ nrr kd sr N dd r (i + 1)) : j + 1 = fst9 kd sr N dd r := by
  rcases Nat.lt_trichotomy (j + 1) (fst9 kd sr N dd r) with g | g | g
  · exact absurd hy (h.2.2.2 _ (by omega) g)
  · exact g
  · have := hl (fst9 kd sr N dd r - 1) (by omega)
    rw [show fst9 kd sr N dd r - 1 + 1 = fst9 kd sr N dd r by omega] at this
    exact absurd h.2.2.1 this
theorem fst_nx {kd sr N : Nat} {dd : Nat → Nat} {r j : Nat} (h : 1 ≤ fst9 kd sr N dd r ∧ fst9 kd sr N dd r ≤ N ∧ nrr kd sr N dd r (fst9 kd sr N dd r) ∧ ∀ m, 1 ≤ m → m < fst9 kd sr N dd r → ¬ nrr kd sr N dd r m) (hl : ∀ i, i < j → ¬ nrr kd sr N dd r (i + 1)) (hn : ¬ nrr kd sr N dd r (j + 1)) : j + 1 < N := by
  rcases Nat.lt_or_ge (j + 1) N with g | g
  · exact g
  · have h1 : fst9 kd sr N dd r - 1 ≤ j := by omega
    have h2 : ¬ nrr kd sr N dd r (fst9 kd sr N dd r - 1 + 1) := by
      rcases Nat.lt_or_eq_of_le h1 with g2 | g2
      · exact hl _ g2
      · rw [g2]; exact hn
    rw [show fst9 kd sr N dd r - 1 + 1 = fst9 kd sr N dd r by omega] at h2
    exact absurd h.2.2.1 h2
/-- the row that follows the first turns that lead nearer -/
def fwR (kd sr N : Nat) (dd : Nat → Nat) : Nat → Nat → Nat → Nat
  | 0, _, row => row
  | w + 1, r, row => if dd r = 0 then row else fwR kd sr N dd w (nx (sid kd) N r (fst9 kd sr N dd r)) (10 * row + fst9 kd sr N dd r)
theorem fwR_0 {kd sr N : Nat} {dd : Nat → Nat} {r row : Nat} (h : dd r = 0) : fwR kd sr N dd (dd r) r row = row := by rw [h]; rfl
theorem fwR_s {kd sr N : Nat} {dd : Nat → Nat} {r row j : Nat} (hj : j + 1 = fst9 kd sr N dd r) (h0 : 0 < dd r) (h : dd (nx (sid kd) N r (j + 1)) = dd r - 1) : fwR kd sr N dd (dd (nx (sid kd) N r (j + 1))) (nx (sid kd) N r (j + 1)) (10 * row + (j + 1)) = fwR kd sr N dd (dd r) r row := by
  obtain ⟨z, hz⟩ : ∃ z, dd r = z + 1 := ⟨dd r - 1, by omega⟩
  rw [h, hz, fwR, if_neg (by omega), ← hj]
  rfl
