/-! a stack that can be sorted can be sorted by few turns: each level that is not new is the last -/
def rb (kd sr N : Nat) : Nat → Nat → Bool
  | 0, r => r == 0
  | t + 1, r => rb kd sr N t r || (List.range N).any fun j => aR1 kd sr N r (j + 1) && rb kd sr N t (nx (sid kd) N r (j + 1))
theorem rb_up {kd sr N t r : Nat} (h : rb kd sr N t r = true) : rb kd sr N (t + 1) r = true := by simp [rb, h]
theorem rb_pth {c : Nat → Nat} {kd sr N : Nat} : ∀ t r, rb kd sr N t r = true → ∃ l w, l ≤ t ∧ pth c kd sr N l w r
  | 0, r, h => ⟨0, 0, Nat.le_refl _, rfl, by simpa [rb] using h⟩
  | t + 1, r, h => by
    simp only [rb, Bool.or_eq_true, List.any_eq_true, Bool.and_eq_true, List.mem_range] at h
    rcases h with h | ⟨j, hj, ha, hb⟩
    · obtain ⟨l, w, h1, h2⟩ := rb_pth (c := c) t r h
      exact ⟨l, w, by omega, h2⟩
    · obtain ⟨l, w, h1, h2⟩ := rb_pth (c := c) t _ hb
      exact ⟨l + 1, w + c (j + 1), by omega, j + 1, _, w, ⟨by omega, by omega, ha, rfl⟩, rfl, h2⟩
theorem pth_rb {c : Nat → Nat} {kd sr N : Nat} : ∀ l w r, pth c kd sr N l w r → rb kd sr N l r = true
  | 0, w, r, h => by simp [rb, h.2]
  | l + 1, w, r, h => by
    obtain ⟨m, r2, w2, ⟨h1, h2, h3, h4⟩, -, hp⟩ := h
    have hb := pth_rb l w2 r2 hp
    simp only [rb, Bool.or_eq_true, List.any_eq_true, Bool.and_eq_true, List.mem_range]
    exact Or.inr ⟨m - 1, by omega, by rw [show m - 1 + 1 = m by omega]; exact h3, by rw [show m - 1 + 1 = m by omega, h4]; exact hb⟩
def cnb (kd sr N t : Nat) : Nat := (List.range (rR (sid kd) N)).countP fun r => rb kd sr N t r
theorem countP_eq_of {α : Type} {p q : α → Bool} : ∀ {l : List α}, (∀ a ∈ l, p a = true → q a = true) → l.countP p = l.countP q → ∀ a ∈ l, q a = true → p a = true
  | [], _, _, a, ha, _ => absurd ha List.not_mem_nil
  | b :: l, hi, hc, a, ha, hq => by
    have hi2 : ∀ a ∈ l, p a = true → q a = true := fun a h => hi a (List.mem_cons_of_mem _ h)
    have hle : l.countP p ≤ l.countP q := List.countP_mono_left hi2
    rw [List.countP_cons, List.countP_cons] at hc
    cases hp : p b with
    | true =>
      have hqb := hi b List.mem_cons_self hp
      rw [hp, hqb] at hc
      rcases List.mem_cons.mp ha with e | e
      · rw [e]; exact hp
      · exact countP_eq_of hi2 (by omega) a e hq
    | false =>
      cases hqb : q b with
      | true =>
        rw [hp, hqb] at hc
        simp at hc
        omega
      | false =>
        rw [hp, hqb] at hc
        rcases List.mem_cons.mp ha with e | e
        · rw [e, hqb] at hq; cases hq
        · exact countP_eq_of hi2 (by simpa using hc) a e hq
theorem rb_stop {kd sr N t : Nat} (hN : N ≤ 6) (h : cnb kd sr N t = cnb kd sr N (t + 1)) : ∀ k r, r < rR (sid kd) N → rb kd sr N (t + k) r = true → rb kd sr N t r = true := by
  have hs : ∀ r, r < rR (sid kd) N → rb kd sr N (t + 1) r = true → rb kd sr N t r = true := fun r hr hb =>
    countP_eq_of (fun a _ ha => rb_up ha) h r (List.mem_range.mpr hr) hb
  intro k
  induction k with
  | zero => intro r _ hb; exact hb
  | succ k ih =>
    intro r hr hb
    have hb2 : rb kd sr N (t + k + 1) r = true := hb
    simp only [rb, Bool.or_eq_true, List.any_eq_true, Bool.and_eq_true, List.mem_range] at hb2
    rcases hb2 with hb2 | ⟨j, hj, ha, hb2⟩
    · exact ih r hr hb2
    · have h1 := ih _ (nx_lt hN hr (by omega)) hb2
      refine hs r hr ?_
      simp only [rb, Bool.or_eq_true, List.any_eq_true, Bool.and_eq_true, List.mem_range]
      exact Or.inr ⟨j, hj, ha, h1⟩
theorem cnb_le (kd sr N t : Nat) : cnb kd sr N t ≤ rR (sid kd) N := by
  have := List.countP_le_length (p := fun r => rb kd sr N t r) (l := List.range (rR (sid kd) N))
  rwa [List.length_range] at this
theorem cnb_mono (kd sr N t : Nat) : cnb kd sr N t ≤ cnb kd sr N (t + 1) := List.countP_mono_left fun _ _ h => rb_up h
/-- some level is not new, among the first R + 1 -/
theorem cnb_ex (kd sr N : Nat) : ∀ n, (∃ t, t < n ∧ cnb kd sr N t = cnb kd sr N (t + 1)) ∨ n ≤ cnb kd sr N n
  | 0 => Or.inr (Nat.zero_le _)
  | n + 1 => by
    rcases cnb_ex kd sr N n with ⟨t, h1, h2⟩ | h
    · exact Or.inl ⟨t, by omega, h2⟩
    · have hm := cnb_mono kd sr N n
      by_cases e : cnb kd sr N n = cnb kd sr N (n + 1)
      · exact Or.inl ⟨n, by omega, e⟩
      · exact Or.inr (by omega)
theorem rb_all {kd sr N r t : Nat} (hN : N ≤ 6) (hr : r < rR (sid kd) N) (h : rb kd sr N t r = true) : rb kd sr N (rR (sid kd) N) r = true := by
  have up : ∀ k t, rb kd sr N t r = true → rb kd sr N (t + k) r = true := by
    intro k
    induction k with
    | zero => intro t h; exact h
    | succ k ih => intro t h; exact rb_up (ih t h)
  rcases cnb_ex kd sr N (rR (sid kd) N + 1) with ⟨s, h1, h2⟩ | h2
  · have h3 : rb kd sr N s r = true := by
      rcases Nat.lt_or_ge s t with g | g
      · exact rb_stop hN h2 (t - s) r hr (by rw [show s + (t - s) = t by omega]; exact h)
      · have := up (s - t) t h
        rwa [show t + (s - t) = s by omega] at this
    have := up (rR (sid kd) N - s) s h3
    rwa [show s + (rR (sid kd) N - s) = rR (sid kd) N by omega] at this
  · have := cnb_le kd sr N (rR (sid kd) N + 1)
    omega
theorem pth_cost {kd sr N : Nat} : ∀ l w r, pth (fun m => m) kd sr N l w r → w ≤ N * l
  | 0, w, r, h => by have := h.1; omega
  | l + 1, w, r, h => by
    obtain ⟨m, r2, w2, ⟨h1, h2, -, -⟩, hw, hp⟩ := h
    have := pth_cost l w2 r2 hp
    rw [Nat.mul_succ]
    simp only at hw
    omega
theorem wk_le {kd N sr : Nat} (h : shOK kd N sr) : N * rR (sid kd) N ≤ 19200 := by
  have hN := h.2.2.1
  cases e : sid kd with
  | true =>
    have h1 := rR_le h
    rw [e] at hN h1
    simp only [if_true] at hN
    have := Nat.mul_le_mul (show N ≤ 5 by omega) h1
    omega
  | false =>
    have h1 := (fac_le h.N).1
    have : rR false N ≤ 720 := by simp [rR, sm]; exact h1
    have := Nat.mul_le_mul h.N this
    omega
/-- what can be sorted costs little -/
theorem rc_bd {kd N sr r w : Nat} (h : shOK kd N sr) (hr : r < rR (sid kd) N) (hw : rc (fun m => m) kd sr N w r) : ∃ w2, w2 ≤ 19200 ∧ rc (fun m => m) kd sr N w2 r := by
  obtain ⟨l, hl⟩ := hw
  obtain ⟨l2, w2, h1, h2⟩ := rb_pth (c := fun m => m) _ r (rb_all h.N hr (pth_rb l w r hl))
  have h3 := pth_cost l2 w2 r h2
  have h4 := wk_le h
  have h5 := Nat.mul_le_mul_left N h1
  exact ⟨w2, by omega, l2, h2⟩
/-- costs that are real, and that no turn lowers, are the least -/
theorem fix_dist {kd N sr : Nat} {d : Nat → Nat} (h : shOK kd N sr) (h0 : d 0 = 0) (hle : ∀ r, r < rR (sid kd) N → d r ≤ 1000000) (hre : ∀ r, r < rR (sid kd) N → d r ≠ 1000000 → rc (fun m => m) kd sr N (d r) r)
    (hfix : ∀ r m, r < rR (sid kd) N → 1 ≤ m → m ≤ N → aR1 kd sr N r m = true → d r ≤ d (nx (sid kd) N r m) + m) : DistIs (fun m => m) kd sr N d := by
  have key : ∀ l w r, r < rR (sid kd) N → pth (fun m => m) kd sr N l w r → d r ≤ w := by
    intro l
    induction l with
    | zero =>
      intro w r hr hp
      obtain ⟨rfl, rfl⟩ := hp
      omega
    | succ l ih =>
      intro w r hr hp
      obtain ⟨m, r2, w2, e, hw, hp2⟩ := hp
      have h1 := ih w2 r2 (ed_back h.N hr e).2 hp2
      have h2 := hfix r m hr e.1 e.2.1 e.2.2.1
      rw [e.2.2.2] at h2
      simp only at hw
      omega
  intro r hr
  refine ⟨hle r hr, fun hd => ⟨hre r hr hd, fun w hw => ?_⟩, fun hd w hw => ?_⟩
  · obtain ⟨l, hl⟩ := hw
    exact key l w r hr hl
  · obtain ⟨w2, h1, l, hl⟩ := rc_bd h hr hw
    have := key l w2 r hr hl
    omega
def sumD (d : Nat → Nat) : Nat → Nat
  | 0 => 0
  | i + 1 => sumD d i + d i
theorem sumD_up {d : Nat → Nat} {x v : Nat} : ∀ R, (R ≤ x → sumD (va_up d x v) R = sumD d R) ∧ (x < R → sumD (va_up d x v) R + d x = sumD d R + v)
  | 0 => ⟨fun _ => rfl, fun h => absurd h (Nat.not_lt_zero x)⟩
  | R + 1 => by
    obtain ⟨h1, h2⟩ := sumD_up (d := d) (x := x) (v := v) R
    refine ⟨fun h => ?_, fun h => ?_⟩
    · have : va_up d x v R = d R := by simp [va_up, show R ≠ x by omega]
      rw [sumD, sumD, h1 (by omega), this]
    · rcases Nat.lt_or_eq_of_le (Nat.le_of_lt_succ h) with g | g
      · have : va_up d x v R = d R := by simp [va_up, show R ≠ x by omega]
        rw [sumD, sumD, this]
        have := h2 g
        omega
      · subst g
        have : va_up d x v x = v := by simp [va_up]
        rw [sumD, sumD, h1 (Nat.le_refl _), this]
        omega
/-- the costs so far are real -/
def LI (kd sr N : Nat) (d : Nat → Nat) : Prop := d 0 = 0 ∧ (∀ r, r < rR (sid kd) N → d r ≤ 1000000) ∧ ∀ r, r < rR (sid kd) N → d r ≠ 1000000 → rc (fun m => m) kd sr N (d r) r
/-- the k-th turn of the table (6 a rank) lowers nothing -/
def okE (kd sr N : Nat) (d : Nat → Nat) (k : Nat) : Prop := k % 6 + 1 ≤ N → aR1 kd sr N (k / 6) (k % 6 + 1) = true → d (k / 6) ≤ d (nx (sid kd) N (k / 6) (k % 6 + 1)) + (k % 6 + 1)
theorem LI.init {kd sr N : Nat} : LI kd sr N (fun r => if r = 0 then 0 else 1000000) := by
  refine ⟨rfl, fun r _ => ?_, fun r _ hd => ?_⟩
  · show (if r = 0 then 0 else 1000000) ≤ 1000000
    split <;> omega
  · by_cases g : r = 0
    · subst g
      exact ⟨0, rfl, rfl⟩
    · simp [g] at hd
theorem LI.low {kd sr N : Nat} {d : Nat → Nat} {r m : Nat} (hN : N ≤ 6) (h : LI kd sr N d) (hr : r < rR (sid kd) N) (h1 : 1 ≤ m) (h2 : m ≤ N) (ha : aR1 kd sr N r m = true) (hl : d (nx (sid kd) N r m) + m < d r) : LI kd sr N (va_up d r (d (nx (sid kd) N r m) + m)) := by
  obtain ⟨b1, b2, b3⟩ := h
  have hb := b2 r hr
  have hx := nx_lt hN hr h2
  have hne : d (nx (sid kd) N r m) ≠ 1000000 := by omega
  refine ⟨?_, fun r2 hr2 => ?_, fun r2 hr2 hd => ?_⟩
  · have : (0 : Nat) ≠ r := by intro e; rw [← e, b1] at hl; omega
    simp [va_up, this, b1]
  · by_cases g : r2 = r
    · simp [va_up, g]; omega
    · simp [va_up, g]; exact b2 r2 hr2
  · by_cases g : r2 = r
    · subst g
      obtain ⟨l, hp⟩ := b3 _ hx hne
      simp only [va_up, if_true]
      exact ⟨l + 1, m, _, _, ⟨h1, h2, ha, rfl⟩, rfl, hp⟩
    · simp [va_up, g] at hd ⊢
      exact b3 r2 hr2 hd
theorem LI.done {kd sr N : Nat} {d : Nat → Nat} (hh : shOK kd N sr) (h : LI kd sr N d) (hf : ∀ k, k < 6 * rR (sid kd) N → okE kd sr N d k) : DistIs (fun m => m) kd sr N d := by
  refine fix_dist hh h.1 h.2.1 h.2.2 fun r m hr h1 h2 ha => ?_
  have hN := hh.N
  have := hf (6 * r + (m - 1)) (by omega)
  unfold okE at this
  rw [show (6 * r + (m - 1)) / 6 = r by omega, show (6 * r + (m - 1)) % 6 + 1 = m by omega] at this
  exact this h2 ha
