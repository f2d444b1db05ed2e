/-! rows of turns that sort, with a cost for each turn -/
def ed (kd sr N r m r2 : Nat) : Prop := 1 ≤ m ∧ m ≤ N ∧ aR1 kd sr N r m = true ∧ nx (sid kd) N r m = r2
def pth (c : Nat → Nat) (kd sr N : Nat) : Nat → Nat → Nat → Prop
  | 0, w, r => w = 0 ∧ r = 0
  | l + 1, w, r => ∃ m r2 w2, ed kd sr N r m r2 ∧ w = w2 + c m ∧ pth c kd sr N l w2 r2
def rc (c : Nat → Nat) (kd sr N w r : Nat) : Prop := ∃ l, pth c kd sr N l w r
/-- the least costs, 1000000 where there is no row -/
def DistIs (c : Nat → Nat) (kd sr N : Nat) (d : Nat → Nat) : Prop := ∀ r, r < rR (sid kd) N → d r ≤ 1000000 ∧ (d r ≠ 1000000 → rc c kd sr N (d r) r ∧ ∀ w, rc c kd sr N w r → d r ≤ w) ∧ (d r = 1000000 → ∀ w, ¬ rc c kd sr N w r)
theorem DistIs.uniq {c : Nat → Nat} {kd sr N : Nat} {d e : Nat → Nat} (h : DistIs c kd sr N d) (g : DistIs c kd sr N e) {r : Nat} (hr : r < rR (sid kd) N) : d r = e r := by
  obtain ⟨h1, h2, h3⟩ := h r hr
  obtain ⟨g1, g2, g3⟩ := g r hr
  by_cases a : d r = 1000000
  · by_cases b : e r = 1000000
    · rw [a, b]
    · exact absurd (g2 b).1 (h3 a _)
  · by_cases b : e r = 1000000
    · exact absurd (h2 a).1 (g3 b _)
    · have := (h2 a).2 _ (g2 b).1
      have := (g2 b).2 _ (h2 a).1
      omega
theorem ed_back {kd sr N r m r2 : Nat} (hN : N ≤ 6) (hr : r < rR (sid kd) N) (h : ed kd sr N r m r2) : r = nx (sid kd) N r2 m ∧ r2 < rR (sid kd) N := by
  obtain ⟨h1, h2, h3, h4⟩ := h
  subst h4
  exact ⟨(nx_in hN hr h2).symm, nx_lt hN hr h2⟩
def one : Nat → Nat := fun _ => 1
/-- how many are known -/
def kno (d : Nat → Nat) (R : Nat) : Nat := (List.range R).countP fun r => decide (d r ≠ 1000000)
theorem kno_le (d : Nat → Nat) (R : Nat) : kno d R ≤ R := by
  have := List.countP_le_length (p := fun r => decide (d r ≠ 1000000)) (l := List.range R)
  rwa [List.length_range] at this
theorem kno_up {d : Nat → Nat} {v x : Nat} (hv : v ≠ 1000000) : ∀ R, (R ≤ x → kno (va_up d x v) R = kno d R) ∧ (x < R → d x = 1000000 → kno (va_up d x v) R = kno d R + 1)
  | 0 => ⟨fun _ => rfl, fun h => absurd h (Nat.not_lt_zero x)⟩
  | R + 1 => by
    obtain ⟨h1, h2⟩ := kno_up hv R (d := d) (x := x)
    have e : ∀ f : Nat → Nat, kno f (R + 1) = kno f R + (if f R ≠ 1000000 then 1 else 0) := by
      intro f
      unfold kno
      rw [List.range_succ, List.countP_append]
      congr 1
      by_cases g : f R = 1000000 <;> simp [List.countP_cons, g]
    refine ⟨fun h => ?_, fun h hx => ?_⟩
    · rw [e, e, h1 (by omega)]
      have : va_up d x v R = d R := by simp [va_up, show R ≠ x by omega]
      rw [this]
    · rcases Nat.lt_or_eq_of_le (Nat.le_of_lt_succ h) with g | g
      · rw [e, e, h2 g hx]
        have : va_up d x v R = d R := by simp [va_up, show R ≠ x by omega]
        rw [this]
        omega
      · subst g
        rw [e, e, h1 (Nat.le_refl _)]
        have : va_up d x v x = v := by simp [va_up]
        rw [this, if_pos hv, if_neg (by rw [hx]; decide)]
theorem kno_lt {d : Nat → Nat} {R x : Nat} (hx : x < R) (h : d x = 1000000) : kno d R < R := by
  have h1 := (kno_up (d := d) (v := 0) (x := x) (by decide) R).2 hx h
  have h2 := kno_le (va_up d x 0) R
  omega
/-- the search in breadth, at the q-th of the many that wait, its first k turns looked at -/
def BI (kd sr N : Nat) (d Q : Nat → Nat) (many q k : Nat) : Prop :=
  d 0 = 0 ∧ kno d (rR (sid kd) N) = many ∧ (∀ j, j < many → Q j < rR (sid kd) N ∧ d (Q j) ≤ j) ∧ (∀ i j, i ≤ j → j < many → d (Q i) ≤ d (Q j)) ∧ (∀ j, j < many → q < many → d (Q j) ≤ d (Q q) + 1) ∧
  (∀ r, r < rR (sid kd) N → d r ≠ 1000000 → ∃ j, j < many ∧ Q j = r) ∧ (∀ r, r < rR (sid kd) N → d r ≠ 1000000 → rc one kd sr N (d r) r) ∧
  (∀ j, j < q → j < many → ∀ r m, r < rR (sid kd) N → ed kd sr N r m (Q j) → d r ≤ d (Q j) + 1) ∧ (q < many → ∀ r m, m ≤ k → r < rR (sid kd) N → ed kd sr N r m (Q q) → d r ≤ d (Q q) + 1) ∧ (∀ r, r < rR (sid kd) N → d r ≤ 1000000)
theorem BI.many {kd sr N : Nat} {d Q : Nat → Nat} {many q k : Nat} (h : BI kd sr N d Q many q k) : many ≤ rR (sid kd) N := by rw [← h.2.1]; exact kno_le d _
theorem BI.step {kd sr N : Nat} {d Q : Nat → Nat} {many q k : Nat} (hh : shOK kd N sr) (h : BI kd sr N d Q many q k) (hq : q < many) (hk : k < N) (hF : d (nx (sid kd) N (Q q) (k + 1)) = 1000000) (he : aR1 kd sr N (nx (sid kd) N (Q q) (k + 1)) (k + 1) = true) :
    BI kd sr N (va_up d (nx (sid kd) N (Q q) (k + 1)) (d (Q q) + 1)) (va_up Q many (nx (sid kd) N (Q q) (k + 1))) (many + 1) q (k + 1) := by
  have hN := hh.N
  have hR := rR_le hh
  have hm := h.many
  obtain ⟨b1, b2, b3, b4, b5, b6, b7, b8, b9, b10⟩ := h
  have hto := b3 q hq
  have hfr : nx (sid kd) N (Q q) (k + 1) < rR (sid kd) N := nx_lt hN hto.1 (by omega)
  have hnn : nx (sid kd) N (nx (sid kd) N (Q q) (k + 1)) (k + 1) = Q q := nx_in hN hto.1 (by omega)
  generalize hx : nx (sid kd) N (Q q) (k + 1) = x at *
  have hv : d (Q q) + 1 ≠ 1000000 := by omega
  have hne : ∀ r, d r ≠ 1000000 → r ≠ x := fun r hr e => hr (by rw [e]; exact hF)
  have hQ : ∀ j, j < many → d (Q j) ≠ 1000000 := fun j hj => by have := (b3 j hj).2; omega
  have eQ : ∀ j, j < many → va_up Q many x j = Q j := fun j hj => by simp [va_up, show j ≠ many by omega]
  have eN : va_up Q many x many = x := by simp [va_up]
  have eD : ∀ r, r ≠ x → va_up d x (d (Q q) + 1) r = d r := fun r hr => by simp [va_up, hr]
  have eX : va_up d x (d (Q q) + 1) x = d (Q q) + 1 := by simp [va_up]
  have eDQ : ∀ j, j < many → va_up d x (d (Q q) + 1) (va_up Q many x j) = d (Q j) := fun j hj => by rw [eQ j hj, eD _ (hne _ (hQ j hj))]
  have edx : ed kd sr N x (k + 1) (Q q) := ⟨by omega, by omega, he, hnn⟩
  refine ⟨?_, ?_, fun j hj => ?_, fun i j hij hj => ?_, fun j hj _ => ?_, fun r hr hd => ?_, fun r hr hd => ?_, fun j hj _ r m hr e => ?_, fun _ r m hmk hr e => ?_, fun r hr => ?_⟩
  · rw [eD 0 (hne 0 (by rw [b1]; decide))]; exact b1
  · rw [(kno_up hv _).2 hfr hF, b2]
  · rcases Nat.lt_or_eq_of_le (Nat.le_of_lt_succ hj) with g | g
    · rw [eDQ j g, eQ j g]; exact b3 j g
    · subst g
      rw [eN, eX]
      exact ⟨hfr, by omega⟩
  · rcases Nat.lt_or_eq_of_le (Nat.le_of_lt_succ hj) with g | g
    · rw [eDQ j g, eDQ i (by omega)]; exact b4 i j hij g
    · subst g
      rw [eN, eX]
      rcases Nat.lt_or_eq_of_le hij with g2 | g2
      · rw [eDQ i g2]; exact b5 i g2 hq
      · subst g2
        rw [eN, eX]
        exact Nat.le_refl _
  · rw [eDQ q hq]
    rcases Nat.lt_or_eq_of_le (Nat.le_of_lt_succ hj) with g | g
    · rw [eDQ j g]; exact b5 j g hq
    · subst g
      rw [eN, eX]
      exact Nat.le_refl _
  · by_cases g : r = x
    · exact ⟨many, by omega, by rw [eN, g]⟩
    · rw [eD r g] at hd
      obtain ⟨j, hj, e⟩ := b6 r hr hd
      exact ⟨j, by omega, by rw [eQ j hj]; exact e⟩
  · by_cases g : r = x
    · subst g
      rw [eX]
      obtain ⟨l, hl⟩ := b7 (Q q) hto.1 (hQ q hq)
      exact ⟨l + 1, k + 1, Q q, d (Q q), edx, rfl, hl⟩
    · rw [eD r g] at hd ⊢
      exact b7 r hr hd
  · have hjm : j < many := by omega
    rw [eQ j hjm] at e ⊢
    rw [eD _ (hne _ (hQ j hjm))]
    have h1 := b8 j hj hjm r m hr e
    rw [eD r (hne r (by have := (b3 j hjm).2; omega))]
    exact h1
  · rw [eQ q hq] at e ⊢
    rw [eD _ (hne _ (hQ q hq))]
    by_cases g : r = x
    · rw [g, eX]; exact Nat.le_refl _
    · rw [eD r g]
      rcases Nat.lt_or_eq_of_le hmk with g2 | g2
      · exact b9 hq r m (by omega) hr e
      · subst g2
        exact absurd ((ed_back hN hr e).1.trans hx) g
  · by_cases g : r = x
    · rw [g, eX]; omega
    · rw [eD r g]; exact b10 r hr
theorem BI.skip {kd sr N : Nat} {d Q : Nat → Nat} {many q k : Nat} (hh : shOK kd N sr) (h : BI kd sr N d Q many q k) (hq : q < many) (hk : k < N) (hs : aR1 kd sr N (nx (sid kd) N (Q q) (k + 1)) (k + 1) = false ∨ d (nx (sid kd) N (Q q) (k + 1)) ≠ 1000000) :
    BI kd sr N d Q many q (k + 1) := by
  have hN := hh.N
  obtain ⟨b1, b2, b3, b4, b5, b6, b7, b8, b9, b10⟩ := h
  refine ⟨b1, b2, b3, b4, b5, b6, b7, b8, fun _ r m hmk hr e => ?_, b10⟩
  rcases Nat.lt_or_eq_of_le hmk with g2 | g2
  · exact b9 hq r m (by omega) hr e
  · subst g2
    have hb := ed_back hN hr e
    rcases hs with hs | hs
    · rw [← hb.1] at hs
      rw [e.2.2.1] at hs
      cases hs
    · rw [← hb.1] at hs
      obtain ⟨j, hj, e2⟩ := b6 r hr hs
      rw [← e2]
      exact b5 j hj hq
theorem BI.next {kd sr N : Nat} {d Q : Nat → Nat} {many q k : Nat} (h : BI kd sr N d Q many q k) (hq : q < many) (hk : N ≤ k) : BI kd sr N d Q many (q + 1) 0 := by
  obtain ⟨b1, b2, b3, b4, b5, b6, b7, b8, b9, b10⟩ := h
  refine ⟨b1, b2, b3, b4, fun j hj hq2 => ?_, b6, b7, fun j hj hjm r m hr e => ?_, fun _ r m hmk hr e => ?_, b10⟩
  · have := b5 j hj hq
    have := b4 q (q + 1) (by omega) hq2
    omega
  · rcases Nat.lt_or_eq_of_le (Nat.le_of_lt_succ hj) with g | g
    · exact b8 j g hjm r m hr e
    · subst g
      exact b9 hq r m (Nat.le_trans e.2.1 hk) hr e
  · have := e.1
    omega
theorem BI.init {kd sr N : Nat} (hN : N ≤ 6) : BI kd sr N (fun r => if r = 0 then 0 else 1000000) (fun _ => 0) 1 0 0 := by
  have hp := rR_pos (sb := sid kd) hN
  refine ⟨rfl, ?_, fun j hj => ⟨hp, by simp⟩, fun i j _ _ => Nat.le_refl _, fun j _ _ => by simp, fun r hr hd => ⟨0, by decide, ?_⟩, fun r hr hd => ?_, fun j hj => absurd hj (Nat.not_lt_zero j), fun _ r m hmk hr e => ?_, fun r hr => ?_⟩
  · have h1 : kno (fun _ => 1000000) (rR (sid kd) N) = 0 := by simp [kno]
    have h2 := (kno_up (d := fun _ => 1000000) (v := 0) (x := 0) (by decide) (rR (sid kd) N)).2 hp rfl
    rw [h1] at h2
    exact h2
  · by_cases g : r = 0
    · exact g.symm
    · simp [g] at hd
  · by_cases g : r = 0
    · subst g
      exact ⟨0, rfl, rfl⟩
    · simp [g] at hd
  · have := e.1
    omega
  · show (if r = 0 then 0 else 1000000) ≤ 1000000
    split <;> omega
theorem BI.done {kd sr N : Nat} {d Q : Nat → Nat} {many q k : Nat} (hh : shOK kd N sr) (h : BI kd sr N d Q many q k) (hq : many ≤ q) : DistIs one kd sr N d := by
  have hN := hh.N
  have hR := rR_le hh
  have hm := h.many
  obtain ⟨b1, b2, b3, b4, b5, b6, b7, b8, b9, b10⟩ := h
  have key : ∀ l w r, r < rR (sid kd) N → pth one kd sr N l w r → d r ≠ 1000000 ∧ d r ≤ w := by
    intro l
    induction l with
    | zero =>
      intro w r hr hp
      obtain ⟨rfl, rfl⟩ := hp
      rw [b1]
      exact ⟨by decide, Nat.le_refl _⟩
    | succ l ih =>
      intro w r hr hp
      obtain ⟨m, r2, w2, e, hw, hp2⟩ := hp
      have hr2 := (ed_back hN hr e).2
      obtain ⟨g1, g2⟩ := ih w2 r2 hr2 hp2
      obtain ⟨j, hj, rfl⟩ := b6 r2 hr2 g1
      have h1 := b8 j (by omega) hj r m hr e
      have h2 := (b3 j hj).2
      have : one m = 1 := rfl
      omega
  intro r hr
  refine ⟨b10 r hr, fun hd => ⟨b7 r hr hd, fun w hw => ?_⟩, fun hd w hw => ?_⟩
  · obtain ⟨l, hl⟩ := hw
    exact (key l w r hr hl).2
  · obtain ⟨l, hl⟩ := hw
    exact (key l w r hr hl).1 hd
