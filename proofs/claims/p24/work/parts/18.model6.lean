/-! a text read sign by sign: the place of the fault (or the end), its reason (0: none), the kitchen then, how many turns -/
def prs (t : Nat → Nat) (L : Nat) : Nat → Nat → Option Nat → Nat → AK → Nat → Nat × Nat × AK × Nat
  | 0, i, _, _, a, dn => (i, 0, a, dn)
  | w + 1, i, op, dg, a, dn =>
    if i < L then
      match op with
      | none => if 65 ≤ t i ∧ t i ≤ 69 then (if t i - 65 < aN a then prs t L w (i + 1) (some (t i - 65)) 0 a dn else (i, 2, a, dn)) else (i, 1, a, dn)
      | some k => if 48 ≤ t i ∧ t i ≤ 57 then (if okA a k (t i - 48) = true then prs t L w (i + 1) (some k) (dg + 1) (tnA a k (t i - 48)) (dn + 1) else (i, 3, a, dn))
        else if t i = 59 ∧ dg ≠ 0 then prs t L w (i + 1) none 0 a dn else (i, 1, a, dn)
    else match op with
      | none => (i, 0, a, dn)
      | some _ => (i, 1, a, dn)
theorem prs_w {L i : Nat} (h : i ≤ L) : ∃ z, L + 1 - i = z + 1 ∧ z = L + 1 - (i + 1) := ⟨L - i, by omega, by omega⟩
theorem prs_end {t : Nat → Nat} {L : Nat} {a : AK} {dn : Nat} : prs t L (L + 1 - L) L none 0 a dn = (L, 0, a, dn) := by
  rw [show L + 1 - L = 0 + 1 by omega, prs, if_neg (Nat.lt_irrefl L)]
theorem prs_o {t : Nat → Nat} {L i dg : Nat} {a : AK} {dn : Nat} (hi : i < L) (h1 : 65 ≤ t i ∧ t i ≤ 69) (h2 : t i - 65 < aN a) : prs t L (L + 1 - i) i none dg a dn = prs t L (L + 1 - (i + 1)) (i + 1) (some (t i - 65)) 0 a dn := by
  obtain ⟨z, hz, hz2⟩ := prs_w (Nat.le_of_lt hi)
  rw [hz, prs, if_pos hi, ← hz2]
  simp only [if_pos h1, if_pos h2]
theorem prs_o2 {t : Nat → Nat} {L i dg : Nat} {a : AK} {dn : Nat} (hi : i < L) (h1 : 65 ≤ t i ∧ t i ≤ 69) (h2 : ¬ t i - 65 < aN a) : prs t L (L + 1 - i) i none dg a dn = (i, 2, a, dn) := by
  obtain ⟨z, hz, hz2⟩ := prs_w (Nat.le_of_lt hi)
  rw [hz, prs, if_pos hi]
  simp only [if_pos h1, if_neg h2]
theorem prs_o1 {t : Nat → Nat} {L i dg : Nat} {a : AK} {dn : Nat} (hi : i < L) (h1 : ¬ (65 ≤ t i ∧ t i ≤ 69)) : prs t L (L + 1 - i) i none dg a dn = (i, 1, a, dn) := by
  obtain ⟨z, hz, hz2⟩ := prs_w (Nat.le_of_lt hi)
  rw [hz, prs, if_pos hi]
  simp only [if_neg h1]
theorem prs_d {t : Nat → Nat} {L i k dg : Nat} {a : AK} {dn : Nat} (hi : i < L) (h1 : 48 ≤ t i ∧ t i ≤ 57) (h2 : okA a k (t i - 48) = true) : prs t L (L + 1 - i) i (some k) dg a dn = prs t L (L + 1 - (i + 1)) (i + 1) (some k) (dg + 1) (tnA a k (t i - 48)) (dn + 1) := by
  obtain ⟨z, hz, hz2⟩ := prs_w (Nat.le_of_lt hi)
  rw [hz, prs, if_pos hi, ← hz2]
  simp only [if_pos h1, if_pos h2]
theorem prs_d3 {t : Nat → Nat} {L i k dg : Nat} {a : AK} {dn : Nat} (hi : i < L) (h1 : 48 ≤ t i ∧ t i ≤ 57) (h2 : okA a k (t i - 48) = false) : prs t L (L + 1 - i) i (some k) dg a dn = (i, 3, a, dn) := by
  obtain ⟨z, hz, hz2⟩ := prs_w (Nat.le_of_lt hi)
  rw [hz, prs, if_pos hi]
  simp only [if_pos h1, h2]
  rfl
theorem prs_s {t : Nat → Nat} {L i k dg : Nat} {a : AK} {dn : Nat} (hi : i < L) (h1 : t i = 59) (h2 : dg ≠ 0) : prs t L (L + 1 - i) i (some k) dg a dn = prs t L (L + 1 - (i + 1)) (i + 1) none 0 a dn := by
  obtain ⟨z, hz, hz2⟩ := prs_w (Nat.le_of_lt hi)
  have g1 : ¬ (48 ≤ t i ∧ t i ≤ 57) := by omega
  have g2 : t i = 59 ∧ dg ≠ 0 := ⟨h1, h2⟩
  rw [hz, prs, if_pos hi, ← hz2]
  simp only [if_neg g1, if_pos g2]
theorem prs_e {t : Nat → Nat} {L i k dg : Nat} {a : AK} {dn : Nat} (hi : i ≤ L) (h1 : ¬ (i < L ∧ 48 ≤ t i ∧ t i ≤ 57)) (h2 : ¬ (i < L ∧ t i = 59 ∧ dg ≠ 0)) : prs t L (L + 1 - i) i (some k) dg a dn = (i, 1, a, dn) := by
  obtain ⟨z, hz, hz2⟩ := prs_w hi
  rw [hz, prs]
  by_cases h : i < L
  · have g1 : ¬ (48 ≤ t i ∧ t i ≤ 57) := fun q => h1 ⟨h, q⟩
    have g2 : ¬ (t i = 59 ∧ dg ≠ 0) := fun q => h2 ⟨h, q⟩
    rw [if_pos h]
    simp only [if_neg g1, if_neg g2]
  · rw [if_neg h]
theorem sg_lt {f : Nat → Int32} {t : Nat → Nat} {L i : Nat} (ht : ∀ j, j < L → f j = nI (t j)) (h : i < L) : sgn f i L = nI (t i) := by rw [sgn, if_pos h, ht i h]
theorem sg_dig {f : Nat → Int32} {t : Nat → Nat} {L i : Nat} (ht : ∀ j, j < L → f j = nI (t j)) (ht2 : ∀ j, t j < 128) : decide (nI 48 ≤ sgn f i L ∧ sgn f i L ≤ nI 57) = decide (i < L ∧ 48 ≤ t i ∧ t i ≤ 57) := by
  by_cases h : i < L
  · have := ht2 i
    rw [sg_lt ht h, in_dec (by omega) (by omega) (by omega)]
    simp [h]
  · rw [sgn, if_neg h]
    simp [h]
    decide
theorem sg_semi {f : Nat → Int32} {t : Nat → Nat} {L i : Nat} (ht : ∀ j, j < L → f j = nI (t j)) (ht2 : ∀ j, t j < 128) : sgn f i L = nI 59 ↔ i < L ∧ t i = 59 := by
  by_cases h : i < L
  · have := ht2 i
    rw [sg_lt ht h, nI_eq (by omega) (by omega)]
    simp [h]
  · rw [sgn, if_neg h]
    simp [h]
    decide
theorem let_k : ∀ c, c < 128 → decide (nI 0 ≤ nI c - nI 65 ∧ nI c - nI 65 ≤ nI 4) = decide (65 ≤ c ∧ c ≤ 69) := by decide +kernel
theorem let_n {c : Nat} (h : 65 ≤ c) : nI c - nI 65 = nI (c - 65) := pk_sub h
theorem isS_dec {k ns : Nat} (hn : ns ≤ 5) (hk : k < 5) : isS (nI k) ns = decide (k < ns) := by
  by_cases h : k < ns
  · rw [isS_t ns (by omega) k h, decide_eq_true h]
  · rw [decide_eq_false h, Bool.eq_false_iff]
    intro hh
    obtain ⟨j, hj, e⟩ := isS_of hn hh
    rw [nI_eq (by omega) (by omega)] at e
    omega
theorem tr1_nn {a : AK} {k w : Nat} (h : 0 ≤ tr1 (aKd a k) (aSr a k) (aCk a k) (aO a k) (aSd a k) w) : okA a k w = true := by
  cases g : okA a k w with
  | true => rfl
  | false =>
    rw [tr1, if_neg (by rw [show okT (aKd a k) (aSr a k) (aCk a k) (aO a k) (aSd a k) w = okA a k w from rfl, g]; decide)] at h
    exact absurd h (by decide)
theorem tr1_ng {a : AK} {k w : Nat} (hA : AOK a) (hk : k < aN a) (h : ¬ 0 ≤ tr1 (aKd a k) (aSr a k) (aCk a k) (aO a k) (aSd a k) w) : okA a k w = false := by
  cases g : okA a k w with
  | false => rfl
  | true =>
    rw [tr1_ok g] at h
    exact absurd (nI_pos' (gpA_lt (tnA_ok hA hk g) hk)) h
theorem ts1_no {f : Nat → Int32} {a : AK} {k w h1 : Nat} (h : okA a k w = false) : ts1 f k (aKd a k) (aSr a k) (aCk a k) (aO a k) (aSd a k) w h1 = f := by
  rw [ts1, if_neg (by rw [show okT (aKd a k) (aSr a k) (aCk a k) (aO a k) (aSd a k) w = okA a k w from rfl, h]; decide)]
def rdA (rs i : Nat) : Int32 := if rs = 0 then (-1000004) else nI i
def ftA (q : Nat × Nat × AK × Nat) (w : Nat) : Int32 := if q.2.1 = 0 then (-1000004) else if w = 0 then nI q.1 else nI q.2.1
theorem prs_cnt {t : Nat → Nat} {L : Nat} : ∀ (w i : Nat) (op : Option Nat) (dg : Nat) (a : AK) (dn : Nat), i ≤ L → dn ≤ i → (prs t L w i op dg a dn).2.2.2 ≤ L
  | 0, i, op, dg, a, dn, h1, h2 => by simp only [prs]; omega
  | w + 1, i, none, dg, a, dn, h1, h2 => by
    rw [prs]
    by_cases h : i < L
    · rw [if_pos h]
      split
      · split
        · exact prs_cnt w (i + 1) _ _ _ _ (by omega) (by omega)
        · simp only; omega
      · simp only; omega
    · rw [if_neg h]
      show dn ≤ L
      omega
  | w + 1, i, some k, dg, a, dn, h1, h2 => by
    rw [prs]
    by_cases h : i < L
    · rw [if_pos h]
      split
      · split
        · exact prs_cnt w (i + 1) _ _ _ _ (by omega) (by omega)
        · simp only; omega
      · split
        · exact prs_cnt w (i + 1) _ _ _ _ (by omega) (by omega)
        · simp only; omega
    · rw [if_neg h]
      show dn ≤ L
      omega
theorem prs_dn {t : Nat → Nat} {L i rs dn : Nat} {a b : AK} (hL : L ≤ 50) (h : prs t L (L + 1) 0 none 0 a 0 = (i, rs, b, dn)) : dn ≤ 50 := by
  have := prs_cnt (t := t) (L := L) (L + 1) 0 none 0 a 0 (by omega) (by omega)
  rw [h] at this
  simp only at this
  omega
theorem rd_ne {rs i : Nat} (hi : i < 2 ^ 31) (h : rs ≠ 0) : ¬ rdA rs i = -1000004 := by
  rw [rdA, if_neg h]
  intro z
  have := nI_pos hi
  rw [z] at this
  exact this (by decide)
theorem rd_eq {rs i : Nat} (h : rs = 0) : rdA rs i = -1000004 := by rw [rdA, if_pos h]
theorem fta_1 {rs i d w : Nat} {a : AK} (hi : i < 2 ^ 31) (h : rdA rs i = -1000004) : some (Value.int (ftA (i, rs, a, d) w)) = some (.int (rdA rs i)) := by
  cases rs with
  | zero => rfl
  | succ z => exact absurd h (rd_ne hi (by omega))
theorem fta_2 {rs i d w : Nat} {a : AK} (h : w = 0) : some (Value.int (ftA (i, rs, a, d) w)) = some (.int (rdA rs i)) := by
  subst h
  simp [ftA, rdA]
theorem fta_3 {rs i d w : Nat} {a : AK} {r : Int32} (hi : i < 2 ^ 31) (h : ¬ rdA rs i = -1000004) (hw : w ≠ 0) (hr : rs ≠ 0 → r = nI rs) : some (Value.int (ftA (i, rs, a, d) w)) = some (.int r) := by
  have h0 : rs ≠ 0 := fun z => h (rd_eq z)
  rw [hr h0, ftA, if_neg h0, if_neg hw]
