/-! a kitchen as numbers: how many stacks, the hand that is on, for each stack its shape (kind, cakes, strength), its place (order, sides), its turns; for each hand its turns and its work -/
abbrev AK : Type := Nat × Nat × (Nat → Nat × Nat × Nat) × (Nat → Nat × Nat) × (Nat → Int32) × (Nat → Int32) × (Nat → Int32)
def aN (a : AK) : Nat := a.1
def aH (a : AK) : Nat := a.2.1
def aKd (a : AK) (k : Nat) : Nat := (a.2.2.1 k).1
def aCk (a : AK) (k : Nat) : Nat := (a.2.2.1 k).2.1
def aSr (a : AK) (k : Nat) : Nat := (a.2.2.1 k).2.2
def aO (a : AK) (k : Nat) : Nat := (a.2.2.2.1 k).1
def aSd (a : AK) (k : Nat) : Nat := (a.2.2.2.1 k).2
def aMd (a : AK) : Nat → Int32 := a.2.2.2.2.1
def aTu (a : AK) : Nat → Int32 := a.2.2.2.2.2.1
def aWo (a : AK) : Nat → Int32 := a.2.2.2.2.2.2
def shOK (kd N sr : Nat) : Prop := kd < 4 ∧ 1 ≤ N ∧ N ≤ (if sid kd then 5 else 6) ∧ (if kd = 3 then 1 ≤ sr ∧ sr ≤ 21 else sr = 0)
def Vld (kd N sr o sd : Nat) : Prop := shOK kd N sr ∧ o < fac N ∧ sd < sm (sid kd) N
def AOK (a : AK) : Prop := aN a ≤ 5 ∧ aH a < 3 ∧ ∀ k, k < aN a → Vld (aKd a k) (aCk a k) (aSr a k) (aO a k) (aSd a k)
theorem shOK.N {kd N sr : Nat} (h : shOK kd N sr) : N ≤ 6 := by
  have := h.2.2.1
  split at this <;> omega
theorem shOK.sr {kd N sr : Nat} (h : shOK kd N sr) : sr ≤ 21 := by
  have := h.2.2.2
  split at this <;> omega
def StkAt (f : Nat → Int32) (k kd N sr o sd : Nat) : Prop := f (8 + 6 * k + 0) = nI kd ∧ f (8 + 6 * k + 1) = nI N ∧ f (8 + 6 * k + 2) = nI sr ∧ f (8 + 6 * k + 3) = nI (cd N o) ∧ f (8 + 6 * k + 4) = nI sd
/-- the reference's row of numbers tells a kitchen -/
def MR (f : Nat → Int32) (a : AK) : Prop := f 0 = nI (aN a) ∧ f 1 = nI (aH a) ∧ (∀ j, j < 3 → f (2 + j) = aTu a j) ∧ (∀ j, j < 3 → f (5 + j) = aWo a j) ∧
  ∀ k, k < aN a → StkAt f k (aKd a k) (aCk a k) (aSr a k) (aO a k) (aSd a k) ∧ f (8 + 6 * k + 5) = aMd a k
theorem MR.congr {f g : Nat → Int32} {a : AK} (h : MR f a) (hn : aN a ≤ 5) (e : ∀ j, j < 38 → g j = f j) : MR g a := by
  obtain ⟨h1, h2, h3, h4, h5⟩ := h
  refine ⟨by rw [e _ (by omega)]; exact h1, by rw [e _ (by omega)]; exact h2, fun j hj => by rw [e _ (by omega)]; exact h3 j hj, fun j hj => by rw [e _ (by omega)]; exact h4 j hj, fun k hk => ?_⟩
  obtain ⟨⟨g0, g1, g2, g3, g4⟩, g5⟩ := h5 k hk
  exact ⟨⟨by rw [e _ (by omega)]; exact g0, by rw [e _ (by omega)]; exact g1, by rw [e _ (by omega)]; exact g2, by rw [e _ (by omega)]; exact g3, by rw [e _ (by omega)]; exact g4⟩, by rw [e _ (by omega)]; exact g5⟩
/-- a turn of m of the k-th stack -/
def tnA (a : AK) (k m : Nat) : AK :=
  (aN a, (aH a + 1) % 3, a.2.2.1, va_up a.2.2.2.1 k (tnO (aCk a k) (aO a k) m, tnS (sid (aKd a k)) (aSd a k) m), va_up (aMd a) k (aMd a k + nI 1), va_up (aTu a) (aH a) (aTu a (aH a) + nI 1), va_up (aWo a) (aH a) (aWo a (aH a) + nI m))
def okT (kd sr N o sd m : Nat) : Bool := decide (1 ≤ m ∧ m ≤ N) && al kd sr N o sd m
def okA (a : AK) (k m : Nat) : Bool := okT (aKd a k) (aSr a k) (aCk a k) (aO a k) (aSd a k) m
def gpA (a : AK) (k : Nat) : Nat := gp (sid (aKd a k)) (aCk a k) (aO a k) (aSd a k)
/-- the reference's row behind a turn -/
def tnM (f : Nat → Int32) (k cdn sdn m h : Nat) : Nat → Int32 := upd (upd (upd (upd (upd (upd f (8 + 6 * k + 3) (nI cdn)) (8 + 6 * k + 4) (nI sdn)) (8 + 6 * k + 5) (f (8 + 6 * k + 5) + nI 1)) (2 + h) (f (2 + h) + nI 1)) (5 + h) (f (5 + h) + nI m)) 1 (nI ((h + 1) % 3))
theorem tnA_ok {a : AK} {k m : Nat} (h : AOK a) (hk : k < aN a) (ho : okA a k m = true) : AOK (tnA a k m) := by
  obtain ⟨h1, h2, h3⟩ := h
  refine ⟨h1, Nat.mod_lt _ (by decide), fun j hj => ?_⟩
  have hj2 := h3 j hj
  by_cases e : j = k
  · subst e
    have hm : 1 ≤ m ∧ m ≤ aCk a j := by
      simp [okA, okT] at ho
      exact ho.1
    have hN := hj2.1.N
    have e1 : aO (tnA a j m) j = tnO (aCk a j) (aO a j) m := by simp [aO, tnA, va_up]
    have e2 : aSd (tnA a j m) j = tnS (sid (aKd a j)) (aSd a j) m := by simp [aSd, tnA, va_up]
    rw [e1, e2]
    exact ⟨hj2.1, tnO_lt hN hj2.2.1 hm.2, tnS_lt hN hj2.2.2 hm.2⟩
  · have e1 : aO (tnA a k m) j = aO a j := by simp [aO, tnA, va_up, e]
    have e2 : aSd (tnA a k m) j = aSd a j := by simp [aSd, tnA, va_up, e]
    rw [e1, e2]
    exact hj2
theorem tnM_MR {f : Nat → Int32} {a : AK} {k m : Nat} (h : MR f a) (hO : AOK a) (hk : k < aN a) : MR (tnM f k (cd (aCk a k) (tnO (aCk a k) (aO a k) m)) (tnS (sid (aKd a k)) (aSd a k) m) m (aH a)) (tnA a k m) := by
  obtain ⟨h1, h2, h3, h4, h5⟩ := h
  obtain ⟨hn, hh, -⟩ := hO
  refine ⟨?_, ?_, fun j hj => ?_, fun j hj => ?_, fun j hj => ?_⟩
  · unfold tnM
    rw [pk_un (by omega), pk_un (by omega), pk_un (by omega), pk_un (by omega), pk_un (by omega), pk_un (by omega)]
    exact h1
  · unfold tnM
    rw [pk_us]
    rfl
  · show _ = va_up (aTu a) (aH a) _ j
    unfold tnM
    rw [pk_un (by omega), pk_un (by omega)]
    by_cases e : j = aH a
    · subst e
      rw [pk_us]
      simp only [va_up, if_true]
      rw [h3 _ hh]
    · rw [pk_un (by omega), pk_un (by omega), pk_un (by omega), pk_un (by omega)]
      simp only [va_up, if_neg e]
      exact h3 j hj
  · show _ = va_up (aWo a) (aH a) _ j
    unfold tnM
    rw [pk_un (by omega)]
    by_cases e : j = aH a
    · subst e
      rw [pk_us]
      simp only [va_up, if_true]
      rw [h4 _ hh]
    · rw [pk_un (by omega), pk_un (by omega), pk_un (by omega), pk_un (by omega), pk_un (by omega)]
      simp only [va_up, if_neg e]
      exact h4 j hj
  · have hjn : j < aN a := hj
    obtain ⟨⟨g0, g1, g2, g3, g4⟩, g5⟩ := h5 j hjn
    have far : ∀ w, w < 6 → tnM f k (cd (aCk a k) (tnO (aCk a k) (aO a k) m)) (tnS (sid (aKd a k)) (aSd a k) m) m (aH a) (8 + 6 * j + w) = (upd (upd (upd f (8 + 6 * k + 3) (nI (cd (aCk a k) (tnO (aCk a k) (aO a k) m)))) (8 + 6 * k + 4) (nI (tnS (sid (aKd a k)) (aSd a k) m))) (8 + 6 * k + 5) (f (8 + 6 * k + 5) + nI 1)) (8 + 6 * j + w) := by
      intro w hw
      unfold tnM
      rw [pk_un (by omega), pk_un (by omega), pk_un (by omega)]
    by_cases e : j = k
    · subst e
      refine ⟨⟨?_, ?_, ?_, ?_, ?_⟩, ?_⟩
      · rw [far 0 (by omega), pk_un (by omega), pk_un (by omega), pk_un (by omega)]; exact g0
      · rw [far 1 (by omega), pk_un (by omega), pk_un (by omega), pk_un (by omega)]; exact g1
      · rw [far 2 (by omega), pk_un (by omega), pk_un (by omega), pk_un (by omega)]; exact g2
      · rw [far 3 (by omega), pk_un (by omega), pk_un (by omega), pk_us]; simp [aO, tnA, va_up, aCk]
      · rw [far 4 (by omega), pk_un (by omega), pk_us]; simp [aSd, tnA, va_up, aKd]
      · rw [far 5 (by omega), pk_us, g5]; simp [aMd, tnA, va_up]
    · refine ⟨⟨?_, ?_, ?_, ?_, ?_⟩, ?_⟩
      · rw [far 0 (by omega), pk_un (by omega), pk_un (by omega), pk_un (by omega)]; exact g0
      · rw [far 1 (by omega), pk_un (by omega), pk_un (by omega), pk_un (by omega)]; exact g1
      · rw [far 2 (by omega), pk_un (by omega), pk_un (by omega), pk_un (by omega)]; exact g2
      · rw [far 3 (by omega), pk_un (by omega), pk_un (by omega), pk_un (by omega)]; simpa [aO, tnA, va_up, e, aCk] using g3
      · rw [far 4 (by omega), pk_un (by omega), pk_un (by omega), pk_un (by omega)]; simpa [aSd, tnA, va_up, e] using g4
      · rw [far 5 (by omega), pk_un (by omega), pk_un (by omega), pk_un (by omega)]; simpa [aMd, tnA, va_up, e] using g5
/-- is it the number of one of ns stacks -/
def isS (x : Int32) (ns : Nat) : Bool := decide (0 ≤ x ∧ x ≤ nI ns - nI 1)
theorem isS_t : ∀ ns, ns < 6 → ∀ k, k < ns → isS (nI k) ns = true := by decide +kernel
theorem isS_m : ∀ ns, ns < 6 → (nI ns - nI 1).toInt = (ns : Int) - 1 := by decide +kernel
theorem isS_of {x : Int32} {ns : Nat} (hn : ns ≤ 5) (h : isS x ns = true) : ∃ k, k < ns ∧ x = nI k := by
  simp only [isS, decide_eq_true_eq] at h
  have h1 := Int32.le_iff_toInt_le.mp h.1
  have h2 := Int32.le_iff_toInt_le.mp h.2
  rw [isS_m ns (by omega)] at h2
  have h3 : (0 : Int32).toInt = 0 := rfl
  rw [h3] at h1
  refine ⟨x.toInt.toNat, by omega, ?_⟩
  apply Int32.toInt_inj.mp
  rw [nI_toInt (by omega)]
  omega
theorem in_N {v lo hi : Nat} (h1 : lo ≤ v) (h2 : v ≤ hi) (hh : hi < 2 ^ 31) : decide (nI lo ≤ nI v ∧ nI v ≤ nI hi) = true := by
  rw [decide_eq_true_iff]
  exact ⟨nI_le h1 (by omega), nI_le h2 hh⟩
theorem in_Nf {v lo hi : Nat} (h : v < lo ∨ hi < v) (hv : v < 2 ^ 31) (hl : lo < 2 ^ 31) : decide (nI lo ≤ nI v ∧ nI v ≤ nI hi) = false := by
  rw [decide_eq_false_iff_not]
  intro hh
  rcases h with h | h
  · exact nI_ge h hl hh.1
  · exact nI_ge h hv hh.2
theorem in_of {x : Int32} {lo hi : Nat} (hh : hi < 2 ^ 31) (hl : lo < 2 ^ 31) (h : decide (nI lo ≤ x ∧ x ≤ nI hi) = true) : ∃ v, lo ≤ v ∧ v ≤ hi ∧ x = nI v := by
  rw [decide_eq_true_iff] at h
  have h1 := Int32.le_iff_toInt_le.mp h.1
  have h2 := Int32.le_iff_toInt_le.mp h.2
  rw [nI_toInt hl] at h1
  rw [nI_toInt hh] at h2
  refine ⟨x.toInt.toNat, by omega, by omega, ?_⟩
  apply Int32.toInt_inj.mp
  rw [nI_toInt (by omega)]
  omega
