theorem sh_fr {G : gG} {B : Nat} {σ τ : gS} {K K1 : KT} {a a1 : AK} (hn : aN a1 = aN a) (hs : a1.2.2.1 = a.2.2.1) (hK : kS K1 = kS K) (hSh : ∀ k, k < aN a → ∃ sa, kS K k = some sa ∧ ShpAt G B σ sa (aKd a k) (aCk a k) (aSr a k)) (hf : ∀ q, B ≤ q → τ q = σ q) :
    ∀ k, k < aN a1 → ∃ sa, kS K1 k = some sa ∧ ShpAt G B τ sa (aKd a1 k) (aCk a1 k) (aSr a1 k) := fun k hk => by
  obtain ⟨sa, h1, h2⟩ := hSh k (by omega)
  refine ⟨sa, by rw [hK]; exact h1, ?_⟩
  rw [aKd, aCk, aSr, hs]
  exact h2.fr hf
theorem rd_step {t : Nat → Nat} {L i r1 r9 d1 d9 n1 n9 : Nat} {o1 o9 : Option Nat} {a1 a9 : AK} {T : Nat × Nat × AK × Nat} {f1 : Int32} (h : (r1 = 0 ∧ prs t L (L + 1 - i) i o1 d1 a1 n1 = T) ∨ (r1 ≠ 0 ∧ T = (i - 1, r1, a1, n1) ∧ f1 = nI (i - 1))) (h0 : r1 = 0)
    (hpr : prs t L (L + 1 - i) i o1 d1 a1 n1 = (if r9 = 0 then prs t L (L + 1 - (i + 1)) (i + 1) o9 d9 a9 n9 else (i, r9, a9, n9))) : (r9 = 0 ∧ prs t L (L + 1 - (i + 1)) (i + 1) o9 d9 a9 n9 = T) ∨ (r9 ≠ 0 ∧ T = (i + 1 - 1, r9, a9, n9) ∧ nI i = nI (i + 1 - 1)) := by
  have h1 := (h.resolve_right (fun z => z.1 h0)).2
  rw [hpr] at h1
  by_cases g : r9 = 0
  · rw [if_pos g] at h1
    exact Or.inl ⟨g, h1⟩
  · rw [if_neg g] at h1
    exact Or.inr ⟨g, h1.symm, rfl⟩
theorem rd_open {t : Nat → Nat} {L i r1 d1 n1 : Nat} {o1 : Option Nat} {a1 : AK} {T : Nat × Nat × AK × Nat} {f1 : Int32} (h : (r1 = 0 ∧ prs t L (L + 1 - i) i o1 d1 a1 n1 = T) ∨ (r1 ≠ 0 ∧ T = (i - 1, r1, a1, n1) ∧ f1 = nI (i - 1))) (h0 : r1 = 0) (hi : i = L) (ho : ¬ o1 = none) : T = (L, 1, a1, n1) := by
  have h1 := (h.resolve_right (fun z => z.1 h0)).2
  cases o1 with
  | none => exact absurd rfl ho
  | some k => rw [← h1, hi, prs_endS]
theorem rd_done {t : Nat → Nat} {L i r1 d1 n1 : Nat} {o1 : Option Nat} {a1 : AK} {T : Nat × Nat × AK × Nat} {f1 : Int32} (h : (r1 = 0 ∧ prs t L (L + 1 - i) i o1 d1 a1 n1 = T) ∨ (r1 ≠ 0 ∧ T = (i - 1, r1, a1, n1) ∧ f1 = nI (i - 1))) (h0 : r1 = 0) (hi : i = L) (ho : o1 = none) : T = ((if r1 = 0 then L else i - 1), r1, a1, n1) := by
  have h1 := (h.resolve_right (fun z => z.1 h0)).2
  rw [← h1, hi, ho, prs_endN, if_pos h0, h0]
theorem rd_bad {L i r1 n1 : Nat} {a1 : AK} {T : Nat × Nat × AK × Nat} (h0 : r1 ≠ 0) (h : T = (i - 1, r1, a1, n1)) : T = ((if r1 = 0 then L else i - 1), r1, a1, n1) := by rw [if_neg h0, h]
theorem rd_pos {L i r1 : Nat} {f1 : Int32} (h0 : r1 ≠ 0) (h : f1 = nI (i - 1)) : f1 = nI (if r1 = 0 then L else i - 1) := by rw [if_neg h0, h]
