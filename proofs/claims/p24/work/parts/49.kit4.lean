def opI (o : Option Nat) : Int32 := match o with
  | none => -1
  | some k => nI k
/-- what one sign does: why not (0: it is possible), the open stack, the turns of its order, the kitchen, the turns -/
def stp (w : Nat) (o : Option Nat) (d : Nat) (a : AK) (n : Nat) : Nat × Option Nat × Nat × AK × Nat :=
  match o with
  | none => if 65 ≤ w ∧ w ≤ 69 then (if w - 65 < aN a then (0, some (w - 65), 0, a, n) else (2, none, d, a, n)) else (1, none, d, a, n)
  | some k => if 48 ≤ w ∧ w ≤ 57 then (if okA a k (w - 48) = true then (0, some k, d + 1, tnA a k (w - 48), n + 1) else (3, some k, d, a, n))
    else if w = 59 ∧ d ≠ 0 then (0, none, d, a, n) else (1, some k, d, a, n)
theorem stp_o {w d n : Nat} {a : AK} (h1 : 65 ≤ w ∧ w ≤ 69) (h2 : w - 65 < aN a) : stp w none d a n = (0, some (w - 65), 0, a, n) := by simp only [stp, if_pos h1, if_pos h2]
theorem stp_o2 {w d n : Nat} {a : AK} (h1 : 65 ≤ w ∧ w ≤ 69) (h2 : ¬ w - 65 < aN a) : stp w none d a n = (2, none, d, a, n) := by simp only [stp, if_pos h1, if_neg h2]
theorem stp_o1 {w d n : Nat} {a : AK} (h1 : ¬ (65 ≤ w ∧ w ≤ 69)) : stp w none d a n = (1, none, d, a, n) := by simp only [stp, if_neg h1]
theorem stp_d {w d n k : Nat} {a : AK} (h1 : 48 ≤ w ∧ w ≤ 57) (h2 : okA a k (w - 48) = true) : stp w (some k) d a n = (0, some k, d + 1, tnA a k (w - 48), n + 1) := by simp only [stp, if_pos h1, if_pos h2]
theorem stp_d3 {w d n k : Nat} {a : AK} (h1 : 48 ≤ w ∧ w ≤ 57) (h2 : okA a k (w - 48) = false) : stp w (some k) d a n = (3, some k, d, a, n) := by
  simp only [stp, if_pos h1, h2]
  rfl
theorem stp_s {d n k : Nat} {a : AK} (h2 : d ≠ 0) : stp 59 (some k) d a n = (0, none, d, a, n) := by
  have h1 : ¬ (48 ≤ 59 ∧ 59 ≤ 57) := by decide
  simp [stp, h2]
theorem stp_e {w d n k : Nat} {a : AK} (h1 : ¬ (48 ≤ w ∧ w ≤ 57)) (h2 : ¬ (w = 59 ∧ d ≠ 0)) : stp w (some k) d a n = (1, some k, d, a, n) := by simp only [stp, if_neg h1, if_neg h2]
theorem hU_id {σ : gS} {x : Nat} {e : va_E} (h : σ x = some e) : hU σ x e = σ := by
  funext q
  by_cases g : q = x
  · rw [g, hU_at, h]
  · rw [hU_ne g]
theorem hR_two {σ : gS} {x k : Nat} {T1 T2 : va_E} {L1 L2 : List va_E} (hx : x < k ∨ k + L2.length ≤ x) (hl : L1.length ≤ L2.length) : hU (RW (hU (RW σ k L1) x T1) k L2) x T2 = hU (RW σ k L2) x T2 := by
  funext q
  by_cases g : q = x
  · rw [g, hU_at, hU_at]
  · rw [hU_ne g, hU_ne g]
    by_cases z : k ≤ q ∧ q < k + L2.length
    · rw [RW, if_pos z, RW, if_pos z]
    · rw [RW, if_neg z, RW, if_neg z, hU_ne g, RW, if_neg (by omega)]
theorem ShpAt.fr {G : gG} {B : Nat} {σ τ : gS} {sa kd N sr : Nat} (h : ShpAt G B σ sa kd N sr) (hf : ∀ q, B ≤ q → τ q = σ q) : ShpAt G B τ sa kd N sr := by
  obtain ⟨hso, hBs, la, cfl, sv, f1, f2, f3, f4, f5, hBl, z0, z1, z2, z3, z4, z5, z6, g⟩ := h
  exact ⟨hso, hBs, la, cfl, sv, f1, f2, f3, f4, f5, hBl, (hf _ hBs).trans z0, (hf _ (by omega)).trans z1, (hf _ hBl).trans z2, (hf _ (by omega)).trans z3, (hf _ (by omega)).trans z4, (hf _ (by omega)).trans z5, (hf _ (by omega)).trans z6, g⟩
theorem prs_dg {t : Nat → Nat} {L i d d2 : Nat} {a : AK} {n : Nat} : ∀ w, prs t L w i none d a n = prs t L w i none d2 a n
  | 0 => rfl
  | w + 1 => by rw [prs, prs]
/-- the text read by its signs -/
theorem stp_prs {t : Nat → Nat} {L i d n r2 d2 n2 : Nat} {o o2 : Option Nat} {a a2 : AK} (hi : i < L) (h : stp (t i) o d a n = (r2, o2, d2, a2, n2)) : prs t L (L + 1 - i) i o d a n = (if r2 = 0 then prs t L (L + 1 - (i + 1)) (i + 1) o2 d2 a2 n2 else (i, r2, a2, n2)) := by
  cases o with
  | none =>
    by_cases h1 : 65 ≤ t i ∧ t i ≤ 69
    · by_cases h2 : t i - 65 < aN a
      · rw [stp_o h1 h2] at h
        cases h
        rw [prs_o hi h1 h2, if_pos rfl]
      · rw [stp_o2 h1 h2] at h
        cases h
        rw [prs_o2 hi h1 h2, if_neg (by decide)]
    · rw [stp_o1 h1] at h
      cases h
      rw [prs_o1 hi h1, if_neg (by decide)]
  | some k =>
    by_cases h1 : 48 ≤ t i ∧ t i ≤ 57
    · cases h2 : okA a k (t i - 48) with
      | true =>
        rw [stp_d h1 h2] at h
        cases h
        rw [prs_d hi h1 h2, if_pos rfl]
      | false =>
        rw [stp_d3 h1 h2] at h
        cases h
        rw [prs_d3 hi h1 h2, if_neg (by decide)]
    · by_cases h2 : t i = 59 ∧ d ≠ 0
      · have h3 := stp_s (k := k) (a := a) (n := n) h2.2
        rw [← h2.1, h] at h3
        cases h3
        rw [prs_s hi h2.1 h2.2, if_pos rfl]
        exact prs_dg _
      · rw [stp_e h1 h2] at h
        cases h
        rw [prs_e (Nat.le_of_lt hi) (fun z => h1 z.2) (fun z => h2 z.2), if_neg (by decide)]
theorem stp_b {w d n r2 d2 n2 : Nat} {o o2 : Option Nat} {a a2 : AK} (h : stp w o d a n = (r2, o2, d2, a2, n2)) (ho : ∀ k, o = some k → k < aN a) : r2 < 4 ∧ d2 ≤ d + 1 ∧ n2 ≤ n + 1 ∧ a2.2.2.1 = a.2.2.1 ∧ aN a2 = aN a ∧ (∀ k, o2 = some k → k < aN a) := by
  cases o with
  | none =>
    simp only [stp] at h
    split at h
    · split at h
      · next g => cases h; exact ⟨by decide, by omega, by omega, rfl, rfl, fun k hk => by cases hk; exact g⟩
      · cases h; exact ⟨by decide, by omega, by omega, rfl, rfl, fun k hk => by cases hk⟩
    · cases h; exact ⟨by decide, by omega, by omega, rfl, rfl, fun k hk => by cases hk⟩
  | some k =>
    have hk := ho k rfl
    simp only [stp] at h
    split at h
    · split at h
      · cases h; exact ⟨by decide, by omega, by omega, rfl, rfl, fun k hk => by cases hk; assumption⟩
      · cases h; exact ⟨by decide, by omega, by omega, rfl, rfl, fun k hk => by cases hk; assumption⟩
    · split at h
      · cases h; exact ⟨by decide, by omega, by omega, rfl, rfl, fun k hk => by cases hk⟩
      · cases h; exact ⟨by decide, by omega, by omega, rfl, rfl, fun k hk => by cases hk; assumption⟩
theorem prs_endS {t : Nat → Nat} {L d n k : Nat} {a : AK} : prs t L (L + 1 - L) L (some k) d a n = (L, 1, a, n) := by
  rw [show L + 1 - L = 0 + 1 by omega, prs, if_neg (Nat.lt_irrefl L)]
theorem opI_n {o : Option Nat} (h : ∀ k, o = some k → k < 5) : opI o = -1 ↔ o = none := by
  cases o with
  | none => simp [opI]
  | some k =>
    have := h k rfl
    constructor
    · intro z; exact absurd z (nI_m1n (by omega))
    · intro z; cases z
theorem prs_endN {t : Nat → Nat} {L d n : Nat} {a : AK} : prs t L (L + 1 - L) L none d a n = (L, 0, a, n) := by
  rw [show L + 1 - L = 0 + 1 by omega, prs, if_neg (Nat.lt_irrefl L)]
