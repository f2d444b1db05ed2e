/-! both sides: the kitchen, the history, how many states, the text, its length -/
abbrev ZT : Type := AK × (Nat → AK) × Nat × (Nat → Nat) × Nat
def zA (Z : ZT) : AK := Z.1
def zH (Z : ZT) : Nat → AK := Z.2.1
def zS (Z : ZT) : Nat := Z.2.2.1
def zX (Z : ZT) : Nat → Nat := Z.2.2.2.1
def zL (Z : ZT) : Nat := Z.2.2.2.2
def ZOK (Z : ZT) : Prop := AOK (zA Z) ∧ (∀ i, i < zS Z → AOK (zH Z i)) ∧ zS Z ≤ 4 ∧ zL Z ≤ 50 ∧ ∀ j, zX Z j < 128
def KTy (tau : Nat → Option Rl) (K : KT) (a : AK) : Prop := ∀ k, k < aN a → ∃ sa la, kS K k = some sa ∧ tau sa = some (rShp (aKd a k) (aCk a k) (aSr a k) la)
theorem KTy.mono {tau tau2 : Nat → Option Rl} {K : KT} {a : AK} (h : KTy tau K a) (hm : ∀ q r1, tau q = some r1 → tau2 q = some r1) : KTy tau2 K a := fun k hk => by
  obtain ⟨sa, la, h1, h2⟩ := h k hk
  exact ⟨sa, la, h1, hm _ _ h2⟩
theorem KTy.cg {tau : Nat → Option Rl} {K K2 : KT} {a a2 : AK} (h : KTy tau K a) (hS : kS K2 = kS K) (hn : aN a2 = aN a) (hs : a2.2.2.1 = a.2.2.1) : KTy tau K2 a2 := fun k hk => by
  obtain ⟨sa, la, h1, h2⟩ := h k (by omega)
  exact ⟨sa, la, by rw [hS]; exact h1, by rw [aKd, aCk, aSr, hs]; exact h2⟩
theorem KTy.sh {G : gG} {B n : Nat} {σ : gS} {tau : Nat → Option Rl} {K : KT} {a : AK} (h : KTy tau K a) (hD : DynI G B n σ tau) : ∀ k, k < aN a → ∃ sa, kS K k = some sa ∧ ShpAt G B σ sa (aKd a k) (aCk a k) (aSr a k) := fun k hk => by
  obtain ⟨sa, la, h1, h2⟩ := h k hk
  exact ⟨sa, h1, hD.shp h2⟩
def WCL (G : gG) (b0 ph st L : Nat) (fp fq fx : Nat → Option Nat) (rs fpl tn op dg : Int32) (ftx : Nat → Int32) (Kn Kt Ka Kb Kc Kd : KT) : List va_E := [(.inr (6, [.ref (b0 + 1), .ref (b0 + 5), .ref (b0 + 7), .ref (b0 + 13), .ref (b0 + 19), .int (nI st)])), (.inr (3, [.ref (b0 + 2), .ref (b0 + 3), .ref (b0 + 4)])), (aR 3 G 7 fp), (aR 3 G 6 fq), (aR 4 G 616 fx), (.inr (5, [.int (nI L), .int rs, .int fpl, .int tn, .ref (b0 + 6), .int op, .int dg])), (aI G 50 ftx), (.inr (0, [.int (nI (kN Kn)), .int (nI (kH Kn)), .ref (b0 + 8), .ref (b0 + 9), .ref (b0 + 10), .ref (b0 + 11), .ref (b0 + 12)])), (aI G 3 (kT Kn)), (aI G 3 (kW Kn)), (aR 4 G 5 (kS Kn)), (aI G 5 (kR Kn)), (aI G 5 (kM Kn)), (.inr (0, [.int (nI (kN Kt)), .int (nI (kH Kt)), .ref (b0 + 14), .ref (b0 + 15), .ref (b0 + 16), .ref (b0 + 17), .ref (b0 + 18)])), (aI G 3 (kT Kt)), (aI G 3 (kW Kt)), (aR 4 G 5 (kS Kt)), (aI G 5 (kR Kt)), (aI G 5 (kM Kt)), (aR 2 G 4 (hst4 ph b0)), (.inr (0, [.int (nI (kN Ka)), .int (nI (kH Ka)), .ref (b0 + 21), .ref (b0 + 22), .ref (b0 + 23), .ref (b0 + 24), .ref (b0 + 25)])), (aI G 3 (kT Ka)), (aI G 3 (kW Ka)), (aR 4 G 5 (kS Ka)), (aI G 5 (kR Ka)), (aI G 5 (kM Ka)), (.inr (0, [.int (nI (kN Kb)), .int (nI (kH Kb)), .ref (b0 + 27), .ref (b0 + 28), .ref (b0 + 29), .ref (b0 + 30), .ref (b0 + 31)])), (aI G 3 (kT Kb)), (aI G 3 (kW Kb)), (aR 4 G 5 (kS Kb)), (aI G 5 (kR Kb)), (aI G 5 (kM Kb)), (.inr (0, [.int (nI (kN Kc)), .int (nI (kH Kc)), .ref (b0 + 33), .ref (b0 + 34), .ref (b0 + 35), .ref (b0 + 36), .ref (b0 + 37)])), (aI G 3 (kT Kc)), (aI G 3 (kW Kc)), (aR 4 G 5 (kS Kc)), (aI G 5 (kR Kc)), (aI G 5 (kM Kc)), (.inr (0, [.int (nI (kN Kd)), .int (nI (kH Kd)), .ref (b0 + 39), .ref (b0 + 40), .ref (b0 + 41), .ref (b0 + 42), .ref (b0 + 43)])), (aI G 3 (kT Kd)), (aI G 3 (kW Kd)), (aR 4 G 5 (kS Kd)), (aI G 5 (kR Kd)), (aI G 5 (kM Kd))]
def WX (G : gG) (b0 n : Nat) (σ : gS) (Z : ZT) (mi : Nat) : Prop := ∃ (ph : Nat) (tau : Nat → Option Rl) (fp fq fx : Nat → Option Nat) (rs fpl tn op dg : Int32) (ftx : Nat → Int32) (Kn Kt Ka Kb Kc Kd : KT),
  ph < 4 ∧ RW σ b0 (WCL G b0 ph (zS Z) (zL Z) fp fq fx rs fpl tn op dg ftx Kn Kt Ka Kb Kc Kd) = σ ∧ DynI G (b0 + 44) n σ tau ∧ b0 + 44 ≤ n ∧ ShelfR tau fp fq fx ∧ mis fp fq ≤ mi ∧ (KSh tau Kn ∧ KSh tau Kt ∧ KSh tau Ka ∧ KSh tau Kb ∧ KSh tau Kc ∧ KSh tau Kd) ∧
  KA Kn (zA Z) ∧ KTy tau Kn (zA Z) ∧ (∀ i, i < zS Z → KA (hP ph Ka Kb Kc Kd i) (zH Z i) ∧ KTy tau (hP ph Ka Kb Kc Kd i) (zH Z i)) ∧ (∀ j, j < zL Z → ftx j = nI (zX Z j))
def PX (G : gG) (b0 n : Nat) (σ : gS) (mi : Nat) (Z2 : ZT) (ans : Int32) : Option Value → Nat → gS → Prop := fun rv n2 σ2 => rv = some (.int ans) ∧ n ≤ n2 ∧ WX G b0 n2 σ2 Z2 mi ∧ ∀ q, b0 + 44 ≤ q → q < b0 + 44 → σ2 q = σ q
abbrev rmC : Room := { frames := 40, cells := 7, slots := 7686, locals := 4000 }
abbrev rmS : Room := { frames := 40, cells := 7, slots := 31935, locals := 4000 }
theorem wx_at {σ : gS} {b : Nat} {L : List va_E} {e : va_E} (h : RW σ b L = σ) (j : Nat) (hj : L[j]? = some e) : σ (b + j) = some e := by
  rw [← h]
  exact RW_at j hj
theorem wx_at0 {σ : gS} {b : Nat} {L : List va_E} {e : va_E} (h : RW σ b L = σ) (hj : L[0]? = some e) : σ b = some e := wx_at h 0 hj
theorem RW_fix {σ τ : gS} {b : Nat} {L : List va_E} (h : RW σ b L = σ) (hf : ∀ q, b ≤ q → q < b + L.length → τ q = σ q) : RW τ b L = τ := by
  funext q
  by_cases z : b ≤ q ∧ q < b + L.length
  · have h2 := congrFun h q
    rw [RW, if_pos z] at h2 ⊢
    rw [h2, hf q z.1 z.2]
  · rw [RW, if_neg z]
theorem WX.fr {G : gG} {b0 n n2 mi : Nat} {σ τ : gS} {Z : ZT} (h : WX G b0 n σ Z mi) (hn : n ≤ n2) (hf : ∀ q, q < b0 + 44 ∨ b0 + 44 ≤ q → τ q = σ q) : WX G b0 n2 τ Z mi := by
  obtain ⟨ph, tau, fp, fq, fx, rs, fpl, tn, op, dg, ftx, Kn, Kt, Ka, Kb, Kc, Kd, hp4, hE, hD, hB, g⟩ := h
  exact ⟨ph, tau, fp, fq, fx, rs, fpl, tn, op, dg, ftx, Kn, Kt, Ka, Kb, Kc, Kd, hp4, RW_fix hE (fun q h1 h2 => hf q (Or.inl h2)), hD.fr hn (fun q h1 _ => hf q (Or.inr h1)), by omega, g⟩
theorem WX.mi {G : gG} {b0 n m1 m2 : Nat} {σ : gS} {Z : ZT} (h : WX G b0 n σ Z m1) (hm : m1 ≤ m2) : WX G b0 n σ Z m2 := by
  obtain ⟨ph, tau, fp, fq, fx, rs, fpl, tn, op, dg, ftx, Kn, Kt, Ka, Kb, Kc, Kd, hp4, hE, hD, hB, hS, hmi, g⟩ := h
  exact ⟨ph, tau, fp, fq, fx, rs, fpl, tn, op, dg, ftx, Kn, Kt, Ka, Kb, Kc, Kd, hp4, hE, hD, hB, hS, by omega, g⟩
theorem px_read {G : gG} {b0 n mi : Nat} {σ : gS} {Z : ZT} {ans : Int32} (hW : WX G b0 n σ Z mi) {v : Option Value} {n' : Nat} {σ' : gS} (e1 : some (.int ans) = v) (e2 : n = n') (e3 : σ = σ') : PX G b0 n σ mi Z ans v n' σ' := by
  subst e2; subst e3
  exact ⟨e1.symm, Nat.le_refl _, hW, fun _ _ _ => rfl⟩
/-- a world of the class, by its parts -/
theorem px_mk {G : gG} {b0 n n' mi : Nat} {σ σ0 σ' : gS} {Z2 : ZT} {ans : Int32} {v : Option Value} {ph : Nat} {tau : Nat → Option Rl} {st L : Nat} {fp fq fx : Nat → Option Nat} {rs fpl tn op dg : Int32} {ftx : Nat → Int32} {Kn Kt Ka Kb Kc Kd : KT}
    (e1 : some (.int ans) = v) (hn : n ≤ n') (e3 : RW σ0 b0 (WCL G b0 ph st L fp fq fx rs fpl tn op dg ftx Kn Kt Ka Kb Kc Kd) = σ') (hst : zS Z2 = st) (hL : zL Z2 = L) (hfr : ∀ q, b0 + 44 ≤ q → q < b0 + 44 → σ0 q = σ q) (hD : DynI G (b0 + 44) n' σ0 tau) (hB : b0 + 44 ≤ n') (hS : ShelfR tau fp fq fx) (hm : mis fp fq ≤ mi)
    (hK : KSh tau Kn ∧ KSh tau Kt ∧ KSh tau Ka ∧ KSh tau Kb ∧ KSh tau Kc ∧ KSh tau Kd) (hA : KA Kn (zA Z2)) (hT : KTy tau Kn (zA Z2)) (hH : ∀ i, i < st → KA (hP ph Ka Kb Kc Kd i) (zH Z2 i) ∧ KTy tau (hP ph Ka Kb Kc Kd i) (zH Z2 i)) (hX : ∀ j, j < L → ftx j = nI (zX Z2 j)) (hp4 : ph < 4 := by assumption) : PX G b0 n σ mi Z2 ans v n' σ' := by
  subst hst; subst hL
  have hlen : (WCL G b0 ph (zS Z2) (zL Z2) fp fq fx rs fpl tn op dg ftx Kn Kt Ka Kb Kc Kd).length = 44 := rfl
  have hhi : ∀ q, b0 + 44 ≤ q → σ' q = σ0 q := fun q hq => by rw [← e3, RW_ne hlen (by omega)]
  refine ⟨e1.symm, hn, ⟨ph, tau, fp, fq, fx, rs, fpl, tn, op, dg, ftx, Kn, Kt, Ka, Kb, Kc, Kd, hp4, ?_, hD.fr (Nat.le_refl _) (fun q h1 _ => hhi q (by omega)), hB, hS, hm, hK, hA, hT, hH, hX⟩, fun q h1 h2 => (hhi q h1).trans (hfr q h1 h2)⟩
  rw [← e3]
  exact RW_over (Nat.le_refl _)
/-- the history with one more state -/
def zP (Z : ZT) (a2 : AK) : ZT := (a2, (fun i => if zS Z < 4 then (if i = zS Z then zA Z else zH Z i) else (if i = 3 then zA Z else zH Z (i + 1))), (if zS Z < 4 then zS Z + 1 else 4), zX Z, zL Z)
theorem zP_ok {Z : ZT} {a2 : AK} (h : ZOK Z) (h2 : AOK a2) : ZOK (zP Z a2) := by
  obtain ⟨g1, g2, g3, g4, g5⟩ := h
  refine ⟨h2, fun i hi => ?_, ?_, g4, g5⟩
  · show AOK (if zS Z < 4 then (if i = zS Z then zA Z else zH Z i) else (if i = 3 then zA Z else zH Z (i + 1)))
    have hi : i < (if zS Z < 4 then zS Z + 1 else 4) := hi
    by_cases c : zS Z < 4
    · rw [if_pos c] at hi ⊢
      by_cases d : i = zS Z
      · rw [if_pos d]; exact g1
      · rw [if_neg d]; exact g2 i (by omega)
    · rw [if_neg c] at hi ⊢
      by_cases d : i = 3
      · rw [if_pos d]; exact g1
      · rw [if_neg d]; exact g2 (i + 1) (by omega)
  · show (if zS Z < 4 then zS Z + 1 else 4) ≤ 4
    split <;> omega
theorem zP_s {Z : ZT} {a2 : AK} {s2 : Nat} (h : (zS Z < 4 ∧ s2 = zS Z) ∨ (zS Z = 4 ∧ s2 = 3)) : zS (zP Z a2) = s2 + 1 := by
  show (if zS Z < 4 then zS Z + 1 else 4) = s2 + 1
  rcases h with ⟨c, d⟩ | ⟨c, d⟩
  · rw [if_pos c, d]
  · rw [if_neg (by omega), d]
/-- what holds of the new history, by what holds of the old one and the kitchen -/
theorem zP_h {Z : ZT} {a2 : AK} {s2 : Nat} {P : Nat → AK → Prop} {P0 : AK → Prop} {P1 : Nat → AK → Prop} (h0 : P0 (zA Z)) (h1 : ∀ i, i < zS Z → P1 i (zH Z i)) (hk : ∀ a, P0 a → P s2 a) (h : (zS Z < 4 ∧ s2 = zS Z ∧ ∀ i a, i < s2 → P1 i a → P i a) ∨ (zS Z = 4 ∧ s2 = 3 ∧ ∀ i a, i < 3 → P1 (i + 1) a → P i a)) : ∀ i, i < s2 + 1 → P i (zH (zP Z a2) i) := fun i hi => by
  show P i (if zS Z < 4 then (if i = zS Z then zA Z else zH Z i) else (if i = 3 then zA Z else zH Z (i + 1)))
  rcases h with ⟨c, d, f⟩ | ⟨c, d, f⟩
  · rw [if_pos c]
    by_cases g : i = zS Z
    · rw [if_pos g, g, ← d]; exact hk _ h0
    · rw [if_neg g]; exact f i _ (by omega) (h1 i (by omega))
  · rw [if_neg (by omega)]
    by_cases g : i = 3
    · rw [if_pos g, g, ← d]; exact hk _ h0
    · rw [if_neg g]; exact f i _ (by omega) (h1 (i + 1) (by omega))
