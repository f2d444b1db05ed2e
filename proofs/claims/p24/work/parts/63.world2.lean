theorem GM.heap {l : Launch} {G : gG} {y : MethodName} {cc : ByteArray} {maxL : Nat} {ret : Option FieldType} {rm : Room} {n : Nat} {σ σ2 : gS} {av : List Value} {P : Option Value → Nat → gS → Prop} (h : σ = σ2) (hc : GM l G y cc maxL ret rm n σ av P) : GM l G y cc maxL ret rm n σ2 av P := h ▸ hc
theorem ShelfR.mono {tau tau2 : Nat → Option Rl} {fp fq fx : Nat → Option Nat} (h : ShelfR tau fp fq fx) (hm : ∀ q r1, tau q = some r1 → tau2 q = some r1) : ShelfR tau2 fp fq fx := by
  obtain ⟨h1, h2, h3⟩ := h
  refine ⟨fun N la hN hl => hm _ _ (h1 N la hN hl), fun N la hN hl => hm _ _ (h2 N la hN hl), fun kd N sr sa g1 g2 g3 hx => ?_⟩
  obtain ⟨la, t1, t2⟩ := h3 kd N sr sa g1 g2 g3 hx
  exact ⟨la, hm _ _ t1, t2⟩
theorem px_q {G : gG} {b0 n n' mi : Nat} {σ σ' : gS} {Z : ZT} {ans : Int32} {v : Option Value} {ph : Nat} {tau tau2 : Nat → Option Rl} {fp fq fx : Nat → Option Nat} {rs fpl tn op dg : Int32} {ftx : Nat → Int32} {Kn Kt Ka Kb Kc Kd : KT}
    (hE : RW σ b0 (WCL G b0 ph (zS Z) (zL Z) fp fq fx rs fpl tn op dg ftx Kn Kt Ka Kb Kc Kd) = σ) (hBn : b0 + 44 ≤ n) (hS : ShelfR tau fp fq fx) (hm : mis fp fq ≤ mi) (hK : KSh tau Kn ∧ KSh tau Kt ∧ KSh tau Ka ∧ KSh tau Kb ∧ KSh tau Kc ∧ KSh tau Kd) (hA : KA Kn (zA Z)) (hT : KTy tau Kn (zA Z))
    (hH : ∀ i, i < zS Z → KA (hP ph Ka Kb Kc Kd i) (zH Z i) ∧ KTy tau (hP ph Ka Kb Kc Kd i) (zH Z i)) (hX : ∀ j, j < zL Z → ftx j = nI (zX Z j)) (e1 : some (.int ans) = v) (hn : n ≤ n') (hfr : ∀ q, q < b0 + 44 → σ' q = σ q) (hD2 : DynI G (b0 + 44) n' σ' tau2) (hmo : ∀ q r1, tau q = some r1 → tau2 q = some r1) (hp4 : ph < 4 := by assumption) : PX G b0 n σ mi Z ans v n' σ' :=
  px_mk e1 hn (RW_fix hE (fun q h1 h2 => hfr q (by have : (WCL G b0 ph (zS Z) (zL Z) fp fq fx rs fpl tn op dg ftx Kn Kt Ka Kb Kc Kd).length = 44 := rfl; omega))) rfl rfl (fun q _ h => hfr q h) hD2 (by omega) (hS.mono hmo) hm ⟨hK.1.mono hmo, hK.2.1.mono hmo, hK.2.2.1.mono hmo, hK.2.2.2.1.mono hmo, hK.2.2.2.2.1.mono hmo, hK.2.2.2.2.2.mono hmo⟩ hA (hT.mono hmo) (fun i hi => ⟨(hH i hi).1, (hH i hi).2.mono hmo⟩) hX
/-- a change that is kept -/
theorem px_keep {G : gG} {b0 n n' mi : Nat} {σ σ0 σ' : gS} {Z : ZT} {a2 : AK} {ans : Int32} {v : Option Value} {ph : Nat} {tau : Nat → Option Rl} {fp fq fx : Nat → Option Nat} {rs fpl tn op dg : Int32} {ftx : Nat → Int32} {Kn Ka Kb Kc Kd Kn2 Kt2 Ka2 Kb2 Kc2 Kd2 : KT} {ph2 s2 : Nat}
    (e1 : some (.int ans) = v) (hn : n ≤ n') (e3 : RW σ0 b0 (WCL G b0 ph2 (s2 + 1) (zL Z) fp fq fx rs fpl tn op dg ftx Kn2 Kt2 Ka2 Kb2 Kc2 Kd2) = σ') (hfr : ∀ q, b0 + 44 ≤ q → q < b0 + 44 → σ0 q = σ q) (hD : DynI G (b0 + 44) n' σ0 tau) (hB : b0 + 44 ≤ n') (hS : ShelfR tau fp fq fx) (hm : mis fp fq ≤ mi)
    (hK : KSh tau Kn ∧ KSh tau Ka ∧ KSh tau Kb ∧ KSh tau Kc ∧ KSh tau Kd) (hA : KA Kn (zA Z)) (hT : KTy tau Kn (zA Z)) (hH : ∀ i, i < zS Z → KA (hP ph Ka Kb Kc Kd i) (zH Z i) ∧ KTy tau (hP ph Ka Kb Kc Kd i) (zH Z i)) (hX : ∀ j, j < zL Z → ftx j = nI (zX Z j))
    (ha2 : hP ph2 Ka2 Kb2 Kc2 Kd2 s2 = Kn) (ha3 : (zS Z < 4 ∧ s2 = zS Z ∧ ∀ i, i < zS Z → hP ph2 Ka2 Kb2 Kc2 Kd2 i = hP ph Ka Kb Kc Kd i) ∨ (zS Z = 4 ∧ s2 = 3 ∧ ∀ i, i < 3 → hP ph2 Ka2 Kb2 Kc2 Kd2 i = hP ph Ka Kb Kc Kd (i + 1))) (ha4 : ∀ P : KT → Prop, P Kn → P Ka → P Kb → P Kc → P Kd → P Ka2 ∧ P Kb2 ∧ P Kc2 ∧ P Kd2)
    (k2 : KSh tau Kn2) (kt2 : KSh tau Kt2) (hA2 : KA Kn2 a2) (hT2 : KTy tau Kn2 a2) (hp42 : ph2 < 4 := by assumption) : PX G b0 n σ mi (zP Z a2) ans v n' σ' := by
  have h4 := ha4 (KSh tau) hK.1 hK.2.1 hK.2.2.1 hK.2.2.2.1 hK.2.2.2.2
  have hs : (zS Z < 4 ∧ s2 = zS Z) ∨ (zS Z = 4 ∧ s2 = 3) := by
    rcases ha3 with ⟨c, d, -⟩ | ⟨c, d, -⟩
    · exact Or.inl ⟨c, d⟩
    · exact Or.inr ⟨c, d⟩
  refine px_mk e1 hn e3 (zP_s hs) rfl hfr hD hB hS hm ⟨k2, kt2, h4⟩ hA2 hT2 ?_ hX
  refine zP_h (P := fun i a => KA (hP ph2 Ka2 Kb2 Kc2 Kd2 i) a ∧ KTy tau (hP ph2 Ka2 Kb2 Kc2 Kd2 i) a) (P0 := fun a => KA Kn a ∧ KTy tau Kn a) (P1 := fun i a => KA (hP ph Ka Kb Kc Kd i) a ∧ KTy tau (hP ph Ka Kb Kc Kd i) a) ⟨hA, hT⟩ hH (fun a h => by rw [ha2]; exact h) ?_
  rcases ha3 with ⟨c, d, f⟩ | ⟨c, d, f⟩
  · exact Or.inl ⟨c, d, fun i a hi h => by rw [f i (by omega)]; exact h⟩
  · exact Or.inr ⟨c, d, fun i a hi h => by rw [f i hi]; exact h⟩
/-! the changes of a kitchen -/
def addA (a : AK) (kd N sr : Nat) : AK := (aN a + 1, aH a, va_up a.2.2.1 (aN a) (kd, N, sr), va_up a.2.2.2.1 (aN a) (0, 0), va_up (aMd a) (aN a) (nI 0), aTu a, aWo a)
def layA (a : AK) (k o2 sd2 : Nat) : AK := (aN a, aH a, a.2.2.1, va_up a.2.2.2.1 k (o2, sd2), aMd a, aTu a, aWo a)
theorem addA_o {a : AK} {kd N sr k : Nat} (h : k ≠ aN a) : aKd (addA a kd N sr) k = aKd a k ∧ aCk (addA a kd N sr) k = aCk a k ∧ aSr (addA a kd N sr) k = aSr a k ∧ aO (addA a kd N sr) k = aO a k ∧ aSd (addA a kd N sr) k = aSd a k ∧ aMd (addA a kd N sr) k = aMd a k := by
  simp [addA, aKd, aCk, aSr, aO, aSd, aMd, va_up, h]
theorem addA_n {a : AK} {kd N sr : Nat} : aKd (addA a kd N sr) (aN a) = kd ∧ aCk (addA a kd N sr) (aN a) = N ∧ aSr (addA a kd N sr) (aN a) = sr ∧ aO (addA a kd N sr) (aN a) = 0 ∧ aSd (addA a kd N sr) (aN a) = 0 ∧ aMd (addA a kd N sr) (aN a) = nI 0 := by
  simp [addA, aKd, aCk, aSr, aO, aSd, aMd, va_up]
theorem addA_ok {a : AK} {kd N sr : Nat} (h : AOK a) (hlt : aN a < 5) (hs : shOK kd N sr) : AOK (addA a kd N sr) := by
  refine ⟨by show aN a + 1 ≤ 5; omega, h.2.1, fun k hk => ?_⟩
  have hk : k < aN a + 1 := hk
  by_cases e : k = aN a
  · subst e
    obtain ⟨g1, g2, g3, g4, g5, -⟩ := addA_n (a := a) (kd := kd) (N := N) (sr := sr)
    rw [g1, g2, g3, g4, g5]
    refine ⟨hs, by have := (fac_le hs.N).2; omega, ?_⟩
    unfold sm
    split
    · exact two_pos N
    · decide
  · obtain ⟨g1, g2, g3, g4, g5, -⟩ := addA_o (a := a) (kd := kd) (N := N) (sr := sr) e
    rw [g1, g2, g3, g4, g5]
    exact h.2.2 k (by omega)
theorem addA_K {K : KT} {a : AK} {kd N sr sa : Nat} (h : KA K a) : KA (kAdd K sa) (addA a kd N sr) := by
  obtain ⟨h1, h2, h3, h4, h5⟩ := h
  refine ⟨by show kN K + 1 = aN a + 1; omega, h2, h3, h4, fun k hk => ?_⟩
  have hk : k < aN a + 1 := hk
  by_cases e : k = aN a
  · subst e
    obtain ⟨g1, g2, g3, g4, g5, g6⟩ := addA_n (a := a) (kd := kd) (N := N) (sr := sr)
    rw [g1, g2, g4, g5, g6]
    refine ⟨?_, ?_⟩
    · show upd (kR K) (kN K) (nI 0) (aN a) = _
      rw [h1, pk_us, rk_00]
    · show upd (kM K) (kN K) (nI 0) (aN a) = _
      rw [h1, pk_us]
  · obtain ⟨g1, g2, g3, g4, g5, g6⟩ := addA_o (a := a) (kd := kd) (N := N) (sr := sr) e
    rw [g1, g2, g4, g5, g6]
    refine ⟨?_, ?_⟩
    · show upd (kR K) (kN K) (nI 0) k = _
      rw [pk_un (by omega)]
      exact (h5 k (by omega)).1
    · show upd (kM K) (kN K) (nI 0) k = _
      rw [pk_un (by omega)]
      exact (h5 k (by omega)).2
theorem addA_T {tau : Nat → Option Rl} {K : KT} {a : AK} {kd N sr sa la : Nat} (hK : KA K a) (h : KTy tau K a) (ht : tau sa = some (rShp kd N sr la)) : KTy tau (kAdd K sa) (addA a kd N sr) := fun k hk => by
  have hk : k < aN a + 1 := hk
  by_cases e : k = aN a
  · subst e
    obtain ⟨g1, g2, g3, -⟩ := addA_n (a := a) (kd := kd) (N := N) (sr := sr)
    rw [g1, g2, g3]
    refine ⟨sa, la, ?_, ht⟩
    show va_up (kS K) (kN K) (some sa) (aN a) = some sa
    rw [hK.1]
    exact va_up_s
  · obtain ⟨g1, g2, g3, -⟩ := addA_o (a := a) (kd := kd) (N := N) (sr := sr) e
    rw [g1, g2, g3]
    obtain ⟨s1, l1, q1, q2⟩ := h k (by omega)
    refine ⟨s1, l1, ?_, q2⟩
    show va_up (kS K) (kN K) (some sa) k = some s1
    simp [va_up, show k ≠ kN K by rw [hK.1]; exact e, q1]
theorem addA_S {tau : Nat → Option Rl} {K : KT} {kd N sr sa la : Nat} (h : KSh tau K) (ht : tau sa = some (rShp kd N sr la)) : KSh tau (kAdd K sa) := fun i v hv => by
  have hv : va_up (kS K) (kN K) (some sa) i = some v := hv
  by_cases e : i = kN K
  · simp [va_up, e] at hv
    subst hv
    exact ⟨_, _, _, _, ht⟩
  · simp [va_up, e] at hv
    exact h i v hv
theorem layA_ok {a : AK} {k o2 sd2 : Nat} (h : AOK a) (ho : o2 < fac (aCk a k)) (hs : sd2 < sm (sid (aKd a k)) (aCk a k)) : AOK (layA a k o2 sd2) := by
  refine ⟨h.1, h.2.1, fun j hj => ?_⟩
  by_cases e : j = k
  · subst e
    have e1 : aO (layA a j o2 sd2) j = o2 := by simp [aO, layA, va_up]
    have e2 : aSd (layA a j o2 sd2) j = sd2 := by simp [aSd, layA, va_up]
    rw [e1, e2]
    exact ⟨(h.2.2 j hj).1, ho, hs⟩
  · have e1 : aO (layA a k o2 sd2) j = aO a j := by simp [aO, layA, va_up, e]
    have e2 : aSd (layA a k o2 sd2) j = aSd a j := by simp [aSd, layA, va_up, e]
    rw [e1, e2]
    exact h.2.2 j hj
theorem layA_K {K : KT} {a : AK} {k o2 sd2 : Nat} (h : KA K a) : KA (kLay K k (rk (sid (aKd a k)) (aCk a k) o2 sd2)) (layA a k o2 sd2) := by
  obtain ⟨h1, h2, h3, h4, h5⟩ := h
  refine ⟨h1, h2, h3, h4, fun j hj => ⟨?_, (h5 j hj).2⟩⟩
  show upd (kR K) k _ j = nI (rk (sid (aKd a j)) (aCk a j) (aO (layA a k o2 sd2) j) (aSd (layA a k o2 sd2) j))
  by_cases e : j = k
  · subst e
    rw [pk_us]
    simp [aO, aSd, layA, va_up]
  · rw [pk_un e]
    simp only [aO, aSd, layA, va_up, if_neg e]
    exact (h5 j hj).1
theorem rwA_ok {k row : Nat} : ∀ {j : Nat} {a a2 : AK}, AOK a → k < aN a → rwA k row j a = some a2 → AOK a2
  | 0, a, a2, h, _, h2 => by cases h2; exact h
  | j + 1, a, a2, h, hk, h2 => by
    rw [rwA] at h2
    split at h2
    · next g => exact rwA_ok (a := tnA a k (row / 10 ^ j % 10)) (tnA_ok h hk g) hk h2
    · cases h2
theorem prs_ok {t : Nat → Nat} {L : Nat} : ∀ (w i : Nat) (o : Option Nat) (d : Nat) (a : AK) (n : Nat), AOK a → (∀ k, o = some k → k < aN a) → AOK (prs t L w i o d a n).2.2.1 ∧ aN (prs t L w i o d a n).2.2.1 = aN a ∧ (prs t L w i o d a n).2.2.1.2.2.1 = a.2.2.1
  | 0, i, o, d, a, n, h, ho => ⟨h, rfl, rfl⟩
  | w + 1, i, none, d, a, n, h, ho => by
    rw [prs]
    by_cases g : i < L
    · rw [if_pos g]
      split
      · split
        · next g2 => exact prs_ok w (i + 1) (some (t i - 65)) 0 a n h (fun k hk => by cases hk; exact g2)
        · exact ⟨h, rfl, rfl⟩
      · exact ⟨h, rfl, rfl⟩
    · rw [if_neg g]; exact ⟨h, rfl, rfl⟩
  | w + 1, i, some k, d, a, n, h, ho => by
    have hk := ho k rfl
    rw [prs]
    by_cases g : i < L
    · rw [if_pos g]
      split
      · split
        · next g2 =>
          have := prs_ok (t := t) (L := L) w (i + 1) (some k) (d + 1) (tnA a k (t i - 48)) (n + 1) (tnA_ok h hk g2) (fun k2 hk2 => by cases hk2; exact hk)
          exact ⟨this.1, this.2.1, this.2.2⟩
        · exact ⟨h, rfl, rfl⟩
      · split
        · exact prs_ok w (i + 1) none 0 a n h (fun k hk => by cases hk)
        · exact ⟨h, rfl, rfl⟩
    · rw [if_neg g]; exact ⟨h, rfl, rfl⟩
theorem dig_ex {row : Nat} (h : 1 ≤ row ∧ row ≤ 99999999) : ∃ D, 1 ≤ D ∧ D ≤ 8 ∧ 10 ^ (D - 1) ≤ row ∧ row < 10 ^ D := by
  by_cases h1 : row < 10
  · exact ⟨1, by decide, by decide, by simpa using h.1, by simpa using h1⟩
  by_cases h2 : row < 100
  · exact ⟨2, by decide, by decide, by simpa using h1, by simpa using h2⟩
  by_cases h3 : row < 1000
  · exact ⟨3, by decide, by decide, by simpa using h2, by simpa using h3⟩
  by_cases h4 : row < 10000
  · exact ⟨4, by decide, by decide, by simpa using h3, by simpa using h4⟩
  by_cases h5 : row < 100000
  · exact ⟨5, by decide, by decide, by simpa using h4, by simpa using h5⟩
  by_cases h6 : row < 1000000
  · exact ⟨6, by decide, by decide, by simpa using h5, by simpa using h6⟩
  by_cases h7 : row < 10000000
  · exact ⟨7, by decide, by decide, by simpa using h6, by simpa using h7⟩
  · exact ⟨8, by decide, by decide, by simpa using h7, by show row < 100000000; omega⟩
theorem nn_of {y : Int32} (h : ¬ y < 0) : ∃ w, w < 2 ^ 31 ∧ y = nI w := by
  have h1 := Int32.not_lt.mp h
  have h2 := Int32.le_iff_toInt_le.mp h1
  have h3 : (0 : Int32).toInt = 0 := rfl
  rw [h3] at h2
  have h4 : y.toInt < 2 ^ 31 := Int32.toInt_lt y
  refine ⟨y.toInt.toNat, by omega, ?_⟩
  apply Int32.toInt_inj.mp
  rw [nI_toInt (by omega)]
  omega
theorem WX.obj {G : gG} {b0 n mi : Nat} {σ : gS} {Z : ZT} (h : WX G b0 n σ Z mi) : ∃ fs, σ b0 = some (.inr (6, fs)) := by
  obtain ⟨ph, tau, fp, fq, fx, rs, fpl, tn, op, dg, ftx, Kn, Kt, Ka, Kb, Kc, Kd, hp4, hE, -⟩ := h
  exact ⟨_, wx_at0 hE rfl⟩
