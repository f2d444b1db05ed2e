def chkS (Q : Nat → Nat → Nat → Bool) : Bool := (List.range 6).all fun N => (List.range (fac N)).all fun o => (List.range (2 ^ N)).all fun sd => Q N o sd
theorem chkS_of {Q : Nat → Nat → Nat → Bool} (h : chkS Q = true) {N o sd : Nat} (hN : N ≤ 5) (ho : o < fac N) (hs : sd < 2 ^ N) : Q N o sd = true := dec1 (dec1 (dec1 h N (by omega)) o ho) sd hs
/-- what holds of all stacks with sides, and of all without -/
theorem chkA {Q : Bool → Nat → Nat → Nat → Bool} (h1 : chkS (Q true) = true) (h2 : chkO (fun N o => Q false N o 0) = true) {kd N sr o sd : Nat} (hv : Vld kd N sr o sd) : Q (sid kd) N o sd = true := by
  obtain ⟨hsh, ho, hs⟩ := hv
  have hN := hsh.2.2.1
  cases e : sid kd with
  | true =>
    rw [e] at hN hs
    simp only [sm, if_true] at hN hs
    exact chkS_of h1 hN ho hs
  | false =>
    rw [e] at hs
    have h0 : sd = 0 := by simpa [sm] using hs
    subst h0
    exact chkO_of h2 hsh.N ho
def smO (sb : Bool) (N o sd : Nat) : Nat := tnO N o (smt sb N o sd)
def smS (sb : Bool) (N o sd : Nat) : Nat := tnS sb sd (smt sb N o sd)
/-- what falls with each turn of the simple way -/
def pot (sb : Bool) (N o sd : Nat) : Nat := 3 * stc N o sd N + (if plc N o (stc N o sd N) = 0 then (if sb && bt sd 0 == 0 then 2 else 1) else 3)
def potQ (sb : Bool) (N o sd : Nat) : Bool := srp N o sd N || (decide (1 ≤ smt sb N o sd ∧ smt sb N o sd ≤ N) && (srp N (smO sb N o sd) (smS sb N o sd) N || decide (pot sb N (smO sb N o sd) (smS sb N o sd) < pot sb N o sd)) && decide (pot sb N o sd < 22))
theorem k_pot1 : chkS (potQ true) = true := by decide +kernel
theorem k_pot2 : chkO (fun N o => potQ false N o 0) = true := by decide +kernel
def srtQ (_ : Bool) (N o sd : Nat) : Bool := srp N o sd N == (o == 0 && sd == 0)
theorem k_srt1 : chkS (srtQ true) = true := by decide +kernel
theorem k_srt2 : chkO (fun N o => srtQ false N o 0) = true := by decide +kernel
theorem k_inO : chkO (fun N o => (List.range (N + 1)).all fun k => tnO N (tnO N o k) k == o) = true := by decide +kernel
theorem k_inS : chk2 (fun N sd => decide (2 ^ N ≤ sd) || (List.range (N + 1)).all fun k => tnS true (tnS true sd k) k == sd) 7 64 = true := by decide +kernel
theorem tnO_in {N o k : Nat} (hN : N ≤ 6) (ho : o < fac N) (hk : k ≤ N) : tnO N (tnO N o k) k = o := by
  have := dec1 (chkO_of k_inO hN ho) k (by omega)
  simpa using this
theorem tnS_in {sb : Bool} {N sd k : Nat} (hN : N ≤ 6) (hs : sd < sm sb N) (hk : k ≤ N) : tnS sb (tnS sb sd k) k = sd := by
  cases sb with
  | false => rfl
  | true =>
    have h2 : sd < 2 ^ N := by simpa [sm] using hs
    have h1 := two_le hN
    have := chk2_of k_inS (i := N) (j := sd) (by omega) (by omega)
    simp at this
    exact (this.resolve_left (by omega)) k (by omega)
theorem srt_iff {kd N sr o sd : Nat} (hv : Vld kd N sr o sd) : srp N o sd N = (o == 0 && sd == 0) := by
  have := chkA k_srt1 k_srt2 hv
  simpa [srtQ] using this
theorem smt_ok {kd N sr o sd : Nat} (hv : Vld kd N sr o sd) (h : srp N o sd N = false) : (1 ≤ smt (sid kd) N o sd ∧ smt (sid kd) N o sd ≤ N) ∧ (srp N (smO (sid kd) N o sd) (smS (sid kd) N o sd) N = true ∨ pot (sid kd) N (smO (sid kd) N o sd) (smS (sid kd) N o sd) < pot (sid kd) N o sd) := by
  have := chkA k_pot1 k_pot2 hv
  simp only [potQ, h, Bool.false_or, Bool.and_eq_true, decide_eq_true_eq, Bool.or_eq_true] at this
  exact ⟨this.1.1, this.1.2⟩
theorem pot_lt {kd N sr o sd : Nat} (hv : Vld kd N sr o sd) (h : srp N o sd N = false) : pot (sid kd) N o sd < 22 := by
  have := chkA k_pot1 k_pot2 hv
  simp only [potQ, h, Bool.false_or, Bool.and_eq_true, decide_eq_true_eq] at this
  exact this.2
theorem Vld.tn {kd N sr o sd w : Nat} (hv : Vld kd N sr o sd) (hw : w ≤ N) : Vld kd N sr (tnO N o w) (tnS (sid kd) sd w) := ⟨hv.1, tnO_lt hv.1.N hv.2.1 hw, tnS_lt hv.1.N hv.2.2 hw⟩
/-- the simple way: its turns, its work, whether all are possible -/
def spw (kd N sr : Nat) : Nat → Nat → Nat → Nat × Nat × Bool
  | 0, _, _ => (0, 0, true)
  | w + 1, o, sd => if srp N o sd N = true then (0, 0, true) else
    ((spw kd N sr w (smO (sid kd) N o sd) (smS (sid kd) N o sd)).1 + 1, (spw kd N sr w (smO (sid kd) N o sd) (smS (sid kd) N o sd)).2.1 + smt (sid kd) N o sd, al kd sr N o sd (smt (sid kd) N o sd) && (spw kd N sr w (smO (sid kd) N o sd) (smS (sid kd) N o sd)).2.2)
theorem spw_t {kd N sr w o sd : Nat} (h : srp N o sd N = true) : spw kd N sr w o sd = (0, 0, true) := by
  cases w with
  | zero => rfl
  | succ w => simp [spw, h]
theorem spw_f {kd N sr w o sd : Nat} (h : srp N o sd N = false) : spw kd N sr (w + 1) o sd = ((spw kd N sr w (smO (sid kd) N o sd) (smS (sid kd) N o sd)).1 + 1, (spw kd N sr w (smO (sid kd) N o sd) (smS (sid kd) N o sd)).2.1 + smt (sid kd) N o sd, al kd sr N o sd (smt (sid kd) N o sd) && (spw kd N sr w (smO (sid kd) N o sd) (smS (sid kd) N o sd)).2.2) := by
  simp [spw, h]
/-- the fuel that is enough -/
def enough (kd N o sd w : Nat) : Prop := srp N o sd N = true ∨ pot (sid kd) N o sd < w
theorem enough_22 {kd N sr o sd : Nat} (hv : Vld kd N sr o sd) : enough kd N o sd 22 := by
  cases h : srp N o sd N with
  | true => exact Or.inl h
  | false => exact Or.inr (pot_lt hv h)
theorem enough_s {kd N sr o sd w : Nat} (hv : Vld kd N sr o sd) (h : srp N o sd N = false) (he : enough kd N o sd w) : ∃ z, w = z + 1 ∧ enough kd N (smO (sid kd) N o sd) (smS (sid kd) N o sd) z := by
  rcases he with he | he
  · rw [h] at he; exact absurd he (by decide)
  · refine ⟨w - 1, by omega, ?_⟩
    rcases (smt_ok hv h).2 with g | g
    · exact Or.inl g
    · exact Or.inr (by omega)
/-- the gaps behind a turn, 9 if it is not possible -/
def bv (kd N sr o sd k : Nat) : Nat := if al kd sr N o sd k = true then gp (sid kd) N (tnO N o k) (tnS (sid kd) sd k) else 9
/-- the best turn so far, 0 for none, and the gaps behind it -/
def bst (kd N sr o sd : Nat) : Nat → Nat × Nat
  | 0 => (0, 9)
  | i + 1 => if bv kd N sr o sd (i + 1) < (bst kd N sr o sd i).2 then (i + 1, bv kd N sr o sd (i + 1)) else bst kd N sr o sd i
def fnd (b : Nat) : Int32 := if b = 0 then (-1000004) else nI b
theorem bst_le (kd N sr o sd : Nat) : ∀ i, (bst kd N sr o sd i).2 ≤ 9
  | 0 => Nat.le_refl _
  | i + 1 => by
    have := bst_le kd N sr o sd i
    unfold bst
    split
    · next h => exact Nat.le_of_lt (Nat.lt_of_lt_of_le h this)
    · exact this
/-- sums over the stacks: those that are sorted (1), their gaps -/
def ofa (a : AK) (w : Nat) : Nat → Nat
  | 0 => 0
  | i + 1 => ofa a w i + (if w = 1 then (srp (aCk a i) (aO a i) (aSd a i) (aCk a i)).toNat else gpA a i)
def cntA (a : AK) (sc tn w : Nat) : Int32 :=
  match w with
  | 0 => nI (aN a)
  | 1 => nI (ofa a 1 (aN a))
  | 2 => nI (ofa a 2 (aN a))
  | 3 => nI (aH a)
  | 4 => aTu a 0
  | 5 => aTu a 1
  | 6 => aTu a 2
  | 7 => aWo a 0
  | 8 => aWo a 1
  | 9 => aWo a 2
  | 10 => aTu a 0 + aTu a 1 + aTu a 2
  | 11 => nI sc
  | _ => nI tn
theorem cnt_mid {f : Nat → Int32} {a : AK} {sc tn w : Nat} (h : MR f a) (h1 : 3 ≤ w) (h2 : w ≤ 9) : f (1 + w - 3) = cntA a sc tn w := by
  obtain ⟨g0, g1, g2, g3, -⟩ := h
  rcases (show w = 3 ∨ w = 4 ∨ w = 5 ∨ w = 6 ∨ w = 7 ∨ w = 8 ∨ w = 9 by omega) with rfl | rfl | rfl | rfl | rfl | rfl | rfl
  · exact g1
  · exact g2 0 (by decide)
  · exact g2 1 (by decide)
  · exact g2 2 (by decide)
  · exact g3 0 (by decide)
  · exact g3 1 (by decide)
  · exact g3 2 (by decide)
theorem ofa_le (a : AK) (w : Nat) (h : AOK a) : ∀ i, i ≤ aN a → ofa a w i ≤ 6 * i
  | 0, _ => Nat.le_refl _
  | i + 1, hi => by
    have h1 := ofa_le a w h i (by omega)
    have h2 := (h.2.2 i (by omega)).1.N
    have h3 := gpp_le (sid (aKd a i)) (aCk a i) (aO a i) (aSd a i) (aCk a i)
    unfold ofa
    split
    · have := Bool.toNat_le (srp (aCk a i) (aO a i) (aSd a i) (aCk a i))
      omega
    · unfold gpA gp
      omega
/-- the digits of a row of turns, from the j-th on: the kitchen behind them, if all are possible -/
def rwA (k row : Nat) : Nat → AK → Option AK
  | 0, a => some a
  | j + 1, a => if okA a k (row / 10 ^ j % 10) = true then rwA k row j (tnA a k (row / 10 ^ j % 10)) else none
