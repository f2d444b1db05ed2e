/-! a text read sign by sign: the place of the fault (or the end), its reason (0: none), the kitchen then, how many turns -/
def prs (t : Nat → Nat) (L : Nat) : Nat → Nat → Option Nat → Nat → AK → Nat → Nat × Nat × AK × Nat
  | 0, i, _, _, a, dn => (i, 0, a, dn)
  | w + 1, i, op, dg, a, dn =>
    if i < L then
      match op with
      | none => if 65 ≤ t i ∧ t i ≤ 69 then (if t i - 65 < aN a then prs t L w (i + 1) (some (t i - 65)) 0 a dn else (i, 2, a, dn)) else (i, 1, a, dn)
      | some k => if 48 ≤ t i ∧ t i ≤ 57 then (if okA a k (t i - 48) = true then prs t L w (i + 1) (some k) (dg + 1) (tnA a k (t i - 48)) (dn + 1) else (i, 3, a, dn))
        else if t i = 59 ∧ dg ≠ 0 then prs t L w (i + 1) none 0 a dn else (i, 1, a, dn)
    else match op with
      | none => (i, 0, a, dn)
      | some _ => (i, 1, a, dn)
theorem prs_w {L i : Nat} (h : i ≤ L) : ∃ z, L + 1 - i = z + 1 ∧ z = L + 1 - (i + 1) := ⟨L - i, by omega, by omega⟩
theorem prs_end {t : Nat → Nat} {L : Nat} {a : AK} {dn : Nat} : prs t L (L + 1 - L) L none 0 a dn = (L, 0, a, dn) := by
  rw [show L + 1 - L = 0 + 1 by omega, prs, if_neg (Nat.lt_irrefl L)]
theorem prs_o {t : Nat → Nat} {L i dg : Nat} {a : AK} {dn : Nat} (hi : i < L) (h1 : 65 ≤ t i ∧ t i ≤ 69) (h2 : t i - 65 < aN a) : prs t L (L + 1 - i) i none dg a dn = prs t L (L + 1 - (i + 1)) (i + 1) (some (t i - 65)) 0 a dn := by
  obtain ⟨z, hz, hz2⟩ := prs_w (Nat.le_of_lt hi)
  rw [hz, prs, if_pos hi, ← hz2]
  simp only [if_pos h1, if_pos h2]
theorem prs_o2 {t : Nat → Nat} {L i dg : Nat} {a : AK} {dn : Nat} (hi : i < L) (h1 : 65 ≤ t i ∧ t i ≤ 69) (h2 : ¬ t i - 65 < aN a) : prs t L (L + 1 - i) i none dg a dn = (i, 2, a, dn) := by
  obtain ⟨z, hz, hz2⟩ := prs_w (Nat.le_of_lt hi)
  rw [hz, prs, if_pos hi]
  simp only [if_pos h1, if_neg h2]
theorem prs_o1 {t : Nat → Nat} {L i dg : Nat} {a : AK} {dn : Nat} (hi : i < L) (h1 : ¬ (65 ≤ t i ∧ t i ≤ 69)) : prs t L (L + 1 - i) i none dg a dn = (i, 1, a, dn) := by
  obtain ⟨z, hz, hz2⟩ := prs_w (Nat.le_of_lt hi)
  rw [hz, prs, if_pos hi]
  simp only [if_neg h1]
theorem prs_d {t : Nat → Nat} {L i k dg : Nat} {a : AK} {dn : Nat} (hi : i < L) (h1 : 48 ≤ t i ∧ t i ≤ 57) (h2 : okA a k (t i - 48) = true) : prs t L (L + 1 - i) i (some k) dg a dn = prs t L (L + 1 - (i + 1)) (i + 1) (some k) (dg + 1) (tnA a k (t i - 48)) (dn + 1) := by
  obtain ⟨z, hz, hz2⟩ := prs_w (Nat.le_of_lt hi)
  rw [hz, prs, if_pos hi, ← hz2]
  simp only [if_pos h1, if_pos h2]
theorem prs_d3 {t : Nat → Nat} {L i k dg : Nat} {a : AK} {dn : Nat} (hi : i < L) (h1 : 48 ≤ t i ∧ t i ≤ 57) (h2 : okA a k (t i - 48) = false) : prs t L (L + 1 - i) i (some k) dg a dn = (i, 3, a, dn) := by
  obtain ⟨z, hz, hz2⟩ := prs_w (Nat.le_of_lt hi)
  rw [hz, prs, if_pos hi]
  simp only [if_pos h1, h2]
  rfl
theorem prs_s {t : Nat → Nat} {L i k dg : Nat} {a : AK} {dn : Nat} (hi : i < L) (h1 : t i = 59) (h2 : dg ≠ 0) : prs t L (L + 1 - i) i (some k) dg a dn = prs t L (L + 1 - (i + 1)) (i + 1) none 0 a dn := by
  obtain ⟨z, hz, hz2⟩ := prs_w (Nat.le_of_lt hi)
  have g1 : ¬ (48 ≤ t i ∧ t i ≤ 57) := by omega
  have g2 : t i = 59 ∧ dg ≠ 0 := ⟨h1, h2⟩
  rw [hz, prs, if_pos hi, ← hz2]
  simp only [if_neg g1, if_pos g2]
theorem prs_e {t : Nat → Nat} {L i k dg : Nat} {a : AK} {dn : Nat} (hi : i ≤ L) (h1 : ¬ (i < L ∧ 48 ≤ t i ∧ t i ≤ 57)) (h2 : ¬ (i < L ∧ t i = 59 ∧ dg ≠ 0)) : prs t L (L + 1 - i) i (some k) dg a dn = (i, 1, a, dn) := by
  obtain ⟨z, hz, hz2⟩ := prs_w hi
  rw [hz, prs]
  by_cases h : i < L
  · have g1 : ¬ (48 ≤ t i ∧ t i ≤ 57) := fun q => h1 ⟨h, q⟩
    have g2 : ¬ (t i = 59 ∧ dg ≠ 0) := fun q => h2 ⟨h, q⟩
    rw [if_pos h]
    simp only [if_neg g1, if_neg g2]
  · rw [if_neg h]
theorem sg_lt {f : Nat → Int32} {t : Nat → Nat} {L i : Nat} (ht : ∀ j, j < L → f j = nI (t j)) (h : i < L) : sgn f i L = nI (t i) := by rw [sgn, if_pos h, ht i h]
theorem sg_dig {f : Nat → Int32} {t : Nat → Nat} {L i : Nat} (ht : ∀ j, j < L → f j = nI (t j)) (ht2 : ∀ j, t j < 128) : decide (nI 48 ≤ sgn f i L ∧ sgn f i L ≤ nI 57) = decide (i < L ∧ 48 ≤ t i ∧ t i ≤ 57) := by
  by_cases h : i < L
  · have := ht2 i
    rw [sg_lt ht h, in_dec (by omega) (by omega) (by omega)]
    simp [h]
  · rw [sgn, if_neg h]
    simp [h]
    decide
theorem sg_semi {f : Nat → Int32} {t : Nat → Nat} {L i : Nat} (ht : ∀ j, j < L → f j = nI (t j)) (ht2 : ∀ j, t j < 128) : sgn f i L = nI 59 ↔ i < L ∧ t i = 59 := by
  by_cases h : i < L
  · have := ht2 i
    rw [sg_lt ht h, nI_eq (by omega) (by omega)]
    simp [h]
  · rw [sgn, if_neg h]
    simp [h]
    decide
theorem let_k : ∀ c, c < 128 → decide (nI 0 ≤ nI c - nI 65 ∧ nI c - nI 65 ≤ nI 4) = decide (65 ≤ c ∧ c ≤ 69) := by decide +kernel
theorem let_n {c : Nat} (h : 65 ≤ c) : nI c - nI 65 = nI (c - 65) := pk_sub h
theorem isS_dec {k ns : Nat} (hn : ns ≤ 5) (hk : k < 5) : isS (nI k) ns = decide (k < ns) := by
  by_cases h : k < ns
  · rw [isS_t ns (by omega) k h, decide_eq_true h]
  · rw [decide_eq_false h, Bool.eq_false_iff]
    intro hh
    obtain ⟨j, hj, e⟩ := isS_of hn hh
    rw [nI_eq (by omega) (by omega)] at e
    omega
theorem tr1_nn {a : AK} {k w : Nat} (h : 0 ≤ tr1 (aKd a k) (aSr a k) (aCk a k) (aO a k) (aSd a k) w) : okA a k w = true := by
  cases g : okA a k w with
  | true => rfl
  | false =>
    rw [tr1, if_neg (by rw [show okT (aKd a k) (aSr a k) (aCk a k) (aO a k) (aSd a k) w = okA a k w from rfl, g]; decide)] at h
    exact absurd h (by decide)
theorem tr1_ng {a : AK} {k w : Nat} (hA : AOK a) (hk : k < aN a) (h : ¬ 0 ≤ tr1 (aKd a k) (aSr a k) (aCk a k) (aO a k) (aSd a k) w) : okA a k w = false := by
  cases g : okA a k w with
  | false => rfl
  | true =>
    rw [tr1_ok g] at h
    exact absurd (nI_pos' (gpA_lt (tnA_ok hA hk g) hk)) h
theorem ts1_no {f : Nat → Int32} {a : AK} {k w h1 : Nat} (h : okA a k w = false) : ts1 f k (aKd a k) (aSr a k) (aCk a k) (aO a k) (aSd a k) w h1 = f := by
  rw [ts1, if_neg (by rw [show okT (aKd a k) (aSr a k) (aCk a k) (aO a k) (aSd a k) w = okA a k w from rfl, h]; decide)]
def rdA (rs i : Nat) : Int32 := if rs = 0 then (-1000004) else nI i
def ftA (q : Nat × Nat × AK × Nat) (w : Nat) : Int32 := if q.2.1 = 0 then (-1000004) else if w = 0 then nI q.1 else nI q.2.1
theorem prs_cnt {t : Nat → Nat} {L : Nat} : ∀ (w i : Nat) (op : Option Nat) (dg : Nat) (a : AK) (dn : Nat), i ≤ L → dn ≤ i → (prs t L w i op dg a dn).2.2.2 ≤ L
  | 0, i, op, dg, a, dn, h1, h2 => by simp only [prs]; omega
  | w + 1, i, none, dg, a, dn, h1, h2 => by
    rw [prs]
    by_cases h : i < L
    · rw [if_pos h]
      split
      · split
        · exact prs_cnt w (i + 1) _ _ _ _ (by omega) (by omega)
        · simp only; omega
      · simp only; omega
    · rw [if_neg h]
      show dn ≤ L
      omega
  | w + 1, i, some k, dg, a, dn, h1, h2 => by
    rw [prs]
    by_cases h : i < L
    · rw [if_pos h]
      split
      · split
        · exact prs_cnt w (i + 1) _ _ _ _ (by omega) (by omega)
        · simp only; omega
      · split
        · exact prs_cnt w (i + 1) _ _ _ _ (by omega) (by omega)
        · simp only; omega
    · rw [if_neg h]
      show dn ≤ L
      omega
theorem prs_dn {t : Nat → Nat} {L i rs dn : Nat} {a b : AK} (hL : L ≤ 50) (h : prs t L (L + 1) 0 none 0 a 0 = (i, rs, b, dn)) : dn ≤ 50 := by
  have := prs_cnt (t := t) (L := L) (L + 1) 0 none 0 a 0 (by omega) (by omega)
  rw [h] at this
  simp only at this
  omega
theorem rd_ne {rs i : Nat} (hi : i < 2 ^ 31) (h : rs ≠ 0) : ¬ rdA rs i = -1000004 := by
  rw [rdA, if_neg h]
  intro z
  have := nI_pos hi
  rw [z] at this
  exact this (by decide)
theorem rd_eq {rs i : Nat} (h : rs = 0) : rdA rs i = -1000004 := by rw [rdA, if_pos h]
theorem fta_1 {rs i d w : Nat} {a : AK} (hi : i < 2 ^ 31) (h : rdA rs i = -1000004) : some (Value.int (ftA (i, rs, a, d) w)) = some (.int (rdA rs i)) := by
  cases rs with
  | zero => rfl
  | succ z => exact absurd h (rd_ne hi (by omega))
theorem fta_2 {rs i d w : Nat} {a : AK} (h : w = 0) : some (Value.int (ftA (i, rs, a, d) w)) = some (.int (rdA rs i)) := by
  subst h
  simp [ftA, rdA]
theorem fta_3 {rs i d w : Nat} {a : AK} {r : Int32} (hi : i < 2 ^ 31) (h : ¬ rdA rs i = -1000004) (hw : w ≠ 0) (hr : rs ≠ 0 → r = nI rs) : some (Value.int (ftA (i, rs, a, d) w)) = some (.int r) := by
  have h0 : rs ≠ 0 := fun z => h (rd_eq z)
  rw [hr h0, ftA, if_neg h0, if_neg hw]

abbrev rm_X7_does : Room := { frames := 4, cells := 0, slots := 0, locals := 87 }
set_option maxRecDepth 100000 in
set_option maxHeartbeats 4000000 in
theorem c_X7_does {l : Launch} {G : gG} {n : Nat} {σ : gS} {m0 : Nat} {xstates xreason xkind xn xstrength : Int32} {fs fwas fbegun faside ftext fsize fburnt fnext ffar fthen fqueue frankAt fturnAt : Nat → Int32} {t : Nat → Nat} {L i : Nat} {a : AK} {dn : Nat} {tot : Nat × Nat × AK × Nat} (htx : ∀ j, j < L → ftext j = nI (t j)) (ht2 : ∀ j, t j < 128) (hL : L ≤ 50) (hM : MR fs a) (hA : AOK a) (hiL : i < L) (hdn : dn ≤ i) (htot : prs t L (L + 1 - i) i none 0 a dn = tot) : GM l G yX7_does cX7_does 3 (some .boolean) rm_X7_does n (mW G σ m0 [xstates, nI L, nI i, xreason, nI dn, xkind, xn, xstrength] [fs, fwas, fbegun, faside, ftext, fsize, fburnt, fnext, ffar, fthen, fqueue, frankAt, fturnAt]) [.ref m0] (fun rv n2 σ2 => ∃ (b : Bool) (i2 : Nat) (rs : Nat) (f3 : Nat → Int32) (a3 : AK) (d3 : Nat) (k2 : Int32) (n3 : Int32) (r2 : Int32) (f2 : Nat → Int32) (g2 : Nat → Int32), some (.int (bI b)) = rv ∧ n = n2 ∧ (mW G σ m0 [xstates, nI L, nI i2, nI rs, nI d3, k2, n3, r2] [f3, fwas, fbegun, faside, ftext, f2, g2, fnext, ffar, fthen, fqueue, frankAt, fturnAt]) = σ2 ∧ (MR f3 a3) ∧ (AOK a3) ∧ (aN a3 = aN a) ∧ (i2 ≤ L) ∧ ((b = true ∧ i < i2 ∧ d3 ≤ i2 ∧ prs t L (L + 1 - i2) i2 none 0 a3 d3 = tot) ∨ (b = false ∧ rs ≠ 0 ∧ tot = (i2, rs, a3, d3)))) := by
  refine GM.intro (by decide +kernel) (Nat.le_of_ble_eq_true rfl) (fun p e s m args below meth c C hr hlocks hname po hpo => ?_)
  have C : Cx p s m args c cX7_does 3 RX7 G := C
  have hAn := hA.1
  have hti := ht2 i
  refine r_aload_n C dX7_does_0 rfl 0 rfl ?_
  refine r_callV (As := []) C (c_X7_sign (ai := i) (tn := L) (hL) (by first | assumption | omega)) wM_X7_168 wI_X7_sign wN_X7 wC_X7_sign wV_X7_sign hd_X7_sign ⟨Nat.le_of_ble_eq_true rfl, Nat.le_of_ble_eq_true rfl⟩ rfl (mW_o _ _ _ _ _) rfl rfl (Nat.le_of_ble_eq_true rfl) dX7_does_1 ⟨Nat.le_of_ble_eq_true rfl, Nat.le_of_ble_eq_true rfl⟩ (fun rv n2 σ2 hp => ?_)
  obtain ⟨rfl, rfl, rfl⟩ := hp
  refine V.eq (σ2 := (mW G σ m0 [xstates, nI L, nI i, xreason, nI dn, xkind, xn, xstrength] [fs, fwas, fbegun, faside, ftext, fsize, fburnt, fnext, ffar, fthen, fqueue, frankAt, fturnAt])) (n2 := n) (st2 := [.int (sgn ftext i L)]) rfl rfl rfl rfl ?_
  refine V.top (y := nI (t i)) (sg_lt htx hiL) ?_
  refine r_bipush (v := nI 65) C dX7_does_4 (by decide) ?_
  refine r_isub C dX7_does_6 ?_
  refine r_istore_n (lv2 := [(1, .int ((nI (t i)) - (nI 65))), (0, .ref m0)]) C dX7_does_7 rfl (by decide) rfl ?_
  refine r_aload_n C dX7_does_8 rfl 1 rfl ?_
  refine r_iload_n C dX7_does_9 rfl 0 rfl ?_
  refine r_iconst (v := nI 0) C dX7_does_10 (by decide) ?_
  refine r_iconst (v := nI 4) C dX7_does_11 (by decide) ?_
  refine r_callS (As := [.int ((nI (t i)) - (nI 65)), .int (nI 0), .int (nI 4)]) C (c_X7_in (v := (nI (t i)) - (nI 65)) (low := nI 0) (high := nI 4) ) wM_X7_50 wS_X7_in wN_X7 wC_X7_in hd_X7_in ⟨Nat.le_of_ble_eq_true rfl, Nat.le_of_ble_eq_true rfl⟩ rfl rfl (Nat.le_of_ble_eq_true rfl) dX7_does_12 ⟨Nat.le_of_ble_eq_true rfl, Nat.le_of_ble_eq_true rfl⟩ (fun rv n2 σ2 hp => ?_)
  obtain ⟨rfl, rfl, rfl⟩ := hp
  refine V.eq (σ2 := (mW G σ m0 [xstates, nI L, nI i, xreason, nI dn, xkind, xn, xstrength] [fs, fwas, fbegun, faside, ftext, fsize, fburnt, fnext, ffar, fthen, fqueue, frankAt, fturnAt])) (n2 := n) (st2 := [.int (bI (decide ((nI 0) ≤ ((nI (t i)) - (nI 65)) ∧ ((nI (t i)) - (nI 65)) ≤ (nI 4)))), .ref m0]) rfl rfl rfl rfl ?_
  refine V.top (y := bI (decide (65 ≤ t i ∧ t i ≤ 69))) (congrArg bI (let_k _ hti)) ?_
  have L23 : ∀ (rs0 : Nat), (rs0 = if 65 ≤ t i ∧ t i ≤ 69 then 2 else 1) → V p l e rm_X7_does s m args below meth c G 3 (MQ below (gQ G po) args s rm_X7_does.cells rm_X7_does.slots (gF G)) 0 0 n (mW G σ m0 [xstates, nI L, nI i, xreason, nI dn, xkind, xn, xstrength] [fs, fwas, fbegun, faside, ftext, fsize, fburnt, fnext, ffar, fthen, fqueue, frankAt, fturnAt]) 23 [(0, .ref m0), (1, .int ((nI (t i)) - (nI 65)))] [.int (nI rs0), .ref m0] := by
    intro rs0 hrs0
    refine rm_put (S2 := [xstates, nI L, nI i, nI rs0, nI dn, xkind, xn, xstrength]) C 8 (by decide) wF_X7_171 rfl rfl dX7_does_23 ?_
    refine r_iload_n C dX7_does_26 rfl 1 rfl ?_
    refine r_iconst (v := nI 0) C dX7_does_27 (by decide) ?_
    refine r_iconst (v := nI 4) C dX7_does_28 (by decide) ?_
    refine r_callS (As := [.int ((nI (t i)) - (nI 65)), .int (nI 0), .int (nI 4)]) C (c_X7_in (v := (nI (t i)) - (nI 65)) (low := nI 0) (high := nI 4) ) wM_X7_50 wS_X7_in wN_X7 wC_X7_in hd_X7_in ⟨Nat.le_of_ble_eq_true rfl, Nat.le_of_ble_eq_true rfl⟩ rfl rfl (Nat.le_of_ble_eq_true rfl) dX7_does_29 ⟨Nat.le_of_ble_eq_true rfl, Nat.le_of_ble_eq_true rfl⟩ (fun rv n2 σ2 hp => ?_)
    obtain ⟨rfl, rfl, rfl⟩ := hp
    refine V.eq (σ2 := (mW G σ m0 [xstates, nI L, nI i, nI rs0, nI dn, xkind, xn, xstrength] [fs, fwas, fbegun, faside, ftext, fsize, fburnt, fnext, ffar, fthen, fqueue, frankAt, fturnAt])) (n2 := n) (st2 := [.int (bI (decide ((nI 0) ≤ ((nI (t i)) - (nI 65)) ∧ ((nI (t i)) - (nI 65)) ≤ (nI 4))))]) rfl rfl rfl rfl ?_
    refine V.top (y := bI (decide (65 ≤ t i ∧ t i ≤ 69))) (congrArg bI (let_k _ hti)) ?_
    refine r_if_eqB (tgt := 43) C dX7_does_32 (by decide) (fun cz32 => ?_) (fun cz32 => ?_)
    · have hl9 := of_decide_eq_false cz32
      refine r_iconst (v := nI 0) C dX7_does_43 (by decide) ?_
      exact r_zret C (by decide) hr hlocks (Nat.le_of_ble_eq_true rfl) (Nat.le_of_ble_eq_true rfl) dX7_does_44 (hpo _ _ _ ⟨false, i, rs0, fs, a, dn, xkind, xn, xstrength, fsize, fburnt, rfl, rfl, rfl, hM, hA, rfl, by omega, by first | exact Or.inr ⟨rfl, by rw [hrs0]; split <;> decide, by rw [← htot, prs_o1 hiL hl9, hrs0, if_neg hl9]⟩ | exact Or.inr ⟨rfl, by rw [hrs0]; split <;> decide, by rw [← htot, prs_o2 hiL hl9 hk0, hrs0, if_pos hl9]⟩⟩)
    · have hl9 := of_decide_eq_true cz32
      refine V.eq (lv2 := [(0, .ref m0), (1, .int (nI (t i - 65)))]) rfl rfl (by rw [(show (nI (t i)) - (nI 65) = nI (t i - 65) from let_n hl9.1)]) rfl ?_
      refine r_aload_n C dX7_does_35 rfl 0 rfl ?_
      refine r_iload_n C dX7_does_36 rfl 1 rfl ?_
      refine r_callV (As := [.int (nI (t i - 65))]) C (c_X7_isStack (x := nI (t i - 65)) (ns := aN a) (hM.1)) wM_X7_98 wI_X7_isStack wN_X7 wC_X7_isStack wV_X7_isStack hd_X7_isStack ⟨Nat.le_of_ble_eq_true rfl, Nat.le_of_ble_eq_true rfl⟩ rfl (mW_o _ _ _ _ _) rfl rfl (Nat.le_of_ble_eq_true rfl) dX7_does_37 ⟨Nat.le_of_ble_eq_true rfl, Nat.le_of_ble_eq_true rfl⟩ (fun rv n2 σ2 hp => ?_)
      obtain ⟨rfl, rfl, rfl⟩ := hp
      refine V.eq (σ2 := (mW G σ m0 [xstates, nI L, nI i, nI rs0, nI dn, xkind, xn, xstrength] [fs, fwas, fbegun, faside, ftext, fsize, fburnt, fnext, ffar, fthen, fqueue, frankAt, fturnAt])) (n2 := n) (st2 := [.int (bI (isS (nI (t i - 65)) (aN a)))]) rfl rfl rfl rfl ?_
      refine V.top (y := bI (decide (t i - 65 < aN a))) (congrArg bI (isS_dec hAn (by omega))) ?_
      refine r_if_neB (tgt := 45) C dX7_does_40 (by decide) (fun cz40 => ?_) (fun cz40 => ?_)
      · have hk0 := of_decide_eq_true cz40
        refine r_aload_n C dX7_does_45 rfl 0 rfl ?_
        refine r_dup C dX7_does_46 rfl ?_
        refine rm_get (v := .int (nI i)) C 7 (by decide) wF_X7_165 rfl dX7_does_47 ?_
        refine r_iconst (v := nI 1) C dX7_does_50 (by decide) ?_
        refine r_iaddN C dX7_does_51 ?_
        refine rm_put (S2 := [xstates, nI L, nI (i + 1), nI rs0, nI dn, xkind, xn, xstrength]) C 7 (by decide) wF_X7_165 rfl rfl dX7_does_52 ?_
        refine r_iconst (v := nI 0) C dX7_does_55 (by decide) ?_
        refine r_istore_n (lv2 := [(2, .int (nI 0)), (0, .ref m0), (1, .int (nI (t i - 65)))]) C dX7_does_56 rfl (by decide) rfl ?_
        have L57 : ∀ (fu : Nat) (i1 : Nat) (dg : Nat) (a1 : AK) (d1 : Nat) (f : Nat → Int32) (rs1 : Nat) (k1 : Int32) (n1 : Int32) (r1 : Int32) (f0 : Nat → Int32) (g0 : Nat → Int32), (i1 ≤ L) → (i < i1) → (dg ≤ i1) → (d1 ≤ i1) → (MR f a1) → (AOK a1) → (aN a1 = aN a) → (prs t L (L + 1 - i1) i1 (some (t i - 65)) dg a1 d1 = tot) → (L + 1 - i1) < fu → V p l e rm_X7_does s m args below meth c G 3 (MQ below (gQ G po) args s rm_X7_does.cells rm_X7_does.slots (gF G)) 0 0 n (mW G σ m0 [xstates, nI L, nI i1, nI rs1, nI d1, k1, n1, r1] [f, fwas, fbegun, faside, ftext, f0, g0, fnext, ffar, fthen, fqueue, frankAt, fturnAt]) 57 [(0, .ref m0), (1, .int (nI (t i - 65))), (2, .int (nI dg))] [] := by
          intro fu
          induction fu with
          | zero => intro i1 dg a1 d1 f rs1 k1 n1 r1 f0 g0 hi1 hii hdg hd1 hM1 hA1 hN1 hrest hm; exact absurd hm (Nat.not_lt_zero _)
          | succ fu ih57 =>
            intro i1 dg a1 d1 f rs1 k1 n1 r1 f0 g0 hi1 hii hdg hd1 hM1 hA1 hN1 hrest hm57
            refine r_aload_n C dX7_does_57 rfl 0 rfl ?_
            refine r_callV (As := []) C (c_X7_sign (ai := i1) (tn := L) (hL) (by first | assumption | omega)) wM_X7_168 wI_X7_sign wN_X7 wC_X7_sign wV_X7_sign hd_X7_sign ⟨Nat.le_of_ble_eq_true rfl, Nat.le_of_ble_eq_true rfl⟩ rfl (mW_o _ _ _ _ _) rfl rfl (Nat.le_of_ble_eq_true rfl) dX7_does_58 ⟨Nat.le_of_ble_eq_true rfl, Nat.le_of_ble_eq_true rfl⟩ (fun rv n2 σ2 hp => ?_)
            obtain ⟨rfl, rfl, rfl⟩ := hp
            refine V.eq (σ2 := (mW G σ m0 [xstates, nI L, nI i1, nI rs1, nI d1, k1, n1, r1] [f, fwas, fbegun, faside, ftext, f0, g0, fnext, ffar, fthen, fqueue, frankAt, fturnAt])) (n2 := n) (st2 := [.int (sgn ftext i1 L)]) rfl rfl rfl rfl ?_
            refine r_bipush (v := nI 48) C dX7_does_61 (by decide) ?_
            refine r_bipush (v := nI 57) C dX7_does_63 (by decide) ?_
            refine r_callS (As := [.int (sgn ftext i1 L), .int (nI 48), .int (nI 57)]) C (c_X7_in (v := sgn ftext i1 L) (low := nI 48) (high := nI 57) ) wM_X7_50 wS_X7_in wN_X7 wC_X7_in hd_X7_in ⟨Nat.le_of_ble_eq_true rfl, Nat.le_of_ble_eq_true rfl⟩ rfl rfl (Nat.le_of_ble_eq_true rfl) dX7_does_65 ⟨Nat.le_of_ble_eq_true rfl, Nat.le_of_ble_eq_true rfl⟩ (fun rv n2 σ2 hp => ?_)
            obtain ⟨rfl, rfl, rfl⟩ := hp
            refine V.eq (σ2 := (mW G σ m0 [xstates, nI L, nI i1, nI rs1, nI d1, k1, n1, r1] [f, fwas, fbegun, faside, ftext, f0, g0, fnext, ffar, fthen, fqueue, frankAt, fturnAt])) (n2 := n) (st2 := [.int (bI (decide ((nI 48) ≤ (sgn ftext i1 L) ∧ (sgn ftext i1 L) ≤ (nI 57))))]) rfl rfl rfl rfl ?_
            refine V.top (y := bI (decide (i1 < L ∧ 48 ≤ t i1 ∧ t i1 ≤ 57))) (congrArg bI (sg_dig htx ht2)) ?_
            refine r_if_eqB (tgt := 119) C dX7_does_68 (by decide) (fun cz68 => ?_) (fun cz68 => ?_)
            · have hd9 := of_decide_eq_false cz68
              refine r_aload_n C dX7_does_119 rfl 0 rfl ?_
              refine r_iconst (v := nI 1) C dX7_does_120 (by decide) ?_
              refine rm_put (S2 := [xstates, nI L, nI i1, nI 1, nI d1, k1, n1, r1]) C 8 (by decide) wF_X7_171 rfl rfl dX7_does_121 ?_
              refine r_iload_n C dX7_does_124 rfl 2 rfl ?_
              refine r_if_eqN (tgt := 137) C dX7_does_125 (by decide) (by omega) (fun cz125 => ?_) (fun cz125 => ?_)
              · refine r_iconst (v := nI 0) C dX7_does_137 (by decide) ?_
                exact r_zret C (by decide) hr hlocks (Nat.le_of_ble_eq_true rfl) (Nat.le_of_ble_eq_true rfl) dX7_does_138 (hpo _ _ _ ⟨false, i1, 1, f, a1, d1, k1, n1, r1, f0, g0, rfl, rfl, rfl, hM1, hA1, hN1, by omega, by first | exact Or.inr ⟨rfl, by decide, by rw [← hrest]; exact prs_e hi1 hd9 (fun z => z.2.2 cz125)⟩ | exact Or.inr ⟨rfl, by decide, by rw [← hrest]; exact prs_e hi1 hd9 (fun z => hs9 ⟨z.1, z.2.1⟩)⟩⟩)
              · refine r_aload_n C dX7_does_128 rfl 0 rfl ?_
                refine r_callV (As := []) C (c_X7_sign (ai := i1) (tn := L) (hL) (by first | assumption | omega)) wM_X7_168 wI_X7_sign wN_X7 wC_X7_sign wV_X7_sign hd_X7_sign ⟨Nat.le_of_ble_eq_true rfl, Nat.le_of_ble_eq_true rfl⟩ rfl (mW_o _ _ _ _ _) rfl rfl (Nat.le_of_ble_eq_true rfl) dX7_does_129 ⟨Nat.le_of_ble_eq_true rfl, Nat.le_of_ble_eq_true rfl⟩ (fun rv n2 σ2 hp => ?_)
                obtain ⟨rfl, rfl, rfl⟩ := hp
                refine V.eq (σ2 := (mW G σ m0 [xstates, nI L, nI i1, nI 1, nI d1, k1, n1, r1] [f, fwas, fbegun, faside, ftext, f0, g0, fnext, ffar, fthen, fqueue, frankAt, fturnAt])) (n2 := n) (st2 := [.int (sgn ftext i1 L)]) rfl rfl rfl rfl ?_
                refine r_bipush (v := nI 59) C dX7_does_132 (by decide) ?_
                refine r_icmp_eq (tgt := 139) C dX7_does_134 (by decide) (fun cz134 => ?_) (fun cz134 => ?_)
                · have hs9 := (sg_semi htx ht2).mp cz134
                  refine r_aload_n C dX7_does_139 rfl 0 rfl ?_
                  refine r_dup C dX7_does_140 rfl ?_
                  refine rm_get (v := .int (nI i1)) C 7 (by decide) wF_X7_165 rfl dX7_does_141 ?_
                  refine r_iconst (v := nI 1) C dX7_does_144 (by decide) ?_
                  refine r_iaddN C dX7_does_145 ?_
                  refine rm_put (S2 := [xstates, nI L, nI (i1 + 1), nI 1, nI d1, k1, n1, r1]) C 7 (by decide) wF_X7_165 rfl rfl dX7_does_146 ?_
                  refine r_iconst (v := nI 1) C dX7_does_149 (by decide) ?_
                  exact r_zret C (by decide) hr hlocks (Nat.le_of_ble_eq_true rfl) (Nat.le_of_ble_eq_true rfl) dX7_does_150 (hpo _ _ _ ⟨true, i1 + 1, 1, f, a1, d1, k1, n1, r1, f0, g0, rfl, rfl, rfl, hM1, hA1, hN1, by omega, Or.inl ⟨rfl, by omega, by omega, by rw [← hrest]; exact (prs_s hs9.1 hs9.2 cz125).symm⟩⟩)
                · have hs9 := fun z => cz134 ((sg_semi htx ht2).mpr z)
                  refine r_iconst (v := nI 0) C dX7_does_137 (by decide) ?_
                  exact r_zret C (by decide) hr hlocks (Nat.le_of_ble_eq_true rfl) (Nat.le_of_ble_eq_true rfl) dX7_does_138 (hpo _ _ _ ⟨false, i1, 1, f, a1, d1, k1, n1, r1, f0, g0, rfl, rfl, rfl, hM1, hA1, hN1, by omega, by first | exact Or.inr ⟨rfl, by decide, by rw [← hrest]; exact prs_e hi1 hd9 (fun z => z.2.2 cz125)⟩ | exact Or.inr ⟨rfl, by decide, by rw [← hrest]; exact prs_e hi1 hd9 (fun z => hs9 ⟨z.1, z.2.1⟩)⟩⟩)
            · have hd9 := of_decide_eq_true cz68
              have hk1 : t i - 65 < aN a1 := by omega
              refine r_aload_n C dX7_does_71 rfl 0 rfl ?_
              refine r_iconst (v := nI 3) C dX7_does_72 (by decide) ?_
              refine rm_put (S2 := [xstates, nI L, nI i1, nI 3, nI d1, k1, n1, r1]) C 8 (by decide) wF_X7_171 rfl rfl dX7_does_73 ?_
              refine r_aload_n C dX7_does_76 rfl 0 rfl ?_
              refine r_iload_n C dX7_does_77 rfl 1 rfl ?_
              refine r_aload_n C dX7_does_78 rfl 0 rfl ?_
              refine r_callV (As := []) C (c_X7_sign (ai := i1) (tn := L) (hL) (by first | assumption | omega)) wM_X7_168 wI_X7_sign wN_X7 wC_X7_sign wV_X7_sign hd_X7_sign ⟨Nat.le_of_ble_eq_true rfl, Nat.le_of_ble_eq_true rfl⟩ rfl (mW_o _ _ _ _ _) rfl rfl (Nat.le_of_ble_eq_true rfl) dX7_does_79 ⟨Nat.le_of_ble_eq_true rfl, Nat.le_of_ble_eq_true rfl⟩ (fun rv n2 σ2 hp => ?_)
              obtain ⟨rfl, rfl, rfl⟩ := hp
              refine V.eq (σ2 := (mW G σ m0 [xstates, nI L, nI i1, nI 3, nI d1, k1, n1, r1] [f, fwas, fbegun, faside, ftext, f0, g0, fnext, ffar, fthen, fqueue, frankAt, fturnAt])) (n2 := n) (st2 := [.int (sgn ftext i1 L), .int (nI (t i - 65)), .ref m0]) rfl rfl rfl rfl ?_
              refine V.top (y := nI (t i1)) (sg_lt htx hd9.1) ?_
              refine r_bipush (v := nI 48) C dX7_does_82 (by decide) ?_
              refine r_isubN C dX7_does_84 (by omega) ?_
              refine r_callV (As := [.int (nI (t i - 65)), .int (nI ((t i1) - 48))]) C (c_X7_turnsOne (k := t i - 65) (kd := aKd a1 (t i - 65)) (N := aCk a1 (t i - 65)) (sr := aSr a1 (t i - 65)) (o := aO a1 (t i - 65)) (sd := aSd a1 (t i - 65)) (h := aH a1) (w := (t i1) - 48) (by omega) ((hM1.2.2.2.2 _ hk1).1) (hA1.2.2 _ hk1) (hM1.2.1) (hA1.2.1) (by omega)) wM_X7_122 wI_X7_turnsOne wN_X7 wC_X7_turnsOne wV_X7_turnsOne hd_X7_turnsOne ⟨Nat.le_of_ble_eq_true rfl, Nat.le_of_ble_eq_true rfl⟩ rfl (mW_o _ _ _ _ _) rfl rfl (Nat.le_of_ble_eq_true rfl) dX7_does_85 ⟨Nat.le_of_ble_eq_true rfl, Nat.le_of_ble_eq_true rfl⟩ (fun rv n2 σ2 hp => ?_)
              obtain ⟨rfl, rfl, f2_1, g2_2, rfl⟩ := hp
              refine V.eq (σ2 := (mW G σ m0 [xstates, nI L, nI i1, nI 3, nI d1, nI (aKd a1 (t i - 65)), nI (aCk a1 (t i - 65)), nI (aSr a1 (t i - 65))] [(ts1 f (t i - 65) (aKd a1 (t i - 65)) (aSr a1 (t i - 65)) (aCk a1 (t i - 65)) (aO a1 (t i - 65)) (aSd a1 (t i - 65)) ((t i1) - 48) (aH a1)), fwas, fbegun, faside, ftext, f2_1, g2_2, fnext, ffar, fthen, fqueue, frankAt, fturnAt])) (n2 := n) (st2 := [.int (tr1 (aKd a1 (t i - 65)) (aSr a1 (t i - 65)) (aCk a1 (t i - 65)) (aO a1 (t i - 65)) (aSd a1 (t i - 65)) ((t i1) - 48))]) rfl rfl rfl rfl ?_
              refine r_if_ge (tgt := 93) C dX7_does_88 (by decide) (fun cz88 => ?_) (fun cz88 => ?_)
              · have hok := tr1_nn cz88
                refine V.hp (σ2 := (mW G σ m0 [xstates, nI L, nI i1, nI 3, nI d1, nI (aKd a1 (t i - 65)), nI (aCk a1 (t i - 65)), nI (aSr a1 (t i - 65))] [(tnM f (t i - 65) (cd (aCk a1 (t i - 65)) (tnO (aCk a1 (t i - 65)) (aO a1 (t i - 65)) (t i1 - 48))) (tnS (sid (aKd a1 (t i - 65))) (aSd a1 (t i - 65)) (t i1 - 48)) (t i1 - 48) (aH a1)), fwas, fbegun, faside, ftext, f2_1, g2_2, fnext, ffar, fthen, fqueue, frankAt, fturnAt])) (by rw [(show (ts1 f (t i - 65) (aKd a1 (t i - 65)) (aSr a1 (t i - 65)) (aCk a1 (t i - 65)) (aO a1 (t i - 65)) (aSd a1 (t i - 65)) (t i1 - 48) (aH a1)) = (tnM f (t i - 65) (cd (aCk a1 (t i - 65)) (tnO (aCk a1 (t i - 65)) (aO a1 (t i - 65)) (t i1 - 48))) (tnS (sid (aKd a1 (t i - 65))) (aSd a1 (t i - 65)) (t i1 - 48)) (t i1 - 48) (aH a1)) from ts1_ok hok)]) ?_
                have hA2 := tnA_ok hA1 hk1 hok
                refine r_iinc (v := nI (dg + 1)) (lv2 := [(2, .int (nI (dg + 1))), (0, .ref m0), (1, .int (nI (t i - 65)))]) C dX7_does_93 (k := 2) rfl (nI_add _ 1) (by decide) rfl ?_
                refine r_aload_n C dX7_does_96 rfl 1 rfl ?_
                refine r_dup C dX7_does_97 rfl ?_
                refine rm_get (v := .int (nI d1)) C 9 (by decide) wF_X7_174 rfl dX7_does_98 ?_
                refine r_iconst (v := nI 1) C dX7_does_101 (by decide) ?_
                refine r_iaddN C dX7_does_102 ?_
                refine rm_put (S2 := [xstates, nI L, nI i1, nI 3, nI (d1 + 1), nI (aKd a1 (t i - 65)), nI (aCk a1 (t i - 65)), nI (aSr a1 (t i - 65))]) C 9 (by decide) wF_X7_174 rfl rfl dX7_does_103 ?_
                refine r_aload_n C dX7_does_106 rfl 1 rfl ?_
                refine r_dup C dX7_does_107 rfl ?_
                refine rm_get (v := .int (nI i1)) C 7 (by decide) wF_X7_165 rfl dX7_does_108 ?_
                refine r_iconst (v := nI 1) C dX7_does_111 (by decide) ?_
                refine r_iaddN C dX7_does_112 ?_
                refine rm_put (S2 := [xstates, nI L, nI (i1 + 1), nI 3, nI (d1 + 1), nI (aKd a1 (t i - 65)), nI (aCk a1 (t i - 65)), nI (aSr a1 (t i - 65))]) C 7 (by decide) wF_X7_165 rfl rfl dX7_does_113 ?_
                refine r_goto (tgt := 57) C dX7_does_116 (by decide) ?_
                refine V.sub (lv2 := [(0, .ref m0), (1, .int (nI (t i - 65))), (2, .int (nI (dg + 1)))]) [1, 2, 0] rfl ?_
                exact ih57 (i1 + 1) (dg + 1) (tnA a1 (t i - 65) (t i1 - 48)) (d1 + 1) (tnM f (t i - 65) (cd (aCk a1 (t i - 65)) (tnO (aCk a1 (t i - 65)) (aO a1 (t i - 65)) (t i1 - 48))) (tnS (sid (aKd a1 (t i - 65))) (aSd a1 (t i - 65)) (t i1 - 48)) (t i1 - 48) (aH a1)) 3 (nI (aKd a1 (t i - 65))) (nI (aCk a1 (t i - 65))) (nI (aSr a1 (t i - 65))) f2_1 g2_2 (by omega) (by omega) (by omega) (by omega) (tnM_MR hM1 hA1 hk1) (hA2) (hN1) (by rw [← hrest]; exact (prs_d hd9.1 hd9.2 hok).symm) (by omega)
              · have hok := tr1_ng hA1 hk1 cz88
                refine V.hp (σ2 := (mW G σ m0 [xstates, nI L, nI i1, nI 3, nI d1, nI (aKd a1 (t i - 65)), nI (aCk a1 (t i - 65)), nI (aSr a1 (t i - 65))] [f, fwas, fbegun, faside, ftext, f2_1, g2_2, fnext, ffar, fthen, fqueue, frankAt, fturnAt])) (by rw [(show (ts1 f (t i - 65) (aKd a1 (t i - 65)) (aSr a1 (t i - 65)) (aCk a1 (t i - 65)) (aO a1 (t i - 65)) (aSd a1 (t i - 65)) (t i1 - 48) (aH a1)) = f from ts1_no hok)]) ?_
                refine r_iconst (v := nI 0) C dX7_does_91 (by decide) ?_
                exact r_zret C (by decide) hr hlocks (Nat.le_of_ble_eq_true rfl) (Nat.le_of_ble_eq_true rfl) dX7_does_92 (hpo _ _ _ ⟨false, i1, 3, f, a1, d1, nI (aKd a1 (t i - 65)), nI (aCk a1 (t i - 65)), nI (aSr a1 (t i - 65)), f2_1, g2_2, rfl, rfl, rfl, hM1, hA1, hN1, by omega, Or.inr ⟨rfl, by decide, by rw [← hrest]; exact prs_d3 hd9.1 hd9.2 hok⟩⟩)
        refine V.sub (lv2 := [(0, .ref m0), (1, .int (nI (t i - 65))), (2, .int (nI 0))]) [1, 2, 0] rfl ?_
        exact L57 _ (i + 1) 0 a dn fs rs0 xkind xn xstrength fsize fburnt (by omega) (by omega) (by omega) (by omega) (hM) (hA) (rfl) (by rw [← htot]; exact (prs_o hiL hl9 hk0).symm) (Nat.lt_succ_self _)
      · have hk0 := of_decide_eq_false cz40
        refine r_iconst (v := nI 0) C dX7_does_43 (by decide) ?_
        exact r_zret C (by decide) hr hlocks (Nat.le_of_ble_eq_true rfl) (Nat.le_of_ble_eq_true rfl) dX7_does_44 (hpo _ _ _ ⟨false, i, rs0, fs, a, dn, xkind, xn, xstrength, fsize, fburnt, rfl, rfl, rfl, hM, hA, rfl, by omega, by first | exact Or.inr ⟨rfl, by rw [hrs0]; split <;> decide, by rw [← htot, prs_o1 hiL hl9, hrs0, if_neg hl9]⟩ | exact Or.inr ⟨rfl, by rw [hrs0]; split <;> decide, by rw [← htot, prs_o2 hiL hl9 hk0, hrs0, if_pos hl9]⟩⟩)
  refine r_if_eqB (tgt := 22) C dX7_does_15 (by decide) (fun cz15 => ?_) (fun cz15 => ?_)
  · refine r_iconst (v := nI 1) C dX7_does_22 (by decide) ?_
    refine V.sub (lv2 := [(0, .ref m0), (1, .int ((nI (t i)) - (nI 65)))]) [1, 0] rfl ?_
    exact L23 1 (by first | (rw [if_pos (of_decide_eq_true cz15)]; done) | (rw [if_neg (of_decide_eq_false cz15)]; done))
  · refine r_iconst (v := nI 2) C dX7_does_18 (by decide) ?_
    refine r_goto (tgt := 23) C dX7_does_19 (by decide) ?_
    refine V.sub (lv2 := [(0, .ref m0), (1, .int ((nI (t i)) - (nI 65)))]) [1, 0] rfl ?_
    exact L23 2 (by first | (rw [if_pos (of_decide_eq_true cz15)]; done) | (rw [if_neg (of_decide_eq_false cz15)]; done))

abbrev rm_X7_reads : Room := { frames := 5, cells := 0, slots := 0, locals := 109 }
set_option maxRecDepth 100000 in
set_option maxHeartbeats 4000000 in
theorem c_X7_reads {l : Launch} {G : gG} {n : Nat} {σ : gS} {m0 : Nat} {xstates xat xreason xdone xkind xn xstrength : Int32} {fs fwas fbegun faside ftext fsize fburnt fnext ffar fthen fqueue frankAt fturnAt : Nat → Int32} {t : Nat → Nat} {L : Nat} {a : AK} (htx : ∀ j, j < L → ftext j = nI (t j)) (ht2 : ∀ j, t j < 128) (hL : L ≤ 50) (hM : MR fs a) (hA : AOK a) : GM l G yX7_reads cX7_reads 1 (some .int) rm_X7_reads n (mW G σ m0 [xstates, nI L, xat, xreason, xdone, xkind, xn, xstrength] [fs, fwas, fbegun, faside, ftext, fsize, fburnt, fnext, ffar, fthen, fqueue, frankAt, fturnAt]) [.ref m0] (fun rv n2 σ2 => ∃ (i2 : Nat) (rs : Nat) (r8 : Int32) (f3 : Nat → Int32) (a3 : AK) (d3 : Nat) (k2 : Int32) (n3 : Int32) (r2 : Int32) (f2 : Nat → Int32) (g2 : Nat → Int32), some (.int (rdA rs i2)) = rv ∧ n = n2 ∧ (mW G σ m0 [xstates, nI L, nI i2, r8, nI d3, k2, n3, r2] [f3, fwas, fbegun, faside, ftext, f2, g2, fnext, ffar, fthen, fqueue, frankAt, fturnAt]) = σ2 ∧ (MR f3 a3) ∧ (AOK a3) ∧ (aN a3 = aN a) ∧ (i2 ≤ L) ∧ (d3 ≤ 50) ∧ (prs t L (L + 1) 0 none 0 a 0 = (i2, rs, a3, d3)) ∧ (rs ≠ 0 → r8 = nI rs)) := by
  refine GM.intro (by decide +kernel) (Nat.le_of_ble_eq_true rfl) (fun p e s m args below meth c C hr hlocks hname po hpo => ?_)
  have C : Cx p s m args c cX7_reads 1 RX7 G := C
  refine r_aload_n C dX7_reads_0 rfl 0 rfl ?_
  refine r_iconst (v := nI 0) C dX7_reads_1 (by decide) ?_
  refine rm_put (S2 := [xstates, nI L, nI 0, xreason, xdone, xkind, xn, xstrength]) C 7 (by decide) wF_X7_165 rfl rfl dX7_reads_2 ?_
  refine r_aload_n C dX7_reads_5 rfl 0 rfl ?_
  refine r_iconst (v := nI 0) C dX7_reads_6 (by decide) ?_
  refine rm_put (S2 := [xstates, nI L, nI 0, xreason, nI 0, xkind, xn, xstrength]) C 9 (by decide) wF_X7_174 rfl rfl dX7_reads_7 ?_
  have L10 : ∀ (fu : Nat) (i1 : Nat) (a1 : AK) (d1 : Nat) (f : Nat → Int32) (r1 : Int32) (k1 : Int32) (n1 : Int32) (q1 : Int32) (f0 : Nat → Int32) (g0 : Nat → Int32), (i1 ≤ L) → (d1 ≤ i1) → (MR f a1) → (AOK a1) → (aN a1 = aN a) → (prs t L (L + 1 - i1) i1 none 0 a1 d1 = prs t L (L + 1) 0 none 0 a 0) → (L + 1 - i1) < fu → V p l e rm_X7_reads s m args below meth c G 1 (MQ below (gQ G po) args s rm_X7_reads.cells rm_X7_reads.slots (gF G)) 0 0 n (mW G σ m0 [xstates, nI L, nI i1, r1, nI d1, k1, n1, q1] [f, fwas, fbegun, faside, ftext, f0, g0, fnext, ffar, fthen, fqueue, frankAt, fturnAt]) 10 [(0, .ref m0)] [] := by
    intro fu
    induction fu with
    | zero => intro i1 a1 d1 f r1 k1 n1 q1 f0 g0 hi1 hd1 hM1 hA1 hN1 hrest hm; exact absurd hm (Nat.not_lt_zero _)
    | succ fu ih10 =>
      intro i1 a1 d1 f r1 k1 n1 q1 f0 g0 hi1 hd1 hM1 hA1 hN1 hrest hm10
      refine r_aload_n C dX7_reads_10 rfl 0 rfl ?_
      refine rm_get (v := .int (nI i1)) C 7 (by decide) wF_X7_165 rfl dX7_reads_11 ?_
      refine r_aload_n C dX7_reads_14 rfl 0 rfl ?_
      refine rm_get (v := .int (nI L)) C 6 (by decide) wF_X7_162 rfl dX7_reads_15 ?_
      refine r_icmp_geN (tgt := 33) C dX7_reads_18 (by decide) (by omega) (by omega) (fun cz18 => ?_) (fun cz18 => ?_)
      · have hiL : i1 = L := by omega
        have he9 : prs t L (L + 1) 0 none 0 a 0 = (L, 0, a1, d1) := by rw [← hrest, hiL]; exact prs_end
        refine r_ldc C wQ_X7_149 dX7_reads_33 ?_
        exact r_iret C hr hlocks (Nat.le_of_ble_eq_true rfl) (Nat.le_of_ble_eq_true rfl) dX7_reads_35 (hpo _ _ _ ⟨i1, 0, r1, f, a1, d1, k1, n1, q1, f0, g0, rfl, rfl, rfl, hM1, hA1, hN1, hi1, by omega, by rw [he9, hiL], fun z => absurd rfl z⟩)
      · refine r_aload_n C dX7_reads_21 rfl 0 rfl ?_
        refine r_callV (As := []) C (c_X7_does (t := t) (L := L) (i := i1) (a := a1) (dn := d1) (tot := prs t L (L + 1) 0 none 0 a 0) (by first | assumption | omega) (by first | assumption | omega) (by first | assumption | omega) (hM1) (hA1) (by first | assumption | omega) (hd1) (hrest)) wM_X7_177 wI_X7_does wN_X7 wC_X7_does wV_X7_does hd_X7_does ⟨Nat.le_of_ble_eq_true rfl, Nat.le_of_ble_eq_true rfl⟩ rfl (mW_o _ _ _ _ _) rfl rfl (Nat.le_of_ble_eq_true rfl) dX7_reads_22 ⟨Nat.le_of_ble_eq_true rfl, Nat.le_of_ble_eq_true rfl⟩ (fun rv n2 σ2 hp => ?_)
        obtain ⟨b9, i9, rs9, f9, a9, d9, k2_1, n3_2, r2_3, f2_4, g2_5, rfl, rfl, rfl, hM9, hA9, hN9, hi9, hor9⟩ := hp
        refine V.eq (σ2 := (mW G σ m0 [xstates, nI L, nI i9, nI rs9, nI d9, k2_1, n3_2, r2_3] [f9, fwas, fbegun, faside, ftext, f2_4, g2_5, fnext, ffar, fthen, fqueue, frankAt, fturnAt])) (n2 := n) (st2 := [.int (bI b9)]) rfl rfl rfl rfl ?_
        refine r_if_neB (tgt := 10) C dX7_reads_25 (by decide) (fun cz25 => ?_) (fun cz25 => ?_)
        · have hw9 := hor9.resolve_right (fun z => absurd (z.1.symm.trans cz25) (by decide))
          exact ih10 i9 a9 d9 f9 (nI rs9) k2_1 n3_2 r2_3 f2_4 g2_5 (hi9) (hw9.2.2.1) (hM9) (hA9) (hN9.trans hN1) (hw9.2.2.2) (by have := hw9.2.1; omega)
        · have hw9 := hor9.resolve_left (fun z => absurd (z.1.symm.trans cz25) (by decide))
          refine r_aload_n C dX7_reads_28 rfl 0 rfl ?_
          refine rm_get (v := .int (nI i9)) C 7 (by decide) wF_X7_165 rfl dX7_reads_29 ?_
          exact r_iret C hr hlocks (Nat.le_of_ble_eq_true rfl) (Nat.le_of_ble_eq_true rfl) dX7_reads_32 (hpo _ _ _ ⟨i9, rs9, nI rs9, f9, a9, d9, k2_1, n3_2, r2_3, f2_4, g2_5, by rw [rdA, if_neg hw9.2.1], rfl, rfl, hM9, hA9, hN9.trans hN1, hi9, prs_dn hL hw9.2.2, hw9.2.2, fun _ => rfl⟩)
  exact L10 _ 0 a 0 fs xreason xkind xn xstrength fsize fburnt (by omega) (by omega) (hM) (hA) (rfl) (rfl) (Nat.lt_succ_self _)

abbrev rm_X7_faulty : Room := { frames := 6, cells := 0, slots := 0, locals := 129 }
set_option maxRecDepth 100000 in
set_option maxHeartbeats 4000000 in
theorem c_X7_faulty {l : Launch} {G : gG} {n : Nat} {σ : gS} {m0 : Nat} {xstates xat xreason xdone xkind xn xstrength : Int32} {fs fwas fbegun faside ftext fsize fburnt fnext ffar fthen fqueue frankAt fturnAt : Nat → Int32} {t : Nat → Nat} {L : Nat} {a : AK} (htx : ∀ j, j < L → ftext j = nI (t j)) (ht2 : ∀ j, t j < 128) (hL : L ≤ 50) (hM : MR fs a) (hA : AOK a) : GM l G yX7_faulty cX7_faulty 3 (some .int) rm_X7_faulty n (mW G σ m0 [xstates, nI L, xat, xreason, xdone, xkind, xn, xstrength] [fs, fwas, fbegun, faside, ftext, fsize, fburnt, fnext, ffar, fthen, fqueue, frankAt, fturnAt]) [.ref m0] (fun rv n2 σ2 => ∃ (i2 : Nat) (rs : Nat) (r8 : Int32) (f3 : Nat → Int32) (x2 : Nat → Int32) (a3 : AK) (d3 : Nat) (k2 : Int32) (n3 : Int32) (r2 : Int32) (f2 : Nat → Int32) (g2 : Nat → Int32), some (.int (rdA rs i2)) = rv ∧ n = n2 ∧ (mW G σ m0 [xstates, nI L, nI i2, r8, nI d3, k2, n3, r2] [f3, fwas, fbegun, x2, ftext, f2, g2, fnext, ffar, fthen, fqueue, frankAt, fturnAt]) = σ2 ∧ (∀ j, j < 38 → f3 j = fs j) ∧ (i2 ≤ L) ∧ (prs t L (L + 1) 0 none 0 a 0 = (i2, rs, a3, d3)) ∧ (rs ≠ 0 → r8 = nI rs)) := by
  refine GM.intro (by decide +kernel) (Nat.le_of_ble_eq_true rfl) (fun p e s m args below meth c C hr hlocks hname po hpo => ?_)
  have C : Cx p s m args c cX7_faulty 3 RX7 G := C
  refine r_iconst (v := nI 0) C dX7_faulty_0 (by decide) ?_
  refine r_istore_n (lv2 := [(1, .int (nI 0)), (0, .ref m0)]) C dX7_faulty_1 rfl (by decide) rfl ?_
  have L2 : ∀ (fu : Nat) (i : Nat) (x1 : Nat → Int32), (i ≤ 38) → (∀ j, j < i → x1 j = fs j) → (39 - i) < fu → V p l e rm_X7_faulty s m args below meth c G 3 (MQ below (gQ G po) args s rm_X7_faulty.cells rm_X7_faulty.slots (gF G)) 0 0 n (mW G σ m0 [xstates, nI L, xat, xreason, xdone, xkind, xn, xstrength] [fs, fwas, fbegun, x1, ftext, fsize, fburnt, fnext, ffar, fthen, fqueue, frankAt, fturnAt]) 2 [(0, .ref m0), (1, .int (nI i))] [] := by
    intro fu
    induction fu with
    | zero => intro i x1 hi hx1 hm; exact absurd hm (Nat.not_lt_zero _)
    | succ fu ih2 =>
      intro i x1 hi hx1 hm2
      refine r_iload_n C dX7_faulty_2 rfl 1 rfl ?_
      refine r_bipush (v := nI 38) C dX7_faulty_3 (by decide) ?_
      refine r_icmp_geN (tgt := 26) C dX7_faulty_5 (by decide) (by omega) (by decide) (fun cz5 => ?_) (fun cz5 => ?_)
      · refine r_aload_n C dX7_faulty_26 rfl 0 rfl ?_
        refine r_callV (As := []) C (c_X7_reads (t := t) (L := L) (a := a) (by first | assumption | omega) (by first | assumption | omega) (by first | assumption | omega) (hM) (hA)) wM_X7_180 wI_X7_reads wN_X7 wC_X7_reads wV_X7_reads hd_X7_reads ⟨Nat.le_of_ble_eq_true rfl, Nat.le_of_ble_eq_true rfl⟩ rfl (mW_o _ _ _ _ _) rfl rfl (Nat.le_of_ble_eq_true rfl) dX7_faulty_27 ⟨Nat.le_of_ble_eq_true rfl, Nat.le_of_ble_eq_true rfl⟩ (fun rv n2 σ2 hp => ?_)
        obtain ⟨i9, rs9, r9, f9, a9, d9, k2_1, n3_2, r2_3, f2_4, g2_5, rfl, rfl, rfl, hM9, hA9, hN9, hi9, hd9, hp9, hr9⟩ := hp
        refine V.eq (σ2 := (mW G σ m0 [xstates, nI L, nI i9, r9, nI d9, k2_1, n3_2, r2_3] [f9, fwas, fbegun, x1, ftext, f2_4, g2_5, fnext, ffar, fthen, fqueue, frankAt, fturnAt])) (n2 := n) (st2 := [.int (rdA rs9 i9)]) rfl rfl rfl rfl ?_
        refine r_istore_n (lv2 := [(1, .int (rdA rs9 i9)), (0, .ref m0)]) C dX7_faulty_30 rfl (by decide) rfl ?_
        refine r_iconst (v := nI 0) C dX7_faulty_31 (by decide) ?_
        refine r_istore_n (lv2 := [(2, .int (nI 0)), (1, .int (rdA rs9 i9)), (0, .ref m0)]) C dX7_faulty_32 rfl (by decide) rfl ?_
        have L33 : ∀ (fu : Nat) (i4 : Nat) (f4 : Nat → Int32), (i4 ≤ 38) → (∀ j, j < i4 → f4 j = fs j) → (39 - i4) < fu → V p l e rm_X7_faulty s m args below meth c G 3 (MQ below (gQ G po) args s rm_X7_faulty.cells rm_X7_faulty.slots (gF G)) 0 0 n (mW G σ m0 [xstates, nI L, nI i9, r9, nI d9, k2_1, n3_2, r2_3] [f4, fwas, fbegun, x1, ftext, f2_4, g2_5, fnext, ffar, fthen, fqueue, frankAt, fturnAt]) 33 [(0, .ref m0), (1, .int (rdA rs9 i9)), (2, .int (nI i4))] [] := by
          intro fu
          induction fu with
          | zero => intro i4 f4 hi4 hf4 hm; exact absurd hm (Nat.not_lt_zero _)
          | succ fu ih33 =>
            intro i4 f4 hi4 hf4 hm33
            refine r_iload_n C dX7_faulty_33 rfl 2 rfl ?_
            refine r_bipush (v := nI 38) C dX7_faulty_34 (by decide) ?_
            refine r_icmp_geN (tgt := 57) C dX7_faulty_36 (by decide) (by omega) (by decide) (fun cz36 => ?_) (fun cz36 => ?_)
            · refine r_iload_n C dX7_faulty_57 rfl 1 rfl ?_
              exact r_iret C hr hlocks (Nat.le_of_ble_eq_true rfl) (Nat.le_of_ble_eq_true rfl) dX7_faulty_58 (hpo _ _ _ ⟨i9, rs9, r9, f4, x1, a9, d9, k2_1, n3_2, r2_3, f2_4, g2_5, rfl, rfl, rfl, fun j hj => hf4 j (by omega), hi9, hp9, hr9⟩)
            · refine r_aload_n C dX7_faulty_39 rfl 0 rfl ?_
              refine rm_get (v := .ref (m0 + 1)) C 0 (by decide) wF_X7_7 rfl dX7_faulty_40 ?_
              refine r_iload_n C dX7_faulty_43 rfl 2 rfl ?_
              refine r_aload_n C dX7_faulty_44 rfl 0 rfl ?_
              refine rm_get (v := .ref (m0 + 4)) C 3 (by decide) wF_X7_19 rfl dX7_faulty_45 ?_
              refine r_iload_n C dX7_faulty_48 rfl 2 rfl ?_
              refine rm_ald (f := x1) (len := 38) C 3 rfl rfl (by decide) (by omega) dX7_faulty_49 ?_
              refine rm_ast (f := f4) (len := 38) (A2 := [(upd f4 i4 (x1 i4)), fwas, fbegun, x1, ftext, f2_4, g2_5, fnext, ffar, fthen, fqueue, frankAt, fturnAt]) C 0 rfl rfl (by decide) (by omega) rfl rfl dX7_faulty_50 ?_
              refine r_iinc (v := nI (i4 + 1)) (lv2 := [(2, .int (nI (i4 + 1))), (0, .ref m0), (1, .int (rdA rs9 i9))]) C dX7_faulty_51 (k := 2) rfl (nI_add _ 1) (by decide) rfl ?_
              refine r_goto (tgt := 33) C dX7_faulty_54 (by decide) ?_
              refine V.sub (lv2 := [(0, .ref m0), (1, .int (rdA rs9 i9)), (2, .int (nI (i4 + 1)))]) [1, 2, 0] rfl ?_
              exact ih33 (i4 + 1) (upd f4 i4 (x1 i4)) (by omega) (fun j hj => upd_step hj hf4 (hx1 _ (by omega))) (by omega)
        refine V.sub (lv2 := [(0, .ref m0), (1, .int (rdA rs9 i9)), (2, .int (nI 0))]) [2, 1, 0] rfl ?_
        exact L33 _ 0 f9 (by omega) (fun j hj => absurd hj (Nat.not_lt_zero j)) (Nat.lt_succ_self _)
      · refine r_aload_n C dX7_faulty_8 rfl 0 rfl ?_
        refine rm_get (v := .ref (m0 + 4)) C 3 (by decide) wF_X7_19 rfl dX7_faulty_9 ?_
        refine r_iload_n C dX7_faulty_12 rfl 1 rfl ?_
        refine r_aload_n C dX7_faulty_13 rfl 0 rfl ?_
        refine rm_get (v := .ref (m0 + 1)) C 0 (by decide) wF_X7_7 rfl dX7_faulty_14 ?_
        refine r_iload_n C dX7_faulty_17 rfl 1 rfl ?_
        refine rm_ald (f := fs) (len := 38) C 0 rfl rfl (by decide) (by omega) dX7_faulty_18 ?_
        refine rm_ast (f := x1) (len := 38) (A2 := [fs, fwas, fbegun, (upd x1 i (fs i)), ftext, fsize, fburnt, fnext, ffar, fthen, fqueue, frankAt, fturnAt]) C 3 rfl rfl (by decide) (by omega) rfl rfl dX7_faulty_19 ?_
        refine r_iinc (v := nI (i + 1)) (lv2 := [(1, .int (nI (i + 1))), (0, .ref m0)]) C dX7_faulty_20 (k := 1) rfl (nI_add _ 1) (by decide) rfl ?_
        refine r_goto (tgt := 2) C dX7_faulty_23 (by decide) ?_
        refine V.sub (lv2 := [(0, .ref m0), (1, .int (nI (i + 1)))]) [1, 0] rfl ?_
        exact ih2 (i + 1) (upd x1 i (fs i)) (by omega) (fun j hj => upd_step hj hx1 rfl) (by omega)
  refine V.sub (lv2 := [(0, .ref m0), (1, .int (nI 0))]) [1, 0] rfl ?_
  exact L2 _ 0 faside (by omega) (fun j hj => absurd hj (Nat.not_lt_zero j)) (Nat.lt_succ_self _)

abbrev rm_X7_fault_x : Room := { frames := 1, cells := 0, slots := 0, locals := 22 }
set_option maxRecDepth 100000 in
set_option maxHeartbeats 4000000 in
theorem c_X7_fault_x {l : Launch} {G : gG} {n : Nat} {σ : gS} {m0 : Nat} {xstates xtyped xat xreason xdone xkind xn xstrength : Int32} {fs fwas fbegun faside ftext fsize fburnt fnext ffar fthen fqueue frankAt fturnAt : Nat → Int32} {x : Int32} (hbad : decide (nI 0 ≤ x ∧ x ≤ nI 1) = false) : GM l G yX7_fault cX7_fault 3 (some .int) rm_X7_fault_x n (mW G σ m0 [xstates, xtyped, xat, xreason, xdone, xkind, xn, xstrength] [fs, fwas, fbegun, faside, ftext, fsize, fburnt, fnext, ffar, fthen, fqueue, frankAt, fturnAt]) [.ref m0, .int x] (fun rv n2 σ2 => some (.int (-1000001)) = rv ∧ n = n2 ∧ (mW G σ m0 [xstates, xtyped, xat, xreason, xdone, xkind, xn, xstrength] [fs, fwas, fbegun, faside, ftext, fsize, fburnt, fnext, ffar, fthen, fqueue, frankAt, fturnAt]) = σ2) := by
  refine GM.intro (by decide +kernel) (Nat.le_of_ble_eq_true rfl) (fun p e s m args below meth c C hr hlocks hname po hpo => ?_)
  have C : Cx p s m args c cX7_fault 3 RX7 G := C
  refine r_iload_n C dX7_fault_0 rfl 1 rfl ?_
  refine r_iconst (v := nI 0) C dX7_fault_1 (by decide) ?_
  refine r_iconst (v := nI 1) C dX7_fault_2 (by decide) ?_
  refine r_callS (As := [.int x, .int (nI 0), .int (nI 1)]) C (c_X7_in (v := x) (low := nI 0) (high := nI 1) ) wM_X7_50 wS_X7_in wN_X7 wC_X7_in hd_X7_in ⟨Nat.le_of_ble_eq_true rfl, Nat.le_of_ble_eq_true rfl⟩ rfl rfl (Nat.le_of_ble_eq_true rfl) dX7_fault_3 ⟨Nat.le_of_ble_eq_true rfl, Nat.le_of_ble_eq_true rfl⟩ (fun rv n2 σ2 hp => ?_)
  obtain ⟨rfl, rfl, rfl⟩ := hp
  refine V.eq (σ2 := (mW G σ m0 [xstates, xtyped, xat, xreason, xdone, xkind, xn, xstrength] [fs, fwas, fbegun, faside, ftext, fsize, fburnt, fnext, ffar, fthen, fqueue, frankAt, fturnAt])) (n2 := n) (st2 := [.int (bI (decide ((nI 0) ≤ x ∧ x ≤ (nI 1))))]) rfl rfl rfl rfl ?_
  refine V.top (y := bI false) (congrArg bI (hbad)) ?_
  refine r_if_neB (tgt := 12) C dX7_fault_6 (by decide) (fun z => absurd z (by decide)) (fun _ => ?_)
  refine r_ldc C wQ_X7_54 dX7_fault_9 ?_
  exact r_iret C hr hlocks (Nat.le_of_ble_eq_true rfl) (Nat.le_of_ble_eq_true rfl) dX7_fault_11 (hpo _ _ _ ⟨rfl, rfl, rfl⟩)

abbrev rm_X7_fault_y : Room := { frames := 7, cells := 0, slots := 0, locals := 151 }
set_option maxRecDepth 100000 in
set_option maxHeartbeats 4000000 in
theorem c_X7_fault_y {l : Launch} {G : gG} {n : Nat} {σ : gS} {m0 : Nat} {xstates xat xreason xdone xkind xn xstrength : Int32} {fs fwas fbegun faside ftext fsize fburnt fnext ffar fthen fqueue frankAt fturnAt : Nat → Int32} {t : Nat → Nat} {L : Nat} {a : AK} {w : Nat} (htx : ∀ j, j < L → ftext j = nI (t j)) (ht2 : ∀ j, t j < 128) (hL : L ≤ 50) (hM : MR fs a) (hA : AOK a) (hw : w ≤ 1) : GM l G yX7_fault cX7_fault 3 (some .int) rm_X7_fault_y n (mW G σ m0 [xstates, nI L, xat, xreason, xdone, xkind, xn, xstrength] [fs, fwas, fbegun, faside, ftext, fsize, fburnt, fnext, ffar, fthen, fqueue, frankAt, fturnAt]) [.ref m0, .int (nI w)] (fun rv n2 σ2 => some (.int (ftA (prs t L (L + 1) 0 none 0 a 0) w)) = rv ∧ n = n2 ∧ ∃ (i2 : Int32) (r8 : Int32) (f3 : Nat → Int32) (x2 : Nat → Int32) (d3 : Int32) (k2 : Int32) (n3 : Int32) (r2 : Int32) (f2 : Nat → Int32) (g2 : Nat → Int32), (mW G σ m0 [xstates, nI L, i2, r8, d3, k2, n3, r2] [f3, fwas, fbegun, x2, ftext, f2, g2, fnext, ffar, fthen, fqueue, frankAt, fturnAt]) = σ2 ∧ (∀ j, j < 38 → f3 j = fs j)) := by
  refine GM.intro (by decide +kernel) (Nat.le_of_ble_eq_true rfl) (fun p e s m args below meth c C hr hlocks hname po hpo => ?_)
  have C : Cx p s m args c cX7_fault 3 RX7 G := C
  refine r_iload_n C dX7_fault_0 rfl 1 rfl ?_
  refine r_iconst (v := nI 0) C dX7_fault_1 (by decide) ?_
  refine r_iconst (v := nI 1) C dX7_fault_2 (by decide) ?_
  refine r_callS (As := [.int (nI w), .int (nI 0), .int (nI 1)]) C (c_X7_in (v := nI w) (low := nI 0) (high := nI 1) ) wM_X7_50 wS_X7_in wN_X7 wC_X7_in hd_X7_in ⟨Nat.le_of_ble_eq_true rfl, Nat.le_of_ble_eq_true rfl⟩ rfl rfl (Nat.le_of_ble_eq_true rfl) dX7_fault_3 ⟨Nat.le_of_ble_eq_true rfl, Nat.le_of_ble_eq_true rfl⟩ (fun rv n2 σ2 hp => ?_)
  obtain ⟨rfl, rfl, rfl⟩ := hp
  refine V.eq (σ2 := (mW G σ m0 [xstates, nI L, xat, xreason, xdone, xkind, xn, xstrength] [fs, fwas, fbegun, faside, ftext, fsize, fburnt, fnext, ffar, fthen, fqueue, frankAt, fturnAt])) (n2 := n) (st2 := [.int (bI (decide ((nI 0) ≤ (nI w) ∧ (nI w) ≤ (nI 1))))]) rfl rfl rfl rfl ?_
  refine V.top (y := bI true) (congrArg bI (in_N (by omega) (by omega) (by omega))) ?_
  refine r_if_neB (tgt := 12) C dX7_fault_6 (by decide) (fun _ => ?_) (fun z => absurd z (by decide))
  refine r_aload_n C dX7_fault_12 rfl 0 rfl ?_
  refine r_callV (As := []) C (c_X7_faulty (t := t) (L := L) (a := a) (by first | assumption | omega) (by first | assumption | omega) (by first | assumption | omega) (hM) (hA)) wM_X7_183 wI_X7_faulty wN_X7 wC_X7_faulty wV_X7_faulty hd_X7_faulty ⟨Nat.le_of_ble_eq_true rfl, Nat.le_of_ble_eq_true rfl⟩ rfl (mW_o _ _ _ _ _) rfl rfl (Nat.le_of_ble_eq_true rfl) dX7_fault_13 ⟨Nat.le_of_ble_eq_true rfl, Nat.le_of_ble_eq_true rfl⟩ (fun rv n2 σ2 hp => ?_)
  obtain ⟨i9, rs9, r9, f9, x9, a9, d9, k2_1, n3_2, r2_3, f2_4, g2_5, rfl, rfl, rfl, hf9, hi9, hp9, hr9⟩ := hp
  refine V.eq (σ2 := (mW G σ m0 [xstates, nI L, nI i9, r9, nI d9, k2_1, n3_2, r2_3] [f9, fwas, fbegun, x9, ftext, f2_4, g2_5, fnext, ffar, fthen, fqueue, frankAt, fturnAt])) (n2 := n) (st2 := [.int (rdA rs9 i9)]) rfl rfl rfl rfl ?_
  refine r_istore_n (lv2 := [(2, .int (rdA rs9 i9)), (0, .ref m0), (1, .int (nI w))]) C dX7_fault_16 rfl (by decide) rfl ?_
  refine r_iload_n C dX7_fault_17 rfl 0 rfl ?_
  refine r_ldc C wQ_X7_149 dX7_fault_18 ?_
  refine r_icmp_eq (tgt := 27) C dX7_fault_20 (by decide) (fun cz20 => ?_) (fun cz20 => ?_)
  · refine r_iload_n C dX7_fault_27 rfl 0 rfl ?_
    refine r_goto (tgt := 35) C dX7_fault_28 (by decide) ?_
    exact r_iret C hr hlocks (Nat.le_of_ble_eq_true rfl) (Nat.le_of_ble_eq_true rfl) dX7_fault_35 (hpo _ _ _ ⟨by rw [hp9]; first | (exact fta_1 (by omega) cz20) | (exact fta_2 cz24) | (exact fta_3 (by omega) cz20 (by omega) hr9), rfl, nI i9, r9, f9, x9, nI d9, k2_1, n3_2, r2_3, f2_4, g2_5, rfl, hf9⟩)
  · refine r_iload_n C dX7_fault_23 rfl 2 rfl ?_
    refine r_if_neN (tgt := 31) C dX7_fault_24 (by decide) (by omega) (fun cz24 => ?_) (fun cz24 => ?_)
    · refine r_aload_n C dX7_fault_31 rfl 1 rfl ?_
      refine rm_get (v := .int r9) C 8 (by decide) wF_X7_171 rfl dX7_fault_32 ?_
      exact r_iret C hr hlocks (Nat.le_of_ble_eq_true rfl) (Nat.le_of_ble_eq_true rfl) dX7_fault_35 (hpo _ _ _ ⟨by rw [hp9]; first | (exact fta_1 (by omega) cz20) | (exact fta_2 cz24) | (exact fta_3 (by omega) cz20 (by omega) hr9), rfl, nI i9, r9, f9, x9, nI d9, k2_1, n3_2, r2_3, f2_4, g2_5, rfl, hf9⟩)
    · refine r_iload_n C dX7_fault_27 rfl 0 rfl ?_
      refine r_goto (tgt := 35) C dX7_fault_28 (by decide) ?_
      exact r_iret C hr hlocks (Nat.le_of_ble_eq_true rfl) (Nat.le_of_ble_eq_true rfl) dX7_fault_35 (hpo _ _ _ ⟨by rw [hp9]; first | (exact fta_1 (by omega) cz20) | (exact fta_2 cz24) | (exact fta_3 (by omega) cz20 (by omega) hr9), rfl, nI i9, r9, f9, x9, nI d9, k2_1, n3_2, r2_3, f2_4, g2_5, rfl, hf9⟩)

abbrev rm_X7_play_n : Room := { frames := 7, cells := 0, slots := 0, locals := 151 }
set_option maxRecDepth 100000 in
set_option maxHeartbeats 4000000 in
theorem c_X7_play_n {l : Launch} {G : gG} {n : Nat} {σ : gS} {m0 : Nat} {xstates xat xreason xdone xkind xn xstrength : Int32} {fs fwas fbegun faside ftext fsize fburnt fnext ffar fthen fqueue frankAt fturnAt : Nat → Int32} {t : Nat → Nat} {L : Nat} {a : AK} (htx : ∀ j, j < L → ftext j = nI (t j)) (ht2 : ∀ j, t j < 128) (hL : L ≤ 50) (hM : MR fs a) (hA : AOK a) (hbad : (prs t L (L + 1) 0 none 0 a 0).2.1 ≠ 0) : GM l G yX7_play cX7_play 1 (some .int) rm_X7_play_n n (mW G σ m0 [xstates, nI L, xat, xreason, xdone, xkind, xn, xstrength] [fs, fwas, fbegun, faside, ftext, fsize, fburnt, fnext, ffar, fthen, fqueue, frankAt, fturnAt]) [.ref m0] (fun rv n2 σ2 => some (.int (-1000002)) = rv ∧ n = n2 ∧ ∃ (i2 : Int32) (r8 : Int32) (f3 : Nat → Int32) (x2 : Nat → Int32) (d3 : Int32) (k2 : Int32) (n3 : Int32) (r2 : Int32) (f2 : Nat → Int32) (g2 : Nat → Int32), (mW G σ m0 [xstates, nI L, i2, r8, d3, k2, n3, r2] [f3, fwas, fbegun, x2, ftext, f2, g2, fnext, ffar, fthen, fqueue, frankAt, fturnAt]) = σ2 ∧ (∀ j, j < 38 → f3 j = fs j)) := by
  refine GM.intro (by decide +kernel) (Nat.le_of_ble_eq_true rfl) (fun p e s m args below meth c C hr hlocks hname po hpo => ?_)
  have C : Cx p s m args c cX7_play 1 RX7 G := C
  refine r_aload_n C dX7_play_0 rfl 0 rfl ?_
  refine r_callV (As := []) C (c_X7_faulty (t := t) (L := L) (a := a) (by first | assumption | omega) (by first | assumption | omega) (by first | assumption | omega) (hM) (hA)) wM_X7_183 wI_X7_faulty wN_X7 wC_X7_faulty wV_X7_faulty hd_X7_faulty ⟨Nat.le_of_ble_eq_true rfl, Nat.le_of_ble_eq_true rfl⟩ rfl (mW_o _ _ _ _ _) rfl rfl (Nat.le_of_ble_eq_true rfl) dX7_play_1 ⟨Nat.le_of_ble_eq_true rfl, Nat.le_of_ble_eq_true rfl⟩ (fun rv n2 σ2 hp => ?_)
  obtain ⟨i9, rs9, r9, f9, x9, a9, d9, k2_1, n3_2, r2_3, f2_4, g2_5, rfl, rfl, rfl, hf9, hi9, hp9, hr9⟩ := hp
  refine V.eq (σ2 := (mW G σ m0 [xstates, nI L, nI i9, r9, nI d9, k2_1, n3_2, r2_3] [f9, fwas, fbegun, x9, ftext, f2_4, g2_5, fnext, ffar, fthen, fqueue, frankAt, fturnAt])) (n2 := n) (st2 := [.int (rdA rs9 i9)]) rfl rfl rfl rfl ?_
  refine r_ldc C wQ_X7_149 dX7_play_4 ?_
  refine r_icmp_eq (tgt := 12) C dX7_play_6 (by decide) (fun cz6 => ?_) (fun cz6 => ?_)
  · exact absurd cz6 (rd_ne (by omega) (by rw [hp9] at hbad; exact hbad))
  · refine r_ldc C wQ_X7_115 dX7_play_9 ?_
    exact r_iret C hr hlocks (Nat.le_of_ble_eq_true rfl) (Nat.le_of_ble_eq_true rfl) dX7_play_11 (hpo _ _ _ ⟨rfl, rfl, nI i9, r9, f9, x9, nI d9, k2_1, n3_2, r2_3, f2_4, g2_5, rfl, hf9⟩)

abbrev rm_X7_play_y : Room := { frames := 7, cells := 0, slots := 0, locals := 151 }
set_option maxRecDepth 100000 in
set_option maxHeartbeats 4000000 in
theorem c_X7_play_y {l : Launch} {G : gG} {n : Nat} {σ : gS} {m0 : Nat} {xat xreason xdone xkind xn xstrength : Int32} {fs fwas fbegun faside ftext fsize fburnt fnext ffar fthen fqueue frankAt fturnAt : Nat → Int32} {t : Nat → Nat} {L : Nat} {a : AK} {sc dq eq : Nat} {bq : AK} (htx : ∀ j, j < L → ftext j = nI (t j)) (ht2 : ∀ j, t j < 128) (hL : L ≤ 50) (hM : MR fs a) (hA : AOK a) (hsc : sc ≤ 4) (hgood : prs t L (L + 1) 0 none 0 a 0 = (eq, 0, bq, dq)) : GM l G yX7_play cX7_play 1 (some .int) rm_X7_play_y n (mW G σ m0 [nI sc, nI L, xat, xreason, xdone, xkind, xn, xstrength] [fs, fwas, fbegun, faside, ftext, fsize, fburnt, fnext, ffar, fthen, fqueue, frankAt, fturnAt]) [.ref m0] (fun rv n2 σ2 => some (.int (nI dq)) = rv ∧ n = n2 ∧ ∃ (i2 : Int32) (r8 : Int32) (f3 : Nat → Int32) (x2 : Nat → Int32) (d3 : Int32) (k2 : Int32) (n3 : Int32) (r2 : Int32) (f2 : Nat → Int32) (g2 : Nat → Int32) (w2 : Nat → Int32) (s2 : Nat) (b2 : Nat → Int32), (mW G σ m0 [nI (s2 + 1), nI L, i2, r8, d3, k2, n3, r2] [f3, w2, b2, x2, ftext, f2, g2, fnext, ffar, fthen, fqueue, frankAt, fturnAt]) = σ2 ∧ (MR f3 bq) ∧ (s2 ≤ 3) ∧ (∀ j, j < 38 → w2 (38 * s2 + j) = fs j) ∧ ((sc < 4 ∧ s2 = sc ∧ ∀ j, j < 38 * s2 → w2 j = fwas j) ∨ (sc = 4 ∧ s2 = 3 ∧ ∀ j, j < 114 → w2 j = fwas (j + 38)))) := by
  refine GM.intro (by decide +kernel) (Nat.le_of_ble_eq_true rfl) (fun p e s m args below meth c C hr hlocks hname po hpo => ?_)
  have C : Cx p s m args c cX7_play 1 RX7 G := C
  refine r_aload_n C dX7_play_0 rfl 0 rfl ?_
  refine r_callV (As := []) C (c_X7_faulty (t := t) (L := L) (a := a) (by first | assumption | omega) (by first | assumption | omega) (by first | assumption | omega) (hM) (hA)) wM_X7_183 wI_X7_faulty wN_X7 wC_X7_faulty wV_X7_faulty hd_X7_faulty ⟨Nat.le_of_ble_eq_true rfl, Nat.le_of_ble_eq_true rfl⟩ rfl (mW_o _ _ _ _ _) rfl rfl (Nat.le_of_ble_eq_true rfl) dX7_play_1 ⟨Nat.le_of_ble_eq_true rfl, Nat.le_of_ble_eq_true rfl⟩ (fun rv n2 σ2 hp => ?_)
  obtain ⟨i9, rs9, r9, f9, x9, a9, d9, k2_1, n3_2, r2_3, f2_4, g2_5, rfl, rfl, rfl, hf9, hi9, hp9, hr9⟩ := hp
  refine V.eq (σ2 := (mW G σ m0 [nI sc, nI L, nI i9, r9, nI d9, k2_1, n3_2, r2_3] [f9, fwas, fbegun, x9, ftext, f2_4, g2_5, fnext, ffar, fthen, fqueue, frankAt, fturnAt])) (n2 := n) (st2 := [.int (rdA rs9 i9)]) rfl rfl rfl rfl ?_
  refine r_ldc C wQ_X7_149 dX7_play_4 ?_
  refine r_icmp_eq (tgt := 12) C dX7_play_6 (by decide) (fun cz6 => ?_) (fun cz6 => ?_)
  · refine r_aload_n C dX7_play_12 rfl 0 rfl ?_
    refine r_callV (As := []) C (c_X7_keeps  ) wM_X7_92 wI_X7_keeps wN_X7 wC_X7_keeps wV_X7_keeps hd_X7_keeps ⟨Nat.le_of_ble_eq_true rfl, Nat.le_of_ble_eq_true rfl⟩ rfl (mW_o _ _ _ _ _) rfl rfl (Nat.le_of_ble_eq_true rfl) dX7_play_13 ⟨Nat.le_of_ble_eq_true rfl, Nat.le_of_ble_eq_true rfl⟩ (fun rv n2 σ2 hp => ?_)
    obtain ⟨rfl, rfl, gK, rfl, hbK⟩ := hp
    refine V.eq (σ2 := (mW G σ m0 [nI sc, nI L, nI i9, r9, nI d9, k2_1, n3_2, r2_3] [f9, fwas, gK, x9, ftext, f2_4, g2_5, fnext, ffar, fthen, fqueue, frankAt, fturnAt])) (n2 := n) (st2 := []) rfl rfl rfl rfl ?_
    have hMf := hM.congr hA.1 hf9
    refine r_aload_n C dX7_play_16 rfl 0 rfl ?_
    refine r_callV (As := []) C (c_X7_reads (t := t) (L := L) (a := a) (by first | assumption | omega) (by first | assumption | omega) (by first | assumption | omega) (hMf) (hA)) wM_X7_180 wI_X7_reads wN_X7 wC_X7_reads wV_X7_reads hd_X7_reads ⟨Nat.le_of_ble_eq_true rfl, Nat.le_of_ble_eq_true rfl⟩ rfl (mW_o _ _ _ _ _) rfl rfl (Nat.le_of_ble_eq_true rfl) dX7_play_17 ⟨Nat.le_of_ble_eq_true rfl, Nat.le_of_ble_eq_true rfl⟩ (fun rv n2 σ2 hp => ?_)
    obtain ⟨i5, rs5, r5, f5, a5, d5, k2_6, n3_7, r2_8, f2_9, g2_10, rfl, rfl, rfl, hM5, hA5, hN5, hi5, hd5, hp5, hr5⟩ := hp
    refine V.eq (σ2 := (mW G σ m0 [nI sc, nI L, nI i5, r5, nI d5, k2_6, n3_7, r2_8] [f5, fwas, gK, x9, ftext, f2_9, g2_10, fnext, ffar, fthen, fqueue, frankAt, fturnAt])) (n2 := n) (st2 := [.int (rdA rs5 i5)]) rfl rfl rfl rfl ?_
    refine r_pop C dX7_play_20 rfl ?_
    have he5 := hp5.symm.trans hgood
    have he1 : d5 = dq := congrArg (fun z => z.2.2.2) he5
    have he3 : a5 = bq := congrArg (fun z => z.2.2.1) he5
    refine r_aload_n C dX7_play_21 rfl 0 rfl ?_
    refine r_aload_n C dX7_play_22 rfl 0 rfl ?_
    refine rm_get (v := .int (nI d5)) C 9 (by decide) wF_X7_174 rfl dX7_play_23 ?_
    refine r_callV (As := [.int (nI d5)]) C (c_X7_acted_y (v := d5) (sc := sc) (by first | assumption | omega) (by first | assumption | omega)) wM_X7_95 wI_X7_acted wN_X7 wC_X7_acted wV_X7_acted hd_X7_acted ⟨Nat.le_of_ble_eq_true rfl, Nat.le_of_ble_eq_true rfl⟩ rfl (mW_o _ _ _ _ _) rfl rfl (Nat.le_of_ble_eq_true rfl) dX7_play_26 ⟨Nat.le_of_ble_eq_true rfl, Nat.le_of_ble_eq_true rfl⟩ (fun rv n2 σ2 hp => ?_)
    obtain ⟨rfl, rfl, wA, sA, rfl, hA1, hA2, hA3⟩ := hp
    refine V.eq (σ2 := (mW G σ m0 [nI (sA + 1), nI L, nI i5, r5, nI d5, k2_6, n3_7, r2_8] [f5, wA, gK, x9, ftext, f2_9, g2_10, fnext, ffar, fthen, fqueue, frankAt, fturnAt])) (n2 := n) (st2 := [.int (nI d5)]) rfl rfl rfl rfl ?_
    exact r_iret C hr hlocks (Nat.le_of_ble_eq_true rfl) (Nat.le_of_ble_eq_true rfl) dX7_play_29 (hpo _ _ _ ⟨by rw [he1], rfl, nI i5, r5, f5, x9, nI d5, k2_6, n3_7, r2_8, f2_9, g2_10, wA, sA, gK, rfl, he3 ▸ hM5, hA1, fun j hj => ((hA2 j hj).trans (hbK j hj)).trans (hf9 j hj), hA3⟩)
  · exact absurd (rd_eq (by rw [hgood] at hp9; exact (congrArg (fun z => z.2.1) hp9).symm)) cz6
