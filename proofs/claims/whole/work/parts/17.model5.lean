theorem p10_le {i : Nat} (h : i ≤ 8) : 10 ^ i ≤ 100000000 := Nat.pow_le_pow_right (n := 10) (by decide) h
theorem p10_d {j : Nat} (h : 1 ≤ j) : 10 ^ j / 10 = 10 ^ (j - 1) := by
  obtain ⟨z, rfl⟩ : ∃ z, j = z + 1 := ⟨j - 1, by omega⟩
  rw [Nat.pow_succ, Nat.mul_div_cancel _ (by decide), Nat.add_sub_cancel]
theorem p10_pos {j : Nat} (h : 0 < 10 ^ j / 10) : 1 ≤ j := by
  cases j with
  | zero => exact absurd h (by decide)
  | succ z => omega
theorem p10_zero {j : Nat} (h : 10 ^ j / 10 = 0) : j = 0 := by
  cases j with
  | zero => rfl
  | succ z =>
    rw [p10_d (by omega), Nat.add_sub_cancel] at h
    have := Nat.pos_of_ne_zero (n := 10 ^ z) (by simp)
    omega
theorem dg_lt {i D row : Nat} (hi : i ≤ D - 1) (hD : 1 ≤ D ∧ D ≤ 8 ∧ 10 ^ (D - 1) ≤ row ∧ row < 10 ^ D) (h : 9 < row / 10 ^ i) : i < D - 1 := by
  rcases Nat.lt_or_eq_of_le hi with g | g
  · exact g
  · have h2 : row < 10 ^ (D - 1) * 10 := by rw [← Nat.pow_succ, show (D - 1).succ = D by omega]; exact hD.2.2.2
    have h3 := Nat.div_lt_of_lt_mul h2
    rw [g] at h
    omega
theorem dg_eq {i D row : Nat} (hi : i ≤ D - 1) (hD : 1 ≤ D ∧ D ≤ 8 ∧ 10 ^ (D - 1) ≤ row ∧ row < 10 ^ D) (h : row / 10 ^ i ≤ 9) : i = D - 1 := by
  rcases Nat.lt_or_eq_of_le hi with g | g
  · have h2 : 10 ^ (i + 1) ≤ 10 ^ (D - 1) := Nat.pow_le_pow_right (by decide) (by omega)
    have h3 : 10 ≤ row / 10 ^ i := by
      rw [Nat.le_div_iff_mul_le (Nat.pos_of_ne_zero (by simp)), Nat.mul_comm, ← Nat.pow_succ]
      exact Nat.le_trans h2 hD.2.2.1
    omega
  · exact g
theorem rwA_s {k row j : Nat} {a a2 : AK} (hj : 1 ≤ j) (h : rwA k row j a = some a2) : okA a k (row / 10 ^ (j - 1) % 10) = true ∧ rwA k row (j - 1) (tnA a k (row / 10 ^ (j - 1) % 10)) = some a2 := by
  obtain ⟨z, rfl⟩ : ∃ z, j = z + 1 := ⟨j - 1, by omega⟩
  rw [rwA] at h
  simp only [Nat.add_sub_cancel]
  split at h
  · next g => exact ⟨g, h⟩
  · cases h
theorem tr1_ok {a : AK} {k w : Nat} (h : okA a k w = true) : tr1 (aKd a k) (aSr a k) (aCk a k) (aO a k) (aSd a k) w = nI (gpA (tnA a k w) k) := by
  rw [tr1, if_pos (show okT (aKd a k) (aSr a k) (aCk a k) (aO a k) (aSd a k) w = true from h)]
  simp [gpA, tnA, aKd, aCk, aO, aSd, va_up]
theorem ts1_ok {f : Nat → Int32} {a : AK} {k w h1 : Nat} (h : okA a k w = true) : ts1 f k (aKd a k) (aSr a k) (aCk a k) (aO a k) (aSd a k) w h1 = tnM f k (cd (aCk a k) (tnO (aCk a k) (aO a k) w)) (tnS (sid (aKd a k)) (aSd a k) w) w h1 := if_pos h
theorem gpA_lt {a : AK} {k : Nat} (h : AOK a) (hk : k < aN a) : gpA a k < 2 ^ 31 := gp_lt _ (h.2.2 k hk).1.N _ _
theorem rw_end {k row j : Nat} {r : Int32} {a1 a : AK} {f : Nat → Int32} (hr : r = (-1000002) ∨ ∃ v, v < 2 ^ 31 ∧ r = nI v ∧ rwA k row j a1 = none ∧ MR f a1 ∧ AOK a1 ∧ aN a1 = aN a) (hj : j = 0) : r = (-1000002) := by
  rcases hr with h | ⟨v, -, -, h, -⟩
  · exact h
  · subst hj
    cases h
theorem rw_neg {k row j : Nat} {r : Int32} {a1 a : AK} {f : Nat → Int32} (hr : r = (-1000002) ∨ ∃ v, v < 2 ^ 31 ∧ r = nI v ∧ rwA k row j a1 = none ∧ MR f a1 ∧ AOK a1 ∧ aN a1 = aN a) (h : r < 0) : r = (-1000002) := by
  rcases hr with g | ⟨v, hv, rfl, -⟩
  · exact g
  · exact absurd h (nI_pos hv)
theorem rw_back {f : Nat → Int32} {a1 a : AK} {k row j : Nat} (hM1 : MR f a1) (hA1 : AOK a1) (hk1 : k < aN a1) (hj : 1 ≤ j) (hN : aN a1 = aN a) (h : rwA k row j a1 = none) :
    tr1 (aKd a1 k) (aSr a1 k) (aCk a1 k) (aO a1 k) (aSd a1 k) (row / 10 ^ (j - 1) % 10) = (-1000002) ∨ ∃ v, v < 2 ^ 31 ∧ tr1 (aKd a1 k) (aSr a1 k) (aCk a1 k) (aO a1 k) (aSd a1 k) (row / 10 ^ (j - 1) % 10) = nI v ∧
      rwA k row (j - 1) (if okA a1 k (row / 10 ^ (j - 1) % 10) = true then tnA a1 k (row / 10 ^ (j - 1) % 10) else a1) = none ∧ MR (ts1 f k (aKd a1 k) (aSr a1 k) (aCk a1 k) (aO a1 k) (aSd a1 k) (row / 10 ^ (j - 1) % 10) (aH a1)) (if okA a1 k (row / 10 ^ (j - 1) % 10) = true then tnA a1 k (row / 10 ^ (j - 1) % 10) else a1) ∧
      AOK (if okA a1 k (row / 10 ^ (j - 1) % 10) = true then tnA a1 k (row / 10 ^ (j - 1) % 10) else a1) ∧ aN (if okA a1 k (row / 10 ^ (j - 1) % 10) = true then tnA a1 k (row / 10 ^ (j - 1) % 10) else a1) = aN a := by
  obtain ⟨z, rfl⟩ : ∃ z, j = z + 1 := ⟨j - 1, by omega⟩
  rw [rwA] at h
  simp only [Nat.add_sub_cancel]
  cases hok : okA a1 k (row / 10 ^ z % 10) with
  | false => exact Or.inl (by rw [tr1, if_neg]; rw [show okT _ _ _ _ _ _ = okA a1 k (row / 10 ^ z % 10) from rfl, hok]; decide)
  | true =>
    rw [hok] at h
    simp only [if_true] at h ⊢
    exact Or.inr ⟨_, gpA_lt (tnA_ok hA1 hk1 hok) hk1, tr1_ok hok, h, by rw [ts1_ok hok]; exact tnM_MR hM1 hA1 hk1, tnA_ok hA1 hk1 hok, hN⟩

abbrev rm_X7_doRow_y : Room := { frames := 4, cells := 0, slots := 0, locals := 87 }
set_option maxRecDepth 100000 in
set_option maxHeartbeats 4000000 in
theorem c_X7_doRow_y {l : Launch} {G : gG} {n : Nat} {σ : gS} {m0 : Nat} {xtyped xat xreason xdone xkind xn xstrength : Int32} {fs fwas fbegun faside ftext fsize fburnt fnext ffar fthen fqueue frankAt fturnAt : Nat → Int32} {k : Nat} {a : AK} {sc row D : Nat} {a2 : AK} (hM : MR fs a) (hA : AOK a) (hkn : k < aN a) (hrow : 1 ≤ row ∧ row ≤ 99999999) (hD : 1 ≤ D ∧ D ≤ 8 ∧ 10 ^ (D - 1) ≤ row ∧ row < 10 ^ D) (hsc : sc ≤ 4) (htot : rwA k row D a = some a2) : GM l G yX7_doRow cX7_doRow 6 (some .int) rm_X7_doRow_y n (mW G σ m0 [nI sc, xtyped, xat, xreason, xdone, xkind, xn, xstrength] [fs, fwas, fbegun, faside, ftext, fsize, fburnt, fnext, ffar, fthen, fqueue, frankAt, fturnAt]) [.ref m0, .int (nI k), .int (nI row)] (fun rv n2 σ2 => some (.int (nI (gpA a2 k))) = rv ∧ n = n2 ∧ ∃ (k2 : Int32) (n3 : Int32) (r2 : Int32) (f2 : Nat → Int32) (g2 : Nat → Int32) (w2 : Nat → Int32) (s2 : Nat) (b2 : Nat → Int32) (f3 : Nat → Int32), (mW G σ m0 [nI (s2 + 1), xtyped, xat, xreason, xdone, k2, n3, r2] [f3, w2, b2, faside, ftext, f2, g2, fnext, ffar, fthen, fqueue, frankAt, fturnAt]) = σ2 ∧ (MR f3 a2) ∧ (s2 ≤ 3) ∧ (∀ j, j < 38 → w2 (38 * s2 + j) = fs j) ∧ ((sc < 4 ∧ s2 = sc ∧ ∀ j, j < 38 * s2 → w2 j = fwas j) ∨ (sc = 4 ∧ s2 = 3 ∧ ∀ j, j < 114 → w2 j = fwas (j + 38)))) := by
  refine GM.intro (by decide +kernel) (Nat.le_of_ble_eq_true rfl) (fun p e s m args below meth c C hr hlocks hname po hpo => ?_)
  have C : Cx p s m args c cX7_doRow 6 RX7 G := C
  have hAn := hA.1
  have hk : k < 5 := by omega
  refine r_aload_n C dX7_doRow_0 rfl 0 rfl ?_
  refine r_iload_n C dX7_doRow_1 rfl 1 rfl ?_
  refine r_callV (As := [.int (nI k)]) C (c_X7_isStack (x := nI k) (ns := aN a) (hM.1)) wM_X7_98 wI_X7_isStack wN_X7 wC_X7_isStack wV_X7_isStack hd_X7_isStack ⟨Nat.le_of_ble_eq_true rfl, Nat.le_of_ble_eq_true rfl⟩ rfl (mW_o _ _ _ _ _) rfl rfl (Nat.le_of_ble_eq_true rfl) dX7_doRow_2 ⟨Nat.le_of_ble_eq_true rfl, Nat.le_of_ble_eq_true rfl⟩ (fun rv n2 σ2 hp => ?_)
  obtain ⟨rfl, rfl, rfl⟩ := hp
  refine V.eq (σ2 := (mW G σ m0 [nI sc, xtyped, xat, xreason, xdone, xkind, xn, xstrength] [fs, fwas, fbegun, faside, ftext, fsize, fburnt, fnext, ffar, fthen, fqueue, frankAt, fturnAt])) (n2 := n) (st2 := [.int (bI (isS (nI k) (aN a)))]) rfl rfl rfl rfl ?_
  refine V.top (y := bI true) (congrArg bI (isS_t (aN a) (by omega) k hkn)) ?_
  refine r_if_eqB (tgt := 18) C dX7_doRow_5 (by decide) (fun z => absurd z (by decide)) (fun _ => ?_)
  refine r_iload_n C dX7_doRow_8 rfl 2 rfl ?_
  refine r_iconst (v := nI 1) C dX7_doRow_9 (by decide) ?_
  refine r_ldc C wQ_X7_125 dX7_doRow_10 ?_
  refine V.top (y := nI 99999999) (by decide) ?_
  refine r_callS (As := [.int (nI row), .int (nI 1), .int (nI 99999999)]) C (c_X7_in (v := nI row) (low := nI 1) (high := nI 99999999) ) wM_X7_50 wS_X7_in wN_X7 wC_X7_in hd_X7_in ⟨Nat.le_of_ble_eq_true rfl, Nat.le_of_ble_eq_true rfl⟩ rfl rfl (Nat.le_of_ble_eq_true rfl) dX7_doRow_12 ⟨Nat.le_of_ble_eq_true rfl, Nat.le_of_ble_eq_true rfl⟩ (fun rv n2 σ2 hp => ?_)
  obtain ⟨rfl, rfl, rfl⟩ := hp
  refine V.eq (σ2 := (mW G σ m0 [nI sc, xtyped, xat, xreason, xdone, xkind, xn, xstrength] [fs, fwas, fbegun, faside, ftext, fsize, fburnt, fnext, ffar, fthen, fqueue, frankAt, fturnAt])) (n2 := n) (st2 := [.int (bI (decide ((nI 1) ≤ (nI row) ∧ (nI row) ≤ (nI 99999999))))]) rfl rfl rfl rfl ?_
  refine V.top (y := bI true) (congrArg bI (in_N (by omega) (by omega) (by omega))) ?_
  refine r_if_neB (tgt := 21) C dX7_doRow_15 (by decide) (fun _ => ?_) (fun z => absurd z (by decide))
  refine r_aload_n C dX7_doRow_21 rfl 0 rfl ?_
  refine r_callV (As := []) C (c_X7_keeps  ) wM_X7_92 wI_X7_keeps wN_X7 wC_X7_keeps wV_X7_keeps hd_X7_keeps ⟨Nat.le_of_ble_eq_true rfl, Nat.le_of_ble_eq_true rfl⟩ rfl (mW_o _ _ _ _ _) rfl rfl (Nat.le_of_ble_eq_true rfl) dX7_doRow_22 ⟨Nat.le_of_ble_eq_true rfl, Nat.le_of_ble_eq_true rfl⟩ (fun rv n2 σ2 hp => ?_)
  obtain ⟨rfl, rfl, gK, rfl, hbK⟩ := hp
  refine V.eq (σ2 := (mW G σ m0 [nI sc, xtyped, xat, xreason, xdone, xkind, xn, xstrength] [fs, fwas, gK, faside, ftext, fsize, fburnt, fnext, ffar, fthen, fqueue, frankAt, fturnAt])) (n2 := n) (st2 := []) rfl rfl rfl rfl ?_
  refine r_iconst (v := nI 1) C dX7_doRow_25 (by decide) ?_
  refine r_istore_n (lv2 := [(3, .int (nI 1)), (0, .ref m0), (1, .int (nI k)), (2, .int (nI row))]) C dX7_doRow_26 rfl (by decide) rfl ?_
  have L27 : ∀ (fu : Nat) (i : Nat), (i ≤ D - 1) → (D - i) < fu → V p l e rm_X7_doRow_y s m args below meth c G 6 (MQ below (gQ G po) args s rm_X7_doRow_y.cells rm_X7_doRow_y.slots (gF G)) 0 0 n (mW G σ m0 [nI sc, xtyped, xat, xreason, xdone, xkind, xn, xstrength] [fs, fwas, gK, faside, ftext, fsize, fburnt, fnext, ffar, fthen, fqueue, frankAt, fturnAt]) 27 [(0, .ref m0), (1, .int (nI k)), (2, .int (nI row)), (3, .int (nI (10 ^ i)))] [] := by
    intro fu
    induction fu with
    | zero => intro i hi hm; exact absurd hm (Nat.not_lt_zero _)
    | succ fu ih27 =>
      intro i hi hm27
      refine r_iload_n C dX7_doRow_27 rfl 2 rfl ?_
      refine r_iload_n C dX7_doRow_28 rfl 3 rfl ?_
      refine r_idivN C dX7_doRow_29 (by omega) (Nat.pos_of_ne_zero (by simp)) (by have := p10_le (show i ≤ 8 by omega); omega) ?_
      refine r_bipush (v := nI 9) C dX7_doRow_30 (by decide) ?_
      have hp9 := Nat.div_le_self row (10 ^ i)
      refine r_icmp_leN (tgt := 43) C dX7_doRow_32 (by decide) (by omega) (by decide) (fun cz32 => ?_) (fun cz32 => ?_)
      · have hi2 := dg_eq hi hD cz32
        refine r_iconst (v := nI 0) C dX7_doRow_43 (by decide) ?_
        refine r_istore (lv2 := [(4, .int (nI 0)), (0, .ref m0), (1, .int (nI k)), (2, .int (nI row)), (3, .int (nI (10 ^ i)))]) C dX7_doRow_44 (by decide) rfl ?_
        refine r_iload_n C dX7_doRow_46 rfl 4 rfl ?_
        refine r_istore (lv2 := [(5, .int (nI (10 ^ i))), (4, .int (nI 0)), (0, .ref m0), (1, .int (nI k)), (2, .int (nI row)), (3, .int (nI (10 ^ i)))]) C dX7_doRow_47 (by decide) rfl ?_
        have L49 : ∀ (fu : Nat) (j : Nat) (v : Nat) (a1 : AK) (f : Nat → Int32) (k1 : Int32) (n1 : Int32) (r1 : Int32) (f0 : Nat → Int32) (g0 : Nat → Int32), (j ≤ D) → (MR f a1) → (AOK a1) → (aN a1 = aN a) → (rwA k row j a1 = some a2) → (v < 2 ^ 31) → (j < D → v = gpA a1 k) → (j) < fu → V p l e rm_X7_doRow_y s m args below meth c G 6 (MQ below (gQ G po) args s rm_X7_doRow_y.cells rm_X7_doRow_y.slots (gF G)) 0 0 n (mW G σ m0 [nI sc, xtyped, xat, xreason, xdone, k1, n1, r1] [f, fwas, gK, faside, ftext, f0, g0, fnext, ffar, fthen, fqueue, frankAt, fturnAt]) 49 [(0, .ref m0), (1, .int (nI k)), (2, .int (nI row)), (3, .int (nI (10 ^ i))), (4, .int (nI v)), (5, .int (nI (10 ^ j / 10)))] [] := by
          intro fu
          induction fu with
          | zero => intro j v a1 f k1 n1 r1 f0 g0 hj hM1 hA1 hN1 hrest hv hv2 hm; exact absurd hm (Nat.not_lt_zero _)
          | succ fu ih49 =>
            intro j v a1 f k1 n1 r1 f0 g0 hj hM1 hA1 hN1 hrest hv hv2 hm49
            refine r_iload C dX7_doRow_49 5 rfl ?_
            have hp8 := p10_le (show j ≤ 8 by omega)
            have hd8 := Nat.div_le_self (10 ^ j) 10
            refine r_if_leN (tgt := 83) C dX7_doRow_51 (by decide) (by omega) (fun cz51 => ?_) (fun cz51 => ?_)
            · have hj0 := p10_zero cz51
              have ha2 : a1 = a2 := by rw [hj0] at hrest; exact Option.some.inj hrest
              have hv3 := hv2 (by omega)
              refine r_iconst (v := nI 0) C dX7_doRow_83 (by decide) ?_
              refine r_istore (lv2 := [(5, .int (nI 0)), (0, .ref m0), (1, .int (nI k)), (2, .int (nI row)), (3, .int (nI (10 ^ i))), (4, .int (nI v))]) C dX7_doRow_84 (by decide) rfl ?_
              refine r_iload C dX7_doRow_86 0 rfl ?_
              refine r_bipush (v := nI 38) C dX7_doRow_88 (by decide) ?_
              refine r_icmp_geN (tgt := 118) C dX7_doRow_90 (by decide) (by decide) (by decide) (fun cz90 => ?_) (fun cz90 => ?_)
              · exact absurd cz90 (by decide)
              · refine r_iload C dX7_doRow_93 5 rfl ?_
                refine r_if_geN (tgt := 118) C dX7_doRow_95 (by decide) (by omega) ?_
                refine r_aload_n C dX7_doRow_118 rfl 1 rfl ?_
                refine r_iload C dX7_doRow_119 5 rfl ?_
                refine r_callV (As := [.int (nI v)]) C (c_X7_acted_y (v := v) (sc := sc) (by first | assumption | omega) (by first | assumption | omega)) wM_X7_95 wI_X7_acted wN_X7 wC_X7_acted wV_X7_acted hd_X7_acted ⟨Nat.le_of_ble_eq_true rfl, Nat.le_of_ble_eq_true rfl⟩ rfl (mW_o _ _ _ _ _) rfl rfl (Nat.le_of_ble_eq_true rfl) dX7_doRow_121 ⟨Nat.le_of_ble_eq_true rfl, Nat.le_of_ble_eq_true rfl⟩ (fun rv n2 σ2 hp => ?_)
                obtain ⟨rfl, rfl, wA, sA, rfl, hA1, hA2, hA3⟩ := hp
                refine V.eq (σ2 := (mW G σ m0 [nI (sA + 1), xtyped, xat, xreason, xdone, k1, n1, r1] [f, wA, gK, faside, ftext, f0, g0, fnext, ffar, fthen, fqueue, frankAt, fturnAt])) (n2 := n) (st2 := [.int (nI v)]) rfl rfl rfl rfl ?_
                exact r_iret C hr hlocks (Nat.le_of_ble_eq_true rfl) (Nat.le_of_ble_eq_true rfl) dX7_doRow_124 (hpo _ _ _ ⟨by rw [hv3, ha2], rfl, k1, n1, r1, f0, g0, wA, sA, gK, f, rfl, ha2 ▸ hM1, hA1, fun j hj => (hA2 j hj).trans (hbK j hj), hA3⟩)
            · have hj1 := p10_pos cz51
              refine r_iload C dX7_doRow_54 4 rfl ?_
              refine r_if_ltN C dX7_doRow_56 (tgt := 83) (by decide) (by omega) ?_
              have hk1 : k < aN a1 := by omega
              have hok := rwA_s hj1 hrest
              refine r_aload_n C dX7_doRow_59 rfl 0 rfl ?_
              refine r_iload_n C dX7_doRow_60 rfl 1 rfl ?_
              refine r_iload_n C dX7_doRow_61 rfl 2 rfl ?_
              refine r_iload C dX7_doRow_62 5 rfl ?_
              refine r_idivN C dX7_doRow_64 (by omega) cz51 (by omega) ?_
              refine r_bipush (v := nI 10) C dX7_doRow_65 (by decide) ?_
              have hq9 := Nat.div_le_self row (10 ^ j / 10)
              refine r_iremN C dX7_doRow_67 (by omega) (by decide) (by decide) ?_
              refine V.top (y := nI (row / 10 ^ (j - 1) % 10)) (by rw [p10_d hj1]) ?_
              refine r_callV (As := [.int (nI k), .int (nI (row / 10 ^ (j - 1) % 10))]) C (c_X7_turnsOne (k := k) (kd := aKd a1 k) (N := aCk a1 k) (sr := aSr a1 k) (o := aO a1 k) (sd := aSd a1 k) (h := aH a1) (w := row / 10 ^ (j - 1) % 10) (by first | assumption | omega) ((hM1.2.2.2.2 k hk1).1) (hA1.2.2 k hk1) (hM1.2.1) (hA1.2.1) (Nat.mod_lt _ (by decide))) wM_X7_122 wI_X7_turnsOne wN_X7 wC_X7_turnsOne wV_X7_turnsOne hd_X7_turnsOne ⟨Nat.le_of_ble_eq_true rfl, Nat.le_of_ble_eq_true rfl⟩ rfl (mW_o _ _ _ _ _) rfl rfl (Nat.le_of_ble_eq_true rfl) dX7_doRow_68 ⟨Nat.le_of_ble_eq_true rfl, Nat.le_of_ble_eq_true rfl⟩ (fun rv n2 σ2 hp => ?_)
              obtain ⟨rfl, rfl, f2_1, g2_2, rfl⟩ := hp
              refine V.eq (σ2 := (mW G σ m0 [nI sc, xtyped, xat, xreason, xdone, nI (aKd a1 k), nI (aCk a1 k), nI (aSr a1 k)] [(ts1 f k (aKd a1 k) (aSr a1 k) (aCk a1 k) (aO a1 k) (aSd a1 k) (row / 10 ^ (j - 1) % 10) (aH a1)), fwas, gK, faside, ftext, f2_1, g2_2, fnext, ffar, fthen, fqueue, frankAt, fturnAt])) (n2 := n) (st2 := [.int (tr1 (aKd a1 k) (aSr a1 k) (aCk a1 k) (aO a1 k) (aSd a1 k) (row / 10 ^ (j - 1) % 10))]) rfl rfl rfl rfl ?_
              refine V.top (y := nI (gpA (tnA a1 k (row / 10 ^ (j - 1) % 10)) k)) (tr1_ok hok.1) ?_
              refine V.hp (σ2 := (mW G σ m0 [nI sc, xtyped, xat, xreason, xdone, nI (aKd a1 k), nI (aCk a1 k), nI (aSr a1 k)] [(tnM f k (cd (aCk a1 k) (tnO (aCk a1 k) (aO a1 k) (row / 10 ^ (j - 1) % 10))) (tnS (sid (aKd a1 k)) (aSd a1 k) (row / 10 ^ (j - 1) % 10)) (row / 10 ^ (j - 1) % 10) (aH a1)), fwas, gK, faside, ftext, f2_1, g2_2, fnext, ffar, fthen, fqueue, frankAt, fturnAt])) (by rw [(show (ts1 f k (aKd a1 k) (aSr a1 k) (aCk a1 k) (aO a1 k) (aSd a1 k) (row / 10 ^ (j - 1) % 10) (aH a1)) = (tnM f k (cd (aCk a1 k) (tnO (aCk a1 k) (aO a1 k) (row / 10 ^ (j - 1) % 10))) (tnS (sid (aKd a1 k)) (aSd a1 k) (row / 10 ^ (j - 1) % 10)) (row / 10 ^ (j - 1) % 10) (aH a1)) from ts1_ok hok.1)]) ?_
              have hA2 := tnA_ok hA1 hk1 hok.1
              refine r_istore (lv2 := [(4, .int (nI (gpA (tnA a1 k (row / 10 ^ (j - 1) % 10)) k))), (0, .ref m0), (1, .int (nI k)), (2, .int (nI row)), (3, .int (nI (10 ^ i))), (5, .int (nI (10 ^ j / 10)))]) C dX7_doRow_71 (by decide) rfl ?_
              refine r_iload C dX7_doRow_73 5 rfl ?_
              refine r_bipush (v := nI 10) C dX7_doRow_75 (by decide) ?_
              refine r_idivN C dX7_doRow_77 (by omega) (by decide) (by decide) ?_
              refine r_istore (lv2 := [(5, .int (nI ((10 ^ j / 10) / 10))), (4, .int (nI (gpA (tnA a1 k (row / 10 ^ (j - 1) % 10)) k))), (0, .ref m0), (1, .int (nI k)), (2, .int (nI row)), (3, .int (nI (10 ^ i)))]) C dX7_doRow_78 (by decide) rfl ?_
              refine r_goto (tgt := 49) C dX7_doRow_80 (by decide) ?_
              refine V.sub (lv2 := [(0, .ref m0), (1, .int (nI k)), (2, .int (nI row)), (3, .int (nI (10 ^ i))), (4, .int (nI (gpA (tnA a1 k (row / 10 ^ (j - 1) % 10)) k))), (5, .int (nI ((10 ^ j / 10) / 10)))]) [2, 3, 4, 5, 1, 0] rfl ?_
              refine V.eq (σ2 := (mW G σ m0 [nI sc, xtyped, xat, xreason, xdone, (nI (aKd a1 k)), (nI (aCk a1 k)), (nI (aSr a1 k))] [(tnM f k (cd (aCk a1 k) (tnO (aCk a1 k) (aO a1 k) (row / 10 ^ (j - 1) % 10))) (tnS (sid (aKd a1 k)) (aSd a1 k) (row / 10 ^ (j - 1) % 10)) (row / 10 ^ (j - 1) % 10) (aH a1)), fwas, gK, faside, ftext, f2_1, g2_2, fnext, ffar, fthen, fqueue, frankAt, fturnAt])) (lv2 := [(0, .ref m0), (1, .int (nI k)), (2, .int (nI row)), (3, .int (nI (10 ^ i))), (4, .int (nI (gpA (tnA a1 k (row / 10 ^ (j - 1) % 10)) k))), (5, .int (nI (10 ^ (j - 1) / 10)))]) (st2 := []) rfl rfl (by rw [(show nI ((10 ^ j / 10) / 10) = nI (10 ^ (j - 1) / 10) from by rw [p10_d hj1])]) rfl ?_
              exact ih49 (j - 1) (gpA (tnA a1 k (row / 10 ^ (j - 1) % 10)) k) (tnA a1 k (row / 10 ^ (j - 1) % 10)) (tnM f k (cd (aCk a1 k) (tnO (aCk a1 k) (aO a1 k) (row / 10 ^ (j - 1) % 10))) (tnS (sid (aKd a1 k)) (aSd a1 k) (row / 10 ^ (j - 1) % 10)) (row / 10 ^ (j - 1) % 10) (aH a1)) (nI (aKd a1 k)) (nI (aCk a1 k)) (nI (aSr a1 k)) f2_1 g2_2 (by omega) (tnM_MR hM1 hA1 hk1) (hA2) (hN1) (hok.2) (gpA_lt hA2 hk1) (fun _ => rfl) (by omega)
        refine V.sub (lv2 := [(0, .ref m0), (1, .int (nI k)), (2, .int (nI row)), (3, .int (nI (10 ^ i))), (4, .int (nI 0)), (5, .int (nI (10 ^ i)))]) [2, 3, 4, 5, 1, 0] rfl ?_
        refine V.eq (σ2 := (mW G σ m0 [nI sc, xtyped, xat, xreason, xdone, xkind, xn, xstrength] [fs, fwas, gK, faside, ftext, fsize, fburnt, fnext, ffar, fthen, fqueue, frankAt, fturnAt])) (lv2 := [(0, .ref m0), (1, .int (nI k)), (2, .int (nI row)), (3, .int (nI (10 ^ i))), (4, .int (nI 0)), (5, .int (nI (10 ^ D / 10)))]) (st2 := []) rfl rfl (by rw [(show nI (10 ^ i) = nI (10 ^ D / 10) from by rw [hi2, p10_d hD.1])]) rfl ?_
        exact L49 _ D 0 a fs xkind xn xstrength fsize fburnt (by omega) (hM) (hA) (rfl) (htot) (by omega) (by omega) (Nat.lt_succ_self _)
      · have hi2 := dg_lt hi hD cz32
        refine r_iload_n C dX7_doRow_35 rfl 3 rfl ?_
        refine r_bipush (v := nI 10) C dX7_doRow_36 (by decide) ?_
        refine r_imulN C dX7_doRow_38 ?_
        refine r_istore_n (lv2 := [(3, .int (nI ((10 ^ i) * 10))), (0, .ref m0), (1, .int (nI k)), (2, .int (nI row))]) C dX7_doRow_39 rfl (by decide) rfl ?_
        refine r_goto (tgt := 27) C dX7_doRow_40 (by decide) ?_
        refine V.sub (lv2 := [(0, .ref m0), (1, .int (nI k)), (2, .int (nI row)), (3, .int (nI ((10 ^ i) * 10)))]) [1, 2, 3, 0] rfl ?_
        refine V.eq (σ2 := (mW G σ m0 [nI sc, xtyped, xat, xreason, xdone, xkind, xn, xstrength] [fs, fwas, gK, faside, ftext, fsize, fburnt, fnext, ffar, fthen, fqueue, frankAt, fturnAt])) (lv2 := [(0, .ref m0), (1, .int (nI k)), (2, .int (nI row)), (3, .int (nI (10 ^ (i + 1))))]) (st2 := []) rfl rfl (by rw [(show nI ((10 ^ i) * 10) = nI (10 ^ (i + 1)) from rfl)]) rfl ?_
        exact ih27 (i + 1) (by omega) (by omega)
  refine V.sub (lv2 := [(0, .ref m0), (1, .int (nI k)), (2, .int (nI row)), (3, .int (nI 1))]) [1, 2, 3, 0] rfl ?_
  refine V.eq (σ2 := (mW G σ m0 [nI sc, xtyped, xat, xreason, xdone, xkind, xn, xstrength] [fs, fwas, gK, faside, ftext, fsize, fburnt, fnext, ffar, fthen, fqueue, frankAt, fturnAt])) (lv2 := [(0, .ref m0), (1, .int (nI k)), (2, .int (nI row)), (3, .int (nI (10 ^ 0)))]) (st2 := []) rfl rfl (by rw [(show nI 1 = nI (10 ^ 0) from rfl)]) rfl ?_
  exact L27 _ 0 (by omega) (Nat.lt_succ_self _)

abbrev rm_X7_doRow_n : Room := { frames := 4, cells := 0, slots := 0, locals := 87 }
set_option maxRecDepth 100000 in
set_option maxHeartbeats 4000000 in
theorem c_X7_doRow_n {l : Launch} {G : gG} {n : Nat} {σ : gS} {m0 : Nat} {xstates xtyped xat xreason xdone xkind xn xstrength : Int32} {fs fwas fbegun faside ftext fsize fburnt fnext ffar fthen fqueue frankAt fturnAt : Nat → Int32} {k : Nat} {a : AK} {row D : Nat} (hM : MR fs a) (hA : AOK a) (hkn : k < aN a) (hrow : 1 ≤ row ∧ row ≤ 99999999) (hD : 1 ≤ D ∧ D ≤ 8 ∧ 10 ^ (D - 1) ≤ row ∧ row < 10 ^ D) (htot : rwA k row D a = none) : GM l G yX7_doRow cX7_doRow 6 (some .int) rm_X7_doRow_n n (mW G σ m0 [xstates, xtyped, xat, xreason, xdone, xkind, xn, xstrength] [fs, fwas, fbegun, faside, ftext, fsize, fburnt, fnext, ffar, fthen, fqueue, frankAt, fturnAt]) [.ref m0, .int (nI k), .int (nI row)] (fun rv n2 σ2 => some (.int (-1000002)) = rv ∧ n = n2 ∧ ∃ (k2 : Int32) (n3 : Int32) (r2 : Int32) (f2 : Nat → Int32) (g2 : Nat → Int32) (f3 : Nat → Int32) (b2 : Nat → Int32), (mW G σ m0 [xstates, xtyped, xat, xreason, xdone, k2, n3, r2] [f3, fwas, b2, faside, ftext, f2, g2, fnext, ffar, fthen, fqueue, frankAt, fturnAt]) = σ2 ∧ (∀ j, j < 38 → f3 j = fs j)) := by
  refine GM.intro (by decide +kernel) (Nat.le_of_ble_eq_true rfl) (fun p e s m args below meth c C hr hlocks hname po hpo => ?_)
  have C : Cx p s m args c cX7_doRow 6 RX7 G := C
  have hAn := hA.1
  have hk : k < 5 := by omega
  refine r_aload_n C dX7_doRow_0 rfl 0 rfl ?_
  refine r_iload_n C dX7_doRow_1 rfl 1 rfl ?_
  refine r_callV (As := [.int (nI k)]) C (c_X7_isStack (x := nI k) (ns := aN a) (hM.1)) wM_X7_98 wI_X7_isStack wN_X7 wC_X7_isStack wV_X7_isStack hd_X7_isStack ⟨Nat.le_of_ble_eq_true rfl, Nat.le_of_ble_eq_true rfl⟩ rfl (mW_o _ _ _ _ _) rfl rfl (Nat.le_of_ble_eq_true rfl) dX7_doRow_2 ⟨Nat.le_of_ble_eq_true rfl, Nat.le_of_ble_eq_true rfl⟩ (fun rv n2 σ2 hp => ?_)
  obtain ⟨rfl, rfl, rfl⟩ := hp
  refine V.eq (σ2 := (mW G σ m0 [xstates, xtyped, xat, xreason, xdone, xkind, xn, xstrength] [fs, fwas, fbegun, faside, ftext, fsize, fburnt, fnext, ffar, fthen, fqueue, frankAt, fturnAt])) (n2 := n) (st2 := [.int (bI (isS (nI k) (aN a)))]) rfl rfl rfl rfl ?_
  refine V.top (y := bI true) (congrArg bI (isS_t (aN a) (by omega) k hkn)) ?_
  refine r_if_eqB (tgt := 18) C dX7_doRow_5 (by decide) (fun z => absurd z (by decide)) (fun _ => ?_)
  refine r_iload_n C dX7_doRow_8 rfl 2 rfl ?_
  refine r_iconst (v := nI 1) C dX7_doRow_9 (by decide) ?_
  refine r_ldc C wQ_X7_125 dX7_doRow_10 ?_
  refine V.top (y := nI 99999999) (by decide) ?_
  refine r_callS (As := [.int (nI row), .int (nI 1), .int (nI 99999999)]) C (c_X7_in (v := nI row) (low := nI 1) (high := nI 99999999) ) wM_X7_50 wS_X7_in wN_X7 wC_X7_in hd_X7_in ⟨Nat.le_of_ble_eq_true rfl, Nat.le_of_ble_eq_true rfl⟩ rfl rfl (Nat.le_of_ble_eq_true rfl) dX7_doRow_12 ⟨Nat.le_of_ble_eq_true rfl, Nat.le_of_ble_eq_true rfl⟩ (fun rv n2 σ2 hp => ?_)
  obtain ⟨rfl, rfl, rfl⟩ := hp
  refine V.eq (σ2 := (mW G σ m0 [xstates, xtyped, xat, xreason, xdone, xkind, xn, xstrength] [fs, fwas, fbegun, faside, ftext, fsize, fburnt, fnext, ffar, fthen, fqueue, frankAt, fturnAt])) (n2 := n) (st2 := [.int (bI (decide ((nI 1) ≤ (nI row) ∧ (nI row) ≤ (nI 99999999))))]) rfl rfl rfl rfl ?_
  refine V.top (y := bI true) (congrArg bI (in_N (by omega) (by omega) (by omega))) ?_
  refine r_if_neB (tgt := 21) C dX7_doRow_15 (by decide) (fun _ => ?_) (fun z => absurd z (by decide))
  refine r_aload_n C dX7_doRow_21 rfl 0 rfl ?_
  refine r_callV (As := []) C (c_X7_keeps  ) wM_X7_92 wI_X7_keeps wN_X7 wC_X7_keeps wV_X7_keeps hd_X7_keeps ⟨Nat.le_of_ble_eq_true rfl, Nat.le_of_ble_eq_true rfl⟩ rfl (mW_o _ _ _ _ _) rfl rfl (Nat.le_of_ble_eq_true rfl) dX7_doRow_22 ⟨Nat.le_of_ble_eq_true rfl, Nat.le_of_ble_eq_true rfl⟩ (fun rv n2 σ2 hp => ?_)
  obtain ⟨rfl, rfl, gK, rfl, hbK⟩ := hp
  refine V.eq (σ2 := (mW G σ m0 [xstates, xtyped, xat, xreason, xdone, xkind, xn, xstrength] [fs, fwas, gK, faside, ftext, fsize, fburnt, fnext, ffar, fthen, fqueue, frankAt, fturnAt])) (n2 := n) (st2 := []) rfl rfl rfl rfl ?_
  refine r_iconst (v := nI 1) C dX7_doRow_25 (by decide) ?_
  refine r_istore_n (lv2 := [(3, .int (nI 1)), (0, .ref m0), (1, .int (nI k)), (2, .int (nI row))]) C dX7_doRow_26 rfl (by decide) rfl ?_
  have L27 : ∀ (fu : Nat) (i : Nat), (i ≤ D - 1) → (D - i) < fu → V p l e rm_X7_doRow_n s m args below meth c G 6 (MQ below (gQ G po) args s rm_X7_doRow_n.cells rm_X7_doRow_n.slots (gF G)) 0 0 n (mW G σ m0 [xstates, xtyped, xat, xreason, xdone, xkind, xn, xstrength] [fs, fwas, gK, faside, ftext, fsize, fburnt, fnext, ffar, fthen, fqueue, frankAt, fturnAt]) 27 [(0, .ref m0), (1, .int (nI k)), (2, .int (nI row)), (3, .int (nI (10 ^ i)))] [] := by
    intro fu
    induction fu with
    | zero => intro i hi hm; exact absurd hm (Nat.not_lt_zero _)
    | succ fu ih27 =>
      intro i hi hm27
      refine r_iload_n C dX7_doRow_27 rfl 2 rfl ?_
      refine r_iload_n C dX7_doRow_28 rfl 3 rfl ?_
      refine r_idivN C dX7_doRow_29 (by omega) (Nat.pos_of_ne_zero (by simp)) (by have := p10_le (show i ≤ 8 by omega); omega) ?_
      refine r_bipush (v := nI 9) C dX7_doRow_30 (by decide) ?_
      have hp9 := Nat.div_le_self row (10 ^ i)
      refine r_icmp_leN (tgt := 43) C dX7_doRow_32 (by decide) (by omega) (by decide) (fun cz32 => ?_) (fun cz32 => ?_)
      · have hi2 := dg_eq hi hD cz32
        refine r_iconst (v := nI 0) C dX7_doRow_43 (by decide) ?_
        refine r_istore (lv2 := [(4, .int (nI 0)), (0, .ref m0), (1, .int (nI k)), (2, .int (nI row)), (3, .int (nI (10 ^ i)))]) C dX7_doRow_44 (by decide) rfl ?_
        refine r_iload_n C dX7_doRow_46 rfl 4 rfl ?_
        refine r_istore (lv2 := [(5, .int (nI (10 ^ i))), (4, .int (nI 0)), (0, .ref m0), (1, .int (nI k)), (2, .int (nI row)), (3, .int (nI (10 ^ i)))]) C dX7_doRow_47 (by decide) rfl ?_
        have L49 : ∀ (fu : Nat) (j : Nat) (r : Int32) (a1 : AK) (f : Nat → Int32) (k1 : Int32) (n1 : Int32) (r1 : Int32) (f0 : Nat → Int32) (g0 : Nat → Int32), (j ≤ D) → (r = (-1000002) ∨ ∃ v, v < 2 ^ 31 ∧ r = nI v ∧ rwA k row j a1 = none ∧ MR f a1 ∧ AOK a1 ∧ aN a1 = aN a) → (j) < fu → V p l e rm_X7_doRow_n s m args below meth c G 6 (MQ below (gQ G po) args s rm_X7_doRow_n.cells rm_X7_doRow_n.slots (gF G)) 0 0 n (mW G σ m0 [xstates, xtyped, xat, xreason, xdone, k1, n1, r1] [f, fwas, gK, faside, ftext, f0, g0, fnext, ffar, fthen, fqueue, frankAt, fturnAt]) 49 [(0, .ref m0), (1, .int (nI k)), (2, .int (nI row)), (3, .int (nI (10 ^ i))), (4, .int r), (5, .int (nI (10 ^ j / 10)))] [] := by
          intro fu
          induction fu with
          | zero => intro j r a1 f k1 n1 r1 f0 g0 hj hres hm; exact absurd hm (Nat.not_lt_zero _)
          | succ fu ih49 =>
            intro j r a1 f k1 n1 r1 f0 g0 hj hres hm49
            refine r_iload C dX7_doRow_49 5 rfl ?_
            have hp8 := p10_le (show j ≤ 8 by omega)
            have hd8 := Nat.div_le_self (10 ^ j) 10
            refine r_if_leN (tgt := 83) C dX7_doRow_51 (by decide) (by omega) (fun cz51 => ?_) (fun cz51 => ?_)
            · have hj0 := p10_zero cz51
              have hr2 := rw_end hres hj0
              refine V.eq (lv2 := [(0, .ref m0), (1, .int (nI k)), (2, .int (nI row)), (3, .int (nI (10 ^ i))), (4, .int (-1000002)), (5, .int (nI (10 ^ j / 10)))]) rfl rfl (by rw [(show r = (-1000002) from hr2)]) rfl ?_
              refine r_iconst (v := nI 0) C dX7_doRow_83 (by decide) ?_
              refine r_istore (lv2 := [(5, .int (nI 0)), (0, .ref m0), (1, .int (nI k)), (2, .int (nI row)), (3, .int (nI (10 ^ i))), (4, .int (-1000002))]) C dX7_doRow_84 (by decide) rfl ?_
              have L86 : ∀ (fu : Nat) (i5 : Nat) (f5 : Nat → Int32), (i5 ≤ 38) → (∀ j, j < i5 → f5 j = fs j) → (39 - i5) < fu → V p l e rm_X7_doRow_n s m args below meth c G 6 (MQ below (gQ G po) args s rm_X7_doRow_n.cells rm_X7_doRow_n.slots (gF G)) 0 0 n (mW G σ m0 [xstates, xtyped, xat, xreason, xdone, k1, n1, r1] [f5, fwas, gK, faside, ftext, f0, g0, fnext, ffar, fthen, fqueue, frankAt, fturnAt]) 86 [(0, .ref m0), (1, .int (nI k)), (2, .int (nI row)), (3, .int (nI (10 ^ i))), (4, .int (-1000002)), (5, .int (nI i5))] [] := by
                intro fu
                induction fu with
                | zero => intro i5 f5 hi5 hf5 hm; exact absurd hm (Nat.not_lt_zero _)
                | succ fu ih86 =>
                  intro i5 f5 hi5 hf5 hm86
                  refine r_iload C dX7_doRow_86 5 rfl ?_
                  refine r_bipush (v := nI 38) C dX7_doRow_88 (by decide) ?_
                  refine r_icmp_geN (tgt := 118) C dX7_doRow_90 (by decide) (by omega) (by decide) (fun cz90 => ?_) (fun cz90 => ?_)
                  · refine r_aload_n C dX7_doRow_118 rfl 0 rfl ?_
                    refine r_iload C dX7_doRow_119 4 rfl ?_
                    refine r_callV (As := [.int (-1000002)]) C (c_X7_acted_n (x := (-1000002)) (by decide)) wM_X7_95 wI_X7_acted wN_X7 wC_X7_acted wV_X7_acted hd_X7_acted ⟨Nat.le_of_ble_eq_true rfl, Nat.le_of_ble_eq_true rfl⟩ rfl (mW_o _ _ _ _ _) rfl rfl (Nat.le_of_ble_eq_true rfl) dX7_doRow_121 ⟨Nat.le_of_ble_eq_true rfl, Nat.le_of_ble_eq_true rfl⟩ (fun rv n2 σ2 hp => ?_)
                    obtain ⟨rfl, rfl, rfl⟩ := hp
                    refine V.eq (σ2 := (mW G σ m0 [xstates, xtyped, xat, xreason, xdone, k1, n1, r1] [f5, fwas, gK, faside, ftext, f0, g0, fnext, ffar, fthen, fqueue, frankAt, fturnAt])) (n2 := n) (st2 := [.int (-1000002)]) rfl rfl rfl rfl ?_
                    exact r_iret C hr hlocks (Nat.le_of_ble_eq_true rfl) (Nat.le_of_ble_eq_true rfl) dX7_doRow_124 (hpo _ _ _ ⟨rfl, rfl, k1, n1, r1, f0, g0, f5, gK, rfl, fun j hj => hf5 j (by omega)⟩)
                  · refine r_iload C dX7_doRow_93 4 rfl ?_
                    refine r_if_ge (tgt := 118) C dX7_doRow_95 (by decide) (fun cz95 => ?_) (fun cz95 => ?_)
                    · exact absurd cz95 (by decide)
                    · refine r_aload_n C dX7_doRow_98 rfl 0 rfl ?_
                      refine rm_get (v := .ref (m0 + 1)) C 0 (by decide) wF_X7_7 rfl dX7_doRow_99 ?_
                      refine r_iload C dX7_doRow_102 5 rfl ?_
                      refine r_aload_n C dX7_doRow_104 rfl 0 rfl ?_
                      refine rm_get (v := .ref (m0 + 3)) C 2 (by decide) wF_X7_16 rfl dX7_doRow_105 ?_
                      refine r_iload C dX7_doRow_108 5 rfl ?_
                      refine rm_ald (f := gK) (len := 38) C 2 rfl rfl (by decide) (by omega) dX7_doRow_110 ?_
                      refine rm_ast (f := f5) (len := 38) (A2 := [(upd f5 i5 (gK i5)), fwas, gK, faside, ftext, f0, g0, fnext, ffar, fthen, fqueue, frankAt, fturnAt]) C 0 rfl rfl (by decide) (by omega) rfl rfl dX7_doRow_111 ?_
                      refine r_iinc (v := nI (i5 + 1)) (lv2 := [(5, .int (nI (i5 + 1))), (0, .ref m0), (1, .int (nI k)), (2, .int (nI row)), (3, .int (nI (10 ^ i))), (4, .int (-1000002))]) C dX7_doRow_112 (k := 5) rfl (nI_add _ 1) (by decide) rfl ?_
                      refine r_goto (tgt := 86) C dX7_doRow_115 (by decide) ?_
                      refine V.sub (lv2 := [(0, .ref m0), (1, .int (nI k)), (2, .int (nI row)), (3, .int (nI (10 ^ i))), (4, .int (-1000002)), (5, .int (nI (i5 + 1)))]) [1, 2, 3, 4, 5, 0] rfl ?_
                      exact ih86 (i5 + 1) (upd f5 i5 (gK i5)) (by omega) (fun j hj => upd_step hj hf5 (hbK _ (by omega))) (by omega)
              refine V.sub (lv2 := [(0, .ref m0), (1, .int (nI k)), (2, .int (nI row)), (3, .int (nI (10 ^ i))), (4, .int (-1000002)), (5, .int (nI 0))]) [1, 2, 3, 4, 5, 0] rfl ?_
              exact L86 _ 0 f (by omega) (fun j hj => absurd hj (Nat.not_lt_zero j)) (Nat.lt_succ_self _)
            · have hj1 := p10_pos cz51
              refine r_iload C dX7_doRow_54 4 rfl ?_
              refine r_if_lt (tgt := 83) C dX7_doRow_56 (by decide) (fun cz56 => ?_) (fun cz56 => ?_)
              · have hr2 := rw_neg hres cz56
                refine V.eq (lv2 := [(0, .ref m0), (1, .int (nI k)), (2, .int (nI row)), (3, .int (nI (10 ^ i))), (4, .int (-1000002)), (5, .int (nI (10 ^ j / 10)))]) rfl rfl (by rw [(show r = (-1000002) from hr2)]) rfl ?_
                refine r_iconst (v := nI 0) C dX7_doRow_83 (by decide) ?_
                refine r_istore (lv2 := [(5, .int (nI 0)), (0, .ref m0), (1, .int (nI k)), (2, .int (nI row)), (3, .int (nI (10 ^ i))), (4, .int (-1000002))]) C dX7_doRow_84 (by decide) rfl ?_
                have L86 : ∀ (fu : Nat) (i5 : Nat) (f5 : Nat → Int32), (i5 ≤ 38) → (∀ j, j < i5 → f5 j = fs j) → (39 - i5) < fu → V p l e rm_X7_doRow_n s m args below meth c G 6 (MQ below (gQ G po) args s rm_X7_doRow_n.cells rm_X7_doRow_n.slots (gF G)) 0 0 n (mW G σ m0 [xstates, xtyped, xat, xreason, xdone, k1, n1, r1] [f5, fwas, gK, faside, ftext, f0, g0, fnext, ffar, fthen, fqueue, frankAt, fturnAt]) 86 [(0, .ref m0), (1, .int (nI k)), (2, .int (nI row)), (3, .int (nI (10 ^ i))), (4, .int (-1000002)), (5, .int (nI i5))] [] := by
                  intro fu
                  induction fu with
                  | zero => intro i5 f5 hi5 hf5 hm; exact absurd hm (Nat.not_lt_zero _)
                  | succ fu ih86 =>
                    intro i5 f5 hi5 hf5 hm86
                    refine r_iload C dX7_doRow_86 5 rfl ?_
                    refine r_bipush (v := nI 38) C dX7_doRow_88 (by decide) ?_
                    refine r_icmp_geN (tgt := 118) C dX7_doRow_90 (by decide) (by omega) (by decide) (fun cz90 => ?_) (fun cz90 => ?_)
                    · refine r_aload_n C dX7_doRow_118 rfl 0 rfl ?_
                      refine r_iload C dX7_doRow_119 4 rfl ?_
                      refine r_callV (As := [.int (-1000002)]) C (c_X7_acted_n (x := (-1000002)) (by decide)) wM_X7_95 wI_X7_acted wN_X7 wC_X7_acted wV_X7_acted hd_X7_acted ⟨Nat.le_of_ble_eq_true rfl, Nat.le_of_ble_eq_true rfl⟩ rfl (mW_o _ _ _ _ _) rfl rfl (Nat.le_of_ble_eq_true rfl) dX7_doRow_121 ⟨Nat.le_of_ble_eq_true rfl, Nat.le_of_ble_eq_true rfl⟩ (fun rv n2 σ2 hp => ?_)
                      obtain ⟨rfl, rfl, rfl⟩ := hp
                      refine V.eq (σ2 := (mW G σ m0 [xstates, xtyped, xat, xreason, xdone, k1, n1, r1] [f5, fwas, gK, faside, ftext, f0, g0, fnext, ffar, fthen, fqueue, frankAt, fturnAt])) (n2 := n) (st2 := [.int (-1000002)]) rfl rfl rfl rfl ?_
                      exact r_iret C hr hlocks (Nat.le_of_ble_eq_true rfl) (Nat.le_of_ble_eq_true rfl) dX7_doRow_124 (hpo _ _ _ ⟨rfl, rfl, k1, n1, r1, f0, g0, f5, gK, rfl, fun j hj => hf5 j (by omega)⟩)
                    · refine r_iload C dX7_doRow_93 4 rfl ?_
                      refine r_if_ge (tgt := 118) C dX7_doRow_95 (by decide) (fun cz95 => ?_) (fun cz95 => ?_)
                      · exact absurd cz95 (by decide)
                      · refine r_aload_n C dX7_doRow_98 rfl 0 rfl ?_
                        refine rm_get (v := .ref (m0 + 1)) C 0 (by decide) wF_X7_7 rfl dX7_doRow_99 ?_
                        refine r_iload C dX7_doRow_102 5 rfl ?_
                        refine r_aload_n C dX7_doRow_104 rfl 0 rfl ?_
                        refine rm_get (v := .ref (m0 + 3)) C 2 (by decide) wF_X7_16 rfl dX7_doRow_105 ?_
                        refine r_iload C dX7_doRow_108 5 rfl ?_
                        refine rm_ald (f := gK) (len := 38) C 2 rfl rfl (by decide) (by omega) dX7_doRow_110 ?_
                        refine rm_ast (f := f5) (len := 38) (A2 := [(upd f5 i5 (gK i5)), fwas, gK, faside, ftext, f0, g0, fnext, ffar, fthen, fqueue, frankAt, fturnAt]) C 0 rfl rfl (by decide) (by omega) rfl rfl dX7_doRow_111 ?_
                        refine r_iinc (v := nI (i5 + 1)) (lv2 := [(5, .int (nI (i5 + 1))), (0, .ref m0), (1, .int (nI k)), (2, .int (nI row)), (3, .int (nI (10 ^ i))), (4, .int (-1000002))]) C dX7_doRow_112 (k := 5) rfl (nI_add _ 1) (by decide) rfl ?_
                        refine r_goto (tgt := 86) C dX7_doRow_115 (by decide) ?_
                        refine V.sub (lv2 := [(0, .ref m0), (1, .int (nI k)), (2, .int (nI row)), (3, .int (nI (10 ^ i))), (4, .int (-1000002)), (5, .int (nI (i5 + 1)))]) [1, 2, 3, 4, 5, 0] rfl ?_
                        exact ih86 (i5 + 1) (upd f5 i5 (gK i5)) (by omega) (fun j hj => upd_step hj hf5 (hbK _ (by omega))) (by omega)
                refine V.sub (lv2 := [(0, .ref m0), (1, .int (nI k)), (2, .int (nI row)), (3, .int (nI (10 ^ i))), (4, .int (-1000002)), (5, .int (nI 0))]) [1, 2, 3, 4, 5, 0] rfl ?_
                exact L86 _ 0 f (by omega) (fun j hj => absurd hj (Nat.not_lt_zero j)) (Nat.lt_succ_self _)
              · obtain ⟨v, hv, hrv, hrest, hM1, hA1, hN1⟩ := hres.resolve_left (fun z => cz56 (by rw [z]; decide))
                have hk1 : k < aN a1 := by omega
                refine r_aload_n C dX7_doRow_59 rfl 0 rfl ?_
                refine r_iload_n C dX7_doRow_60 rfl 1 rfl ?_
                refine r_iload_n C dX7_doRow_61 rfl 2 rfl ?_
                refine r_iload C dX7_doRow_62 5 rfl ?_
                refine r_idivN C dX7_doRow_64 (by omega) cz51 (by omega) ?_
                refine r_bipush (v := nI 10) C dX7_doRow_65 (by decide) ?_
                have hq9 := Nat.div_le_self row (10 ^ j / 10)
                refine r_iremN C dX7_doRow_67 (by omega) (by decide) (by decide) ?_
                refine V.top (y := nI (row / 10 ^ (j - 1) % 10)) (by rw [p10_d hj1]) ?_
                refine r_callV (As := [.int (nI k), .int (nI (row / 10 ^ (j - 1) % 10))]) C (c_X7_turnsOne (k := k) (kd := aKd a1 k) (N := aCk a1 k) (sr := aSr a1 k) (o := aO a1 k) (sd := aSd a1 k) (h := aH a1) (w := row / 10 ^ (j - 1) % 10) (by first | assumption | omega) ((hM1.2.2.2.2 k hk1).1) (hA1.2.2 k hk1) (hM1.2.1) (hA1.2.1) (Nat.mod_lt _ (by decide))) wM_X7_122 wI_X7_turnsOne wN_X7 wC_X7_turnsOne wV_X7_turnsOne hd_X7_turnsOne ⟨Nat.le_of_ble_eq_true rfl, Nat.le_of_ble_eq_true rfl⟩ rfl (mW_o _ _ _ _ _) rfl rfl (Nat.le_of_ble_eq_true rfl) dX7_doRow_68 ⟨Nat.le_of_ble_eq_true rfl, Nat.le_of_ble_eq_true rfl⟩ (fun rv n2 σ2 hp => ?_)
                obtain ⟨rfl, rfl, f2_1, g2_2, rfl⟩ := hp
                refine V.eq (σ2 := (mW G σ m0 [xstates, xtyped, xat, xreason, xdone, nI (aKd a1 k), nI (aCk a1 k), nI (aSr a1 k)] [(ts1 f k (aKd a1 k) (aSr a1 k) (aCk a1 k) (aO a1 k) (aSd a1 k) (row / 10 ^ (j - 1) % 10) (aH a1)), fwas, gK, faside, ftext, f2_1, g2_2, fnext, ffar, fthen, fqueue, frankAt, fturnAt])) (n2 := n) (st2 := [.int (tr1 (aKd a1 k) (aSr a1 k) (aCk a1 k) (aO a1 k) (aSd a1 k) (row / 10 ^ (j - 1) % 10))]) rfl rfl rfl rfl ?_
                refine r_istore (lv2 := [(4, .int (tr1 (aKd a1 k) (aSr a1 k) (aCk a1 k) (aO a1 k) (aSd a1 k) (row / 10 ^ (j - 1) % 10))), (0, .ref m0), (1, .int (nI k)), (2, .int (nI row)), (3, .int (nI (10 ^ i))), (5, .int (nI (10 ^ j / 10)))]) C dX7_doRow_71 (by decide) rfl ?_
                refine r_iload C dX7_doRow_73 5 rfl ?_
                refine r_bipush (v := nI 10) C dX7_doRow_75 (by decide) ?_
                refine r_idivN C dX7_doRow_77 (by omega) (by decide) (by decide) ?_
                refine r_istore (lv2 := [(5, .int (nI ((10 ^ j / 10) / 10))), (4, .int (tr1 (aKd a1 k) (aSr a1 k) (aCk a1 k) (aO a1 k) (aSd a1 k) (row / 10 ^ (j - 1) % 10))), (0, .ref m0), (1, .int (nI k)), (2, .int (nI row)), (3, .int (nI (10 ^ i)))]) C dX7_doRow_78 (by decide) rfl ?_
                refine r_goto (tgt := 49) C dX7_doRow_80 (by decide) ?_
                refine V.sub (lv2 := [(0, .ref m0), (1, .int (nI k)), (2, .int (nI row)), (3, .int (nI (10 ^ i))), (4, .int (tr1 (aKd a1 k) (aSr a1 k) (aCk a1 k) (aO a1 k) (aSd a1 k) (row / 10 ^ (j - 1) % 10))), (5, .int (nI ((10 ^ j / 10) / 10)))]) [2, 3, 4, 5, 1, 0] rfl ?_
                refine V.eq (σ2 := (mW G σ m0 [xstates, xtyped, xat, xreason, xdone, (nI (aKd a1 k)), (nI (aCk a1 k)), (nI (aSr a1 k))] [(ts1 f k (aKd a1 k) (aSr a1 k) (aCk a1 k) (aO a1 k) (aSd a1 k) (row / 10 ^ (j - 1) % 10) (aH a1)), fwas, gK, faside, ftext, f2_1, g2_2, fnext, ffar, fthen, fqueue, frankAt, fturnAt])) (lv2 := [(0, .ref m0), (1, .int (nI k)), (2, .int (nI row)), (3, .int (nI (10 ^ i))), (4, .int (tr1 (aKd a1 k) (aSr a1 k) (aCk a1 k) (aO a1 k) (aSd a1 k) (row / 10 ^ (j - 1) % 10))), (5, .int (nI (10 ^ (j - 1) / 10)))]) (st2 := []) rfl rfl (by rw [(show nI ((10 ^ j / 10) / 10) = nI (10 ^ (j - 1) / 10) from by rw [p10_d hj1])]) rfl ?_
                exact ih49 (j - 1) (tr1 (aKd a1 k) (aSr a1 k) (aCk a1 k) (aO a1 k) (aSd a1 k) (row / 10 ^ (j - 1) % 10)) (if okA a1 k (row / 10 ^ (j - 1) % 10) = true then tnA a1 k (row / 10 ^ (j - 1) % 10) else a1) (ts1 f k (aKd a1 k) (aSr a1 k) (aCk a1 k) (aO a1 k) (aSd a1 k) (row / 10 ^ (j - 1) % 10) (aH a1)) (nI (aKd a1 k)) (nI (aCk a1 k)) (nI (aSr a1 k)) f2_1 g2_2 (by omega) (rw_back hM1 hA1 hk1 hj1 hN1 hrest) (by omega)
        refine V.sub (lv2 := [(0, .ref m0), (1, .int (nI k)), (2, .int (nI row)), (3, .int (nI (10 ^ i))), (4, .int (nI 0)), (5, .int (nI (10 ^ i)))]) [2, 3, 4, 5, 1, 0] rfl ?_
        refine V.eq (σ2 := (mW G σ m0 [xstates, xtyped, xat, xreason, xdone, xkind, xn, xstrength] [fs, fwas, gK, faside, ftext, fsize, fburnt, fnext, ffar, fthen, fqueue, frankAt, fturnAt])) (lv2 := [(0, .ref m0), (1, .int (nI k)), (2, .int (nI row)), (3, .int (nI (10 ^ i))), (4, .int (nI 0)), (5, .int (nI (10 ^ D / 10)))]) (st2 := []) rfl rfl (by rw [(show nI (10 ^ i) = nI (10 ^ D / 10) from by rw [hi2, p10_d hD.1])]) rfl ?_
        exact L49 _ D (nI 0) a fs xkind xn xstrength fsize fburnt (by omega) (Or.inr ⟨0, by decide, rfl, htot, hM, hA, rfl⟩) (Nat.lt_succ_self _)
      · have hi2 := dg_lt hi hD cz32
        refine r_iload_n C dX7_doRow_35 rfl 3 rfl ?_
        refine r_bipush (v := nI 10) C dX7_doRow_36 (by decide) ?_
        refine r_imulN C dX7_doRow_38 ?_
        refine r_istore_n (lv2 := [(3, .int (nI ((10 ^ i) * 10))), (0, .ref m0), (1, .int (nI k)), (2, .int (nI row))]) C dX7_doRow_39 rfl (by decide) rfl ?_
        refine r_goto (tgt := 27) C dX7_doRow_40 (by decide) ?_
        refine V.sub (lv2 := [(0, .ref m0), (1, .int (nI k)), (2, .int (nI row)), (3, .int (nI ((10 ^ i) * 10)))]) [1, 2, 3, 0] rfl ?_
        refine V.eq (σ2 := (mW G σ m0 [xstates, xtyped, xat, xreason, xdone, xkind, xn, xstrength] [fs, fwas, gK, faside, ftext, fsize, fburnt, fnext, ffar, fthen, fqueue, frankAt, fturnAt])) (lv2 := [(0, .ref m0), (1, .int (nI k)), (2, .int (nI row)), (3, .int (nI (10 ^ (i + 1))))]) (st2 := []) rfl rfl (by rw [(show nI ((10 ^ i) * 10) = nI (10 ^ (i + 1)) from rfl)]) rfl ?_
        exact ih27 (i + 1) (by omega) (by omega)
  refine V.sub (lv2 := [(0, .ref m0), (1, .int (nI k)), (2, .int (nI row)), (3, .int (nI 1))]) [1, 2, 3, 0] rfl ?_
  refine V.eq (σ2 := (mW G σ m0 [xstates, xtyped, xat, xreason, xdone, xkind, xn, xstrength] [fs, fwas, gK, faside, ftext, fsize, fburnt, fnext, ffar, fthen, fqueue, frankAt, fturnAt])) (lv2 := [(0, .ref m0), (1, .int (nI k)), (2, .int (nI row)), (3, .int (nI (10 ^ 0)))]) (st2 := []) rfl rfl (by rw [(show nI 1 = nI (10 ^ 0) from rfl)]) rfl ?_
  exact L27 _ 0 (by omega) (Nat.lt_succ_self _)
