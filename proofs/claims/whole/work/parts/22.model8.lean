theorem nxV_eq {kd sr N r m t : Nat} (ht : t < 2 ^ 31) (h : nxV kd sr N r m = nI t) : aR1 kd sr N r m = true := by
  cases g : aR1 kd sr N r m with
  | true => rfl
  | false =>
    rw [nxV, if_neg (by rw [g]; decide)] at h
    have := nI_pos' ht
    rw [← h] at this
    exact absurd this (by decide)
theorem nxV_ne {kd sr N r m t : Nat} (hn : nx (sid kd) N r m = t) (h : ¬ nxV kd sr N r m = nI t) : aR1 kd sr N r m = false := by
  cases g : aR1 kd sr N r m with
  | false => rfl
  | true => exact absurd (by rw [nxV, if_pos g, hn]) h
theorem nxV_neg {kd sr N r m : Nat} (hh : shOK kd N sr) (hr : r < rR (sid kd) N) (hm : m ≤ N) (h : nxV kd sr N r m < 0) : ¬ aR1 kd sr N r m = true := by
  intro g
  rw [nxV, if_pos g] at h
  have h1 := nx_lt (sb := sid kd) hh.N hr hm
  have h2 := rR_le hh
  exact nI_pos (by omega) h
theorem bi_st {kd sr N : Nat} {d Q : Nat → Nat} {many q k t : Nat} (hh : shOK kd N sr) (h : BI kd sr N d Q many q k) (hq : q < many) (hk : k < N) (ht : Q q = t) (hF : d (nx (sid kd) N t (k + 1)) = 1000000) (he : aR1 kd sr N (nx (sid kd) N t (k + 1)) (k + 1) = true) :
    BI kd sr N (va_up d (nx (sid kd) N t (k + 1)) (d t + 1)) (va_up Q many (nx (sid kd) N t (k + 1))) (many + 1) q (k + 1) := by
  subst ht
  exact h.step hh hq hk hF he
theorem bi_sk {kd sr N : Nat} {d Q : Nat → Nat} {many q k t : Nat} (hh : shOK kd N sr) (h : BI kd sr N d Q many q k) (hq : q < many) (hk : k < N) (ht : Q q = t) (hs : aR1 kd sr N (nx (sid kd) N t (k + 1)) (k + 1) = false ∨ d (nx (sid kd) N t (k + 1)) ≠ 1000000) : BI kd sr N d Q many q (k + 1) := by
  subst ht
  exact h.skip hh hq hk hs
theorem upd_va {f : Nat → Int32} {d : Nat → Nat} {R x v : Nat} (h : ∀ j, j < R → f j = nI (d j)) : ∀ j, j < R → upd f x (nI v) j = nI (va_up d x v j) := fun j hj => by
  by_cases e : j = x
  · subst e
    rw [pk_us]
    simp [va_up]
  · rw [pk_un e, h j hj]
    simp [va_up, e]
theorem upd_vq {f : Nat → Int32} {d : Nat → Nat} {m v : Nat} (h : ∀ j, j < m → f j = nI (d j)) : ∀ j, j < m + 1 → upd f m (nI v) j = nI (va_up d m v j) := fun j hj => by
  by_cases e : j = m
  · subst e
    rw [pk_us]
    simp [va_up]
  · rw [pk_un e, h j (by omega)]
    simp [va_up, e]
/-- how many are at a distance -/
def ofd (dd : Nat → Nat) (w : Nat) : Nat → Nat
  | 0 => 0
  | i + 1 => ofd dd w i + (if dd i = w then 1 else 0)
/-- a turn that leads nearer -/
def nrr (kd sr N : Nat) (dd : Nat → Nat) (r m : Nat) : Prop := aR1 kd sr N r m = true ∧ dd (nx (sid kd) N r m) = dd r - 1
/-- the first of them -/
def fst9 (kd sr N : Nat) (dd : Nat → Nat) (r : Nat) : Nat := ((List.range N).find? fun j => aR1 kd sr N r (j + 1) && dd (nx (sid kd) N r (j + 1)) == dd r - 1).getD 0 + 1
theorem fst_ok {kd sr N : Nat} {dd : Nat → Nat} {r : Nat} (hh : shOK kd N sr) (hd : DistIs one kd sr N dd) (hr : r < rR (sid kd) N) (h0 : 0 < dd r) (h9 : dd r ≤ 9) :
    1 ≤ fst9 kd sr N dd r ∧ fst9 kd sr N dd r ≤ N ∧ nrr kd sr N dd r (fst9 kd sr N dd r) ∧ ∀ m, 1 ≤ m → m < fst9 kd sr N dd r → ¬ nrr kd sr N dd r m := by
  have hex : ∃ j, j < N ∧ nrr kd sr N dd r (j + 1) := by
    obtain ⟨-, h2, -⟩ := hd r hr
    obtain ⟨⟨l, hl⟩, hmin⟩ := h2 (by omega)
    cases l with
    | zero => have := hl.1; omega
    | succ l =>
      obtain ⟨m, r2, w2, e, hw, hp⟩ := hl
      have hr2 := (ed_back hh.N hr e).2
      refine ⟨m - 1, by have := e.1; have := e.2.1; omega, ?_⟩
      rw [show m - 1 + 1 = m by have := e.1; omega]
      refine ⟨e.2.2.1, ?_⟩
      rw [e.2.2.2]
      have hw1 : dd r = w2 + 1 := hw
      obtain ⟨g1, g2, g3⟩ := hd r2 hr2
      have hne : dd r2 ≠ 1000000 := fun z => g3 z w2 ⟨l, hp⟩
      have ha := (g2 hne).2 w2 ⟨l, hp⟩
      obtain ⟨l3, hl3⟩ := (g2 hne).1
      have hb := hmin (dd r2 + 1) ⟨l3 + 1, m, r2, dd r2, e, rfl, hl3⟩
      omega
  unfold fst9
  cases hf : (List.range N).find? (fun j => aR1 kd sr N r (j + 1) && dd (nx (sid kd) N r (j + 1)) == dd r - 1) with
  | none =>
    obtain ⟨j, hj, hn⟩ := hex
    have := List.find?_eq_none.mp hf j (List.mem_range.mpr hj)
    simp [hn.1, hn.2] at this
  | some j =>
    have h1 := List.find?_some hf
    have h2 := List.mem_range.mp (List.mem_of_find?_eq_some hf)
    simp at h1
    simp only [Option.getD_some]
    refine ⟨by omega, by omega, ⟨h1.1, h1.2⟩, fun m hm1 hm2 hn => ?_⟩
    have h3 := List.find?_eq_some_iff_getElem.mp hf
    obtain ⟨-, i, hi, hij, hall⟩ := h3
    simp at hij hi
    have h4 := hall (m - 1) (by omega)
    simp at h4
    rw [show m - 1 + 1 = m by omega] at h4
    rcases h4 with h4 | h4
    · rw [hn.1] at h4; cases h4
    · exact h4 hn.2
theorem fst_eq {kd sr N : Nat} {dd : Nat → Nat} {r j : Nat} (h : 1 ≤ fst9 kd sr N dd r ∧ fst9 kd sr N dd r ≤ N ∧ nrr kd sr N dd r (fst9 kd sr N dd r) ∧ ∀ m, 1 ≤ m → m < fst9 kd sr N dd r → ¬ nrr kd sr N dd r m) (_ : j < N) (hy : nrr kd sr N dd r (j + 1)) (hl : ∀ i, i < j → ¬ nrr kd sr N dd r (i + 1)) : j + 1 = fst9 kd sr N dd r := by
  rcases Nat.lt_trichotomy (j + 1) (fst9 kd sr N dd r) with g | g | g
  · exact absurd hy (h.2.2.2 _ (by omega) g)
  · exact g
  · have := hl (fst9 kd sr N dd r - 1) (by omega)
    rw [show fst9 kd sr N dd r - 1 + 1 = fst9 kd sr N dd r by omega] at this
    exact absurd h.2.2.1 this
theorem fst_nx {kd sr N : Nat} {dd : Nat → Nat} {r j : Nat} (h : 1 ≤ fst9 kd sr N dd r ∧ fst9 kd sr N dd r ≤ N ∧ nrr kd sr N dd r (fst9 kd sr N dd r) ∧ ∀ m, 1 ≤ m → m < fst9 kd sr N dd r → ¬ nrr kd sr N dd r m) (hl : ∀ i, i < j → ¬ nrr kd sr N dd r (i + 1)) (hn : ¬ nrr kd sr N dd r (j + 1)) : j + 1 < N := by
  rcases Nat.lt_or_ge (j + 1) N with g | g
  · exact g
  · have h1 : fst9 kd sr N dd r - 1 ≤ j := by omega
    have h2 : ¬ nrr kd sr N dd r (fst9 kd sr N dd r - 1 + 1) := by
      rcases Nat.lt_or_eq_of_le h1 with g2 | g2
      · exact hl _ g2
      · rw [g2]; exact hn
    rw [show fst9 kd sr N dd r - 1 + 1 = fst9 kd sr N dd r by omega] at h2
    exact absurd h.2.2.1 h2
/-- the row that follows the first turns that lead nearer -/
def fwR (kd sr N : Nat) (dd : Nat → Nat) : Nat → Nat → Nat → Nat
  | 0, _, row => row
  | w + 1, r, row => if dd r = 0 then row else fwR kd sr N dd w (nx (sid kd) N r (fst9 kd sr N dd r)) (10 * row + fst9 kd sr N dd r)
theorem fwR_0 {kd sr N : Nat} {dd : Nat → Nat} {r row : Nat} (h : dd r = 0) : fwR kd sr N dd (dd r) r row = row := by rw [h]; rfl
theorem fwR_s {kd sr N : Nat} {dd : Nat → Nat} {r row j : Nat} (hj : j + 1 = fst9 kd sr N dd r) (h0 : 0 < dd r) (h : dd (nx (sid kd) N r (j + 1)) = dd r - 1) : fwR kd sr N dd (dd (nx (sid kd) N r (j + 1))) (nx (sid kd) N r (j + 1)) (10 * row + (j + 1)) = fwR kd sr N dd (dd r) r row := by
  obtain ⟨z, hz⟩ : ∃ z, dd r = z + 1 := ⟨dd r - 1, by omega⟩
  rw [h, hz, fwR, if_neg (by omega), ← hj]
  rfl

abbrev rm_X7_measures : Room := { frames := 2, cells := 0, slots := 0, locals := 50 }
set_option maxRecDepth 100000 in
set_option maxHeartbeats 4000000 in
theorem c_X7_measures {l : Launch} {G : gG} {n : Nat} {σ : gS} {m0 : Nat} {xstates xtyped xat xreason xdone xstrength : Int32} {fs fwas fbegun faside ftext fsize fburnt fnext ffar fthen fqueue frankAt fturnAt : Nat → Int32} {kd N sr : Nat} (hsh : shOK kd N sr) (hnx : NxIs fnext kd sr N (rR (sid kd) N)) : GM l G yX7_measures cX7_measures 6 none rm_X7_measures n (mW G σ m0 [xstates, xtyped, xat, xreason, xdone, nI kd, nI N, xstrength] [fs, fwas, fbegun, faside, ftext, fsize, fburnt, fnext, ffar, fthen, fqueue, frankAt, fturnAt]) [.ref m0] (fun rv n2 σ2 => (none : Option Value) = rv ∧ n = n2 ∧ ∃ (f3 : Nat → Int32) (q3 : Nat → Int32) (d3 : Nat → Nat) (f2 : Nat → Int32) (g2 : Nat → Int32), (mW G σ m0 [xstates, xtyped, xat, xreason, xdone, nI kd, nI N, xstrength] [fs, fwas, fbegun, faside, ftext, f2, g2, fnext, f3, fthen, q3, frankAt, fturnAt]) = σ2 ∧ (DistIs one kd sr N d3) ∧ (∀ r, r < rR (sid kd) N → f3 r = nI (d3 r))) := by
  refine GM.intro (by decide +kernel) (Nat.le_of_ble_eq_true rfl) (fun p e s m args below meth c C hr hlocks hname po hpo => ?_)
  have C : Cx p s m args c cX7_measures 6 RX7 G := C
  have hN6 := hsh.N
  have hRl := rR_le hsh
  have hRp := rR_pos (sb := sid kd) hN6
  refine r_iconst (v := nI 0) C dX7_measures_0 (by decide) ?_
  refine r_istore_n (lv2 := [(1, .int (nI 0)), (0, .ref m0)]) C dX7_measures_1 rfl (by decide) rfl ?_
  have L2 : ∀ (fu : Nat) (i : Nat) (f1 : Nat → Int32), (i ≤ rR (sid kd) N) → (∀ j, j < i → f1 j = nI ((fun r => if r = 0 then 0 else 1000000) j)) → (rR (sid kd) N + 1 - i) < fu → V p l e rm_X7_measures s m args below meth c G 6 (MQ below (gQ G po) args s rm_X7_measures.cells rm_X7_measures.slots (gF G)) 0 0 n (mW G σ m0 [xstates, xtyped, xat, xreason, xdone, nI kd, nI N, xstrength] [fs, fwas, fbegun, faside, ftext, fsize, fburnt, fnext, f1, fthen, fqueue, frankAt, fturnAt]) 2 [(0, .ref m0), (1, .int (nI i))] [] := by
    intro fu
    induction fu with
    | zero => intro i f1 hi hf1 hm; exact absurd hm (Nat.not_lt_zero _)
    | succ fu ih2 =>
      intro i f1 hi hf1 hm2
      refine r_iload_n C dX7_measures_2 rfl 1 rfl ?_
      refine r_aload_n C dX7_measures_3 rfl 0 rfl ?_
      refine r_callV (As := []) C (c_X7_all (kd := kd) (N := N) (hN6) (hsh.1)) wM_X7_136 wI_X7_all wN_X7 wC_X7_all wV_X7_all hd_X7_all ⟨Nat.le_of_ble_eq_true rfl, Nat.le_of_ble_eq_true rfl⟩ rfl (mW_o _ _ _ _ _) rfl rfl (Nat.le_of_ble_eq_true rfl) dX7_measures_4 ⟨Nat.le_of_ble_eq_true rfl, Nat.le_of_ble_eq_true rfl⟩ (fun rv n2 σ2 hp => ?_)
      obtain ⟨rfl, rfl, rfl⟩ := hp
      refine V.eq (σ2 := (mW G σ m0 [xstates, xtyped, xat, xreason, xdone, nI kd, nI N, xstrength] [fs, fwas, fbegun, faside, ftext, fsize, fburnt, fnext, f1, fthen, fqueue, frankAt, fturnAt])) (n2 := n) (st2 := [.int (nI (fac N * sm (sid kd) N)), .int (nI i)]) rfl rfl rfl rfl ?_
      refine V.top (y := nI (rR (sid kd) N)) (rfl) ?_
      refine r_icmp_geN (tgt := 32) C dX7_measures_7 (by decide) (by omega) (by omega) (fun cz7 => ?_) (fun cz7 => ?_)
      · refine r_aload_n C dX7_measures_32 rfl 0 rfl ?_
        refine rm_get (v := .ref (m0 + 11)) C 18 (by decide) wF_X7_41 rfl dX7_measures_33 ?_
        refine r_iconst (v := nI 0) C dX7_measures_36 (by decide) ?_
        refine r_iconst (v := nI 0) C dX7_measures_37 (by decide) ?_
        refine rm_ast (f := fqueue) (len := 3840) (A2 := [fs, fwas, fbegun, faside, ftext, fsize, fburnt, fnext, f1, fthen, (upd fqueue 0 (nI 0)), frankAt, fturnAt]) C 10 rfl rfl (by decide) (by decide) rfl rfl dX7_measures_38 ?_
        refine r_iconst (v := nI 1) C dX7_measures_39 (by decide) ?_
        refine r_istore_n (lv2 := [(1, .int (nI 1)), (0, .ref m0)]) C dX7_measures_40 rfl (by decide) rfl ?_
        refine r_iconst (v := nI 0) C dX7_measures_41 (by decide) ?_
        refine r_istore_n (lv2 := [(2, .int (nI 0)), (1, .int (nI 1)), (0, .ref m0)]) C dX7_measures_42 rfl (by decide) rfl ?_
        have L43 : ∀ (fu : Nat) (many : Nat) (q : Nat) (d : Nat → Nat) (Q : Nat → Nat) (fa : Nat → Int32) (qu : Nat → Int32) (f0 : Nat → Int32) (g0 : Nat → Int32), (BI kd sr N d Q many q 0) → (∀ j, j < rR (sid kd) N → fa j = nI (d j)) → (∀ j, j < many → qu j = nI (Q j)) → (q ≤ many) → (rR (sid kd) N + 1 - q) < fu → V p l e rm_X7_measures s m args below meth c G 6 (MQ below (gQ G po) args s rm_X7_measures.cells rm_X7_measures.slots (gF G)) 0 0 n (mW G σ m0 [xstates, xtyped, xat, xreason, xdone, nI kd, nI N, xstrength] [fs, fwas, fbegun, faside, ftext, f0, g0, fnext, fa, fthen, qu, frankAt, fturnAt]) 43 [(0, .ref m0), (1, .int (nI many)), (2, .int (nI q))] [] := by
          intro fu
          induction fu with
          | zero => intro many q d Q fa qu f0 g0 hBI hfa hqu hqm hm; exact absurd hm (Nat.not_lt_zero _)
          | succ fu ih43 =>
            intro many q d Q fa qu f0 g0 hBI hfa hqu hqm hm43
            have hmR := hBI.many
            refine r_iload_n C dX7_measures_43 rfl 2 rfl ?_
            refine r_iload_n C dX7_measures_44 rfl 1 rfl ?_
            refine r_icmp_geN (tgt := 153) C dX7_measures_45 (by decide) (by omega) (by omega) (fun cz45 => ?_) (fun cz45 => ?_)
            · have hdone := hBI.done hsh (by omega)
              exact r_vret C hr hlocks (Nat.le_of_ble_eq_true rfl) (Nat.le_of_ble_eq_true rfl) dX7_measures_153 (hpo _ _ _ ⟨rfl, rfl, fa, qu, d, f0, g0, rfl, hdone, hfa⟩)
            · refine r_aload_n C dX7_measures_48 rfl 0 rfl ?_
              refine rm_get (v := .ref (m0 + 11)) C 18 (by decide) wF_X7_41 rfl dX7_measures_49 ?_
              refine r_iload_n C dX7_measures_52 rfl 2 rfl ?_
              refine rm_ald (f := qu) (len := 3840) C 10 rfl rfl (by decide) (by omega) dX7_measures_53 ?_
              refine V.top (y := nI (Q q)) (hqu q (by omega)) ?_
              have hto := hBI.2.2.1 q (by omega)
              refine r_istore_n (lv2 := [(3, .int (nI (Q q))), (0, .ref m0), (1, .int (nI many)), (2, .int (nI q))]) C dX7_measures_54 rfl (by decide) rfl ?_
              refine r_iconst (v := nI 1) C dX7_measures_55 (by decide) ?_
              refine r_istore (lv2 := [(4, .int (nI 1)), (3, .int (nI (Q q))), (0, .ref m0), (1, .int (nI many)), (2, .int (nI q))]) C dX7_measures_56 (by decide) rfl ?_
              have L58 : ∀ (fu : Nat) (k1 : Nat) (many2 : Nat) (d2 : Nat → Nat) (Q2 : Nat → Nat) (fa2 : Nat → Int32) (qu2 : Nat → Int32) (f5 : Nat → Int32) (g5 : Nat → Int32), (k1 ≤ N) → (BI kd sr N d2 Q2 many2 q k1) → (Q2 q = Q q) → (∀ j, j < rR (sid kd) N → fa2 j = nI (d2 j)) → (∀ j, j < many2 → qu2 j = nI (Q2 j)) → (q < many2) → (N + 1 - k1) < fu → V p l e rm_X7_measures s m args below meth c G 6 (MQ below (gQ G po) args s rm_X7_measures.cells rm_X7_measures.slots (gF G)) 0 0 n (mW G σ m0 [xstates, xtyped, xat, xreason, xdone, nI kd, nI N, xstrength] [fs, fwas, fbegun, faside, ftext, f5, g5, fnext, fa2, fthen, qu2, frankAt, fturnAt]) 58 [(0, .ref m0), (1, .int (nI many2)), (2, .int (nI q)), (3, .int (nI (Q q))), (4, .int (nI (k1 + 1)))] [] := by
                intro fu
                induction fu with
                | zero => intro k1 many2 d2 Q2 fa2 qu2 f5 g5 hk hB2 hto2 hfa2 hqu2 hqm2 hm; exact absurd hm (Nat.not_lt_zero _)
                | succ fu ih58 =>
                  intro k1 many2 d2 Q2 fa2 qu2 f5 g5 hk hB2 hto2 hfa2 hqu2 hqm2 hm58
                  have hmR2 := hB2.many
                  refine r_iload C dX7_measures_58 4 rfl ?_
                  refine r_aload_n C dX7_measures_60 rfl 0 rfl ?_
                  refine rm_get (v := .int (nI N)) C 11 (by decide) wF_X7_59 rfl dX7_measures_61 ?_
                  refine r_icmp_gtN (tgt := 147) C dX7_measures_64 (by decide) (by omega) (by omega) (fun cz64 => ?_) (fun cz64 => ?_)
                  · refine r_iinc (v := nI (q + 1)) (lv2 := [(2, .int (nI (q + 1))), (0, .ref m0), (1, .int (nI many2)), (3, .int (nI (Q q))), (4, .int (nI (k1 + 1)))]) C dX7_measures_147 (k := 2) rfl (nI_add _ 1) (by decide) rfl ?_
                    refine r_goto (tgt := 43) C dX7_measures_150 (by decide) ?_
                    refine V.sub (lv2 := [(0, .ref m0), (1, .int (nI many2)), (2, .int (nI (q + 1)))]) [1, 2, 0] rfl ?_
                    exact ih43 many2 (q + 1) d2 Q2 fa2 qu2 f5 g5 (hB2.next (by omega) (by omega)) (hfa2) (hqu2) (by omega) (by omega)
                  · refine r_aload_n C dX7_measures_67 rfl 0 rfl ?_
                    refine r_iload_n C dX7_measures_68 rfl 3 rfl ?_
                    refine r_callV (As := [.int (nI (Q q))]) C (c_X7_unranks (kd := kd) (N := N) (o := oR (sid kd) N (Q q)) (sd := sR (sid kd) N (Q q)) (r := Q q) (hN6) (hsh.2.1) (oR_lt hto.1) (hsh.1) (sR_lt) (rk_R _ _ _)) wM_X7_139 wI_X7_unranks wN_X7 wC_X7_unranks wV_X7_unranks hd_X7_unranks ⟨Nat.le_of_ble_eq_true rfl, Nat.le_of_ble_eq_true rfl⟩ rfl (mW_o _ _ _ _ _) rfl rfl (Nat.le_of_ble_eq_true rfl) dX7_measures_69 ⟨Nat.le_of_ble_eq_true rfl, Nat.le_of_ble_eq_true rfl⟩ (fun rv n2 σ2 hp => ?_)
                    obtain ⟨rfl, rfl, fU, gU, rfl, hzU, hbU⟩ := hp
                    refine V.eq (σ2 := (mW G σ m0 [xstates, xtyped, xat, xreason, xdone, nI kd, nI N, xstrength] [fs, fwas, fbegun, faside, ftext, fU, gU, fnext, fa2, fthen, qu2, frankAt, fturnAt])) (n2 := n) (st2 := []) rfl rfl rfl rfl ?_
                    refine r_aload_n C dX7_measures_72 rfl 0 rfl ?_
                    refine r_iload C dX7_measures_73 4 rfl ?_
                    refine r_callV (As := [.int (nI (k1 + 1))]) C (c_X7_turns (kd := kd) (N := N) (o := oR (sid kd) N (Q q)) (sd := sR (sid kd) N (Q q)) (k := k1 + 1) (hN6) (hsh.2.1) (oR_lt hto.1) (hzU) (hbU) (hsh.1) (sR_lt) (by omega) (by omega)) wM_X7_116 wI_X7_turns wN_X7 wC_X7_turns wV_X7_turns hd_X7_turns ⟨Nat.le_of_ble_eq_true rfl, Nat.le_of_ble_eq_true rfl⟩ rfl (mW_o _ _ _ _ _) rfl rfl (Nat.le_of_ble_eq_true rfl) dX7_measures_75 ⟨Nat.le_of_ble_eq_true rfl, Nat.le_of_ble_eq_true rfl⟩ (fun rv n2 σ2 hp => ?_)
                    obtain ⟨rfl, rfl, fT, gT, rfl, hzT, hbT⟩ := hp
                    refine V.eq (σ2 := (mW G σ m0 [xstates, xtyped, xat, xreason, xdone, nI kd, nI N, xstrength] [fs, fwas, fbegun, faside, ftext, fT, gT, fnext, fa2, fthen, qu2, frankAt, fturnAt])) (n2 := n) (st2 := []) rfl rfl rfl rfl ?_
                    refine r_aload_n C dX7_measures_78 rfl 0 rfl ?_
                    refine r_callV (As := []) C (c_X7_rank (kd := kd) (N := N) (o := tnO N (oR (sid kd) N (Q q)) (k1 + 1)) (sd := tnS (sid kd) (sR (sid kd) N (Q q)) (k1 + 1)) (hN6) (hsh.2.1) (tnO_lt hN6 (oR_lt hto.1) (by omega)) (hzT) (hbT) (hsh.1) (tnS_lt hN6 sR_lt (by omega))) wM_X7_130 wI_X7_rank wN_X7 wC_X7_rank wV_X7_rank hd_X7_rank ⟨Nat.le_of_ble_eq_true rfl, Nat.le_of_ble_eq_true rfl⟩ rfl (mW_o _ _ _ _ _) rfl rfl (Nat.le_of_ble_eq_true rfl) dX7_measures_79 ⟨Nat.le_of_ble_eq_true rfl, Nat.le_of_ble_eq_true rfl⟩ (fun rv n2 σ2 hp => ?_)
                    obtain ⟨rfl, rfl, rfl⟩ := hp
                    refine V.eq (σ2 := (mW G σ m0 [xstates, xtyped, xat, xreason, xdone, nI kd, nI N, xstrength] [fs, fwas, fbegun, faside, ftext, fT, gT, fnext, fa2, fthen, qu2, frankAt, fturnAt])) (n2 := n) (st2 := [.int (nI (rk (sid kd) N (tnO N (oR (sid kd) N (Q q)) (k1 + 1)) (tnS (sid kd) (sR (sid kd) N (Q q)) (k1 + 1))))]) rfl rfl rfl rfl ?_
                    refine V.top (y := nI (nx (sid kd) N (Q q) (k1 + 1))) (rfl) ?_
                    have hF := nx_lt hN6 hto.1 (show k1 + 1 ≤ N by omega)
                    refine r_istore (lv2 := [(5, .int (nI (nx (sid kd) N (Q q) (k1 + 1)))), (0, .ref m0), (1, .int (nI many2)), (2, .int (nI q)), (3, .int (nI (Q q))), (4, .int (nI (k1 + 1)))]) C dX7_measures_82 (by decide) rfl ?_
                    refine r_aload_n C dX7_measures_84 rfl 1 rfl ?_
                    refine rm_get (v := .ref (m0 + 8)) C 15 (by decide) wF_X7_32 rfl dX7_measures_85 ?_
                    refine r_bipush (v := nI 6) C dX7_measures_88 (by decide) ?_
                    refine r_iload C dX7_measures_90 0 rfl ?_
                    refine r_imulN C dX7_measures_92 ?_
                    refine r_iload C dX7_measures_93 5 rfl ?_
                    refine r_iaddN C dX7_measures_95 ?_
                    refine r_iconst (v := nI 1) C dX7_measures_96 (by decide) ?_
                    refine r_isubN C dX7_measures_97 (by omega) ?_
                    refine rm_ald (f := fnext) (len := 23040) C 7 rfl rfl (by decide) (by omega) dX7_measures_98 ?_
                    refine V.top (y := nxV kd sr N (nx (sid kd) N (Q q) (k1 + 1)) (k1 + 1)) (by rw [show 6 * nx (sid kd) N (Q q) (k1 + 1) + (k1 + 1) - 1 = 6 * nx (sid kd) N (Q q) (k1 + 1) + k1 by omega]; exact hnx _ hF _ (by omega)) ?_
                    have hnn := nx_in hN6 hto.1 (show k1 + 1 ≤ N by omega)
                    refine r_iload_n C dX7_measures_99 rfl 4 rfl ?_
                    refine r_icmp_ne (tgt := 141) C dX7_measures_100 (by decide) (fun cz100 => ?_) (fun cz100 => ?_)
                    · have hs9 := nxV_ne hnn cz100
                      refine r_iinc (v := nI (k1 + 2)) (lv2 := [(4, .int (nI (k1 + 2))), (5, .int (nI (nx (sid kd) N (Q q) (k1 + 1)))), (0, .ref m0), (1, .int (nI many2)), (2, .int (nI q)), (3, .int (nI (Q q)))]) C dX7_measures_141 (k := 5) rfl (nI_add _ 1) (by decide) rfl ?_
                      refine r_goto (tgt := 58) C dX7_measures_144 (by decide) ?_
                      refine V.sub (lv2 := [(0, .ref m0), (1, .int (nI many2)), (2, .int (nI q)), (3, .int (nI (Q q))), (4, .int (nI (k1 + 2)))]) [2, 3, 4, 5, 0] rfl ?_
                      refine V.eq (σ2 := (mW G σ m0 [xstates, xtyped, xat, xreason, xdone, nI kd, nI N, xstrength] [fs, fwas, fbegun, faside, ftext, fT, gT, fnext, fa2, fthen, qu2, frankAt, fturnAt])) (lv2 := [(0, .ref m0), (1, .int (nI many2)), (2, .int (nI q)), (3, .int (nI (Q q))), (4, .int (nI ((k1 + 1) + 1)))]) (st2 := []) rfl rfl (by rw [(show nI (k1 + 2) = nI ((k1 + 1) + 1) from congrArg nI (show k1 + 2 = (k1 + 1) + 1 by omega))]) rfl ?_
                      exact ih58 (k1 + 1) many2 d2 Q2 fa2 qu2 fT gT (by omega) (by first | exact bi_st hsh hB2 hqm2 (by omega) hto2 cz112 he9 | exact bi_sk hsh hB2 hqm2 (by omega) hto2 (Or.inl hs9) | exact bi_sk hsh hB2 hqm2 (by omega) hto2 (Or.inr cz112)) (by first | exact hto2 | (simp only [va_up]; rw [if_neg (by omega)]; exact hto2)) (by first | exact hfa2 | exact fun j hj => upd_va hfa2 j hj) (by first | exact hqu2 | exact fun j hj => upd_vq hqu2 j hj) (by omega) (by omega)
                    · have he9 := nxV_eq (by omega) cz100
                      refine r_aload_n C dX7_measures_103 rfl 1 rfl ?_
                      refine rm_get (v := .ref (m0 + 9)) C 16 (by decide) wF_X7_35 rfl dX7_measures_104 ?_
                      refine r_iload C dX7_measures_107 0 rfl ?_
                      refine rm_ald (f := fa2) (len := 3840) C 8 rfl rfl (by decide) (by omega) dX7_measures_109 ?_
                      refine V.top (y := nI (d2 (nx (sid kd) N (Q q) (k1 + 1)))) (hfa2 (nx (sid kd) N (Q q) (k1 + 1)) (by assumption)) ?_
                      refine r_ldc C wQ_X7_142 dX7_measures_110 ?_
                      refine V.top (y := nI 1000000) (by decide) ?_
                      have hd10 := hB2.2.2.2.2.2.2.2.2.2 _ hF
                      refine r_icmp_neN (tgt := 141) C dX7_measures_112 (by decide) (by omega) (by decide) (fun cz112 => ?_) (fun cz112 => ?_)
                      · refine r_iinc (v := nI (k1 + 2)) (lv2 := [(4, .int (nI (k1 + 2))), (5, .int (nI (nx (sid kd) N (Q q) (k1 + 1)))), (0, .ref m0), (1, .int (nI many2)), (2, .int (nI q)), (3, .int (nI (Q q)))]) C dX7_measures_141 (k := 5) rfl (nI_add _ 1) (by decide) rfl ?_
                        refine r_goto (tgt := 58) C dX7_measures_144 (by decide) ?_
                        refine V.sub (lv2 := [(0, .ref m0), (1, .int (nI many2)), (2, .int (nI q)), (3, .int (nI (Q q))), (4, .int (nI (k1 + 2)))]) [2, 3, 4, 5, 0] rfl ?_
                        refine V.eq (σ2 := (mW G σ m0 [xstates, xtyped, xat, xreason, xdone, nI kd, nI N, xstrength] [fs, fwas, fbegun, faside, ftext, fT, gT, fnext, fa2, fthen, qu2, frankAt, fturnAt])) (lv2 := [(0, .ref m0), (1, .int (nI many2)), (2, .int (nI q)), (3, .int (nI (Q q))), (4, .int (nI ((k1 + 1) + 1)))]) (st2 := []) rfl rfl (by rw [(show nI (k1 + 2) = nI ((k1 + 1) + 1) from congrArg nI (show k1 + 2 = (k1 + 1) + 1 by omega))]) rfl ?_
                        exact ih58 (k1 + 1) many2 d2 Q2 fa2 qu2 fT gT (by omega) (by first | exact bi_st hsh hB2 hqm2 (by omega) hto2 cz112 he9 | exact bi_sk hsh hB2 hqm2 (by omega) hto2 (Or.inl hs9) | exact bi_sk hsh hB2 hqm2 (by omega) hto2 (Or.inr cz112)) (by first | exact hto2 | (simp only [va_up]; rw [if_neg (by omega)]; exact hto2)) (by first | exact hfa2 | exact fun j hj => upd_va hfa2 j hj) (by first | exact hqu2 | exact fun j hj => upd_vq hqu2 j hj) (by omega) (by omega)
                      · have hml := hB2.2.1 ▸ kno_lt hF cz112
                        have hQ1 := hto.1
                        have hdq := (hB2.2.2.1 q (by omega)).2
                        rw [hto2] at hdq
                        refine r_aload_n C dX7_measures_115 rfl 1 rfl ?_
                        refine rm_get (v := .ref (m0 + 9)) C 16 (by decide) wF_X7_35 rfl dX7_measures_116 ?_
                        refine r_iload C dX7_measures_119 0 rfl ?_
                        refine r_aload_n C dX7_measures_121 rfl 1 rfl ?_
                        refine rm_get (v := .ref (m0 + 9)) C 16 (by decide) wF_X7_35 rfl dX7_measures_122 ?_
                        refine r_iload_n C dX7_measures_125 rfl 4 rfl ?_
                        refine rm_ald (f := fa2) (len := 3840) C 8 rfl rfl (by decide) (by omega) dX7_measures_126 ?_
                        refine V.top (y := nI (d2 (Q q))) (hfa2 (Q q) (by assumption)) ?_
                        refine r_iconst (v := nI 1) C dX7_measures_127 (by decide) ?_
                        refine r_iaddN C dX7_measures_128 ?_
                        refine rm_ast (f := fa2) (len := 3840) (A2 := [fs, fwas, fbegun, faside, ftext, fT, gT, fnext, (upd fa2 (nx (sid kd) N (Q q) (k1 + 1)) (nI ((d2 (Q q)) + 1))), fthen, qu2, frankAt, fturnAt]) C 8 rfl rfl (by decide) (by omega) rfl rfl dX7_measures_129 ?_
                        refine r_aload_n C dX7_measures_130 rfl 1 rfl ?_
                        refine rm_get (v := .ref (m0 + 11)) C 18 (by decide) wF_X7_41 rfl dX7_measures_131 ?_
                        refine r_iload_n C dX7_measures_134 rfl 2 rfl ?_
                        refine r_iload C dX7_measures_135 0 rfl ?_
                        refine rm_ast (f := qu2) (len := 3840) (A2 := [fs, fwas, fbegun, faside, ftext, fT, gT, fnext, (upd fa2 (nx (sid kd) N (Q q) (k1 + 1)) (nI ((d2 (Q q)) + 1))), fthen, (upd qu2 many2 (nI (nx (sid kd) N (Q q) (k1 + 1)))), frankAt, fturnAt]) C 10 rfl rfl (by decide) (by omega) rfl rfl dX7_measures_137 ?_
                        refine r_iinc (v := nI (many2 + 1)) (lv2 := [(1, .int (nI (many2 + 1))), (5, .int (nI (nx (sid kd) N (Q q) (k1 + 1)))), (0, .ref m0), (2, .int (nI q)), (3, .int (nI (Q q))), (4, .int (nI (k1 + 1)))]) C dX7_measures_138 (k := 2) rfl (nI_add _ 1) (by decide) rfl ?_
                        refine r_iinc (v := nI (k1 + 2)) (lv2 := [(4, .int (nI (k1 + 2))), (1, .int (nI (many2 + 1))), (5, .int (nI (nx (sid kd) N (Q q) (k1 + 1)))), (0, .ref m0), (2, .int (nI q)), (3, .int (nI (Q q)))]) C dX7_measures_141 (k := 5) rfl (nI_add _ 1) (by decide) rfl ?_
                        refine r_goto (tgt := 58) C dX7_measures_144 (by decide) ?_
                        refine V.sub (lv2 := [(0, .ref m0), (1, .int (nI (many2 + 1))), (2, .int (nI q)), (3, .int (nI (Q q))), (4, .int (nI (k1 + 2)))]) [3, 1, 4, 5, 0] rfl ?_
                        refine V.eq (σ2 := (mW G σ m0 [xstates, xtyped, xat, xreason, xdone, nI kd, nI N, xstrength] [fs, fwas, fbegun, faside, ftext, fT, gT, fnext, (upd fa2 (nx (sid kd) N (Q q) (k1 + 1)) (nI ((d2 (Q q)) + 1))), fthen, (upd qu2 many2 (nI (nx (sid kd) N (Q q) (k1 + 1)))), frankAt, fturnAt])) (lv2 := [(0, .ref m0), (1, .int (nI (many2 + 1))), (2, .int (nI q)), (3, .int (nI (Q q))), (4, .int (nI ((k1 + 1) + 1)))]) (st2 := []) rfl rfl (by rw [(show nI (k1 + 2) = nI ((k1 + 1) + 1) from congrArg nI (show k1 + 2 = (k1 + 1) + 1 by omega))]) rfl ?_
                        exact ih58 (k1 + 1) (many2 + 1) (va_up d2 (nx (sid kd) N (Q q) (k1 + 1)) (d2 (Q q) + 1)) (va_up Q2 many2 (nx (sid kd) N (Q q) (k1 + 1))) (upd fa2 (nx (sid kd) N (Q q) (k1 + 1)) (nI ((d2 (Q q)) + 1))) (upd qu2 many2 (nI (nx (sid kd) N (Q q) (k1 + 1)))) fT gT (by omega) (by first | exact bi_st hsh hB2 hqm2 (by omega) hto2 cz112 he9 | exact bi_sk hsh hB2 hqm2 (by omega) hto2 (Or.inl hs9) | exact bi_sk hsh hB2 hqm2 (by omega) hto2 (Or.inr cz112)) (by first | exact hto2 | (simp only [va_up]; rw [if_neg (by omega)]; exact hto2)) (by first | exact hfa2 | exact fun j hj => upd_va hfa2 j hj) (by first | exact hqu2 | exact fun j hj => upd_vq hqu2 j hj) (by omega) (by omega)
              refine V.sub (lv2 := [(0, .ref m0), (1, .int (nI many)), (2, .int (nI q)), (3, .int (nI (Q q))), (4, .int (nI 1))]) [2, 3, 4, 1, 0] rfl ?_
              refine V.eq (σ2 := (mW G σ m0 [xstates, xtyped, xat, xreason, xdone, nI kd, nI N, xstrength] [fs, fwas, fbegun, faside, ftext, f0, g0, fnext, fa, fthen, qu, frankAt, fturnAt])) (lv2 := [(0, .ref m0), (1, .int (nI many)), (2, .int (nI q)), (3, .int (nI (Q q))), (4, .int (nI (0 + 1)))]) (st2 := []) rfl rfl (by rw [(show nI 1 = nI (0 + 1) from congrArg nI (show 1 = 0 + 1 by omega))]) rfl ?_
              exact L58 _ 0 many d Q fa qu f0 g0 (by omega) (hBI) (rfl) (hfa) (hqu) (by omega) (Nat.lt_succ_self _)
        refine V.sub (lv2 := [(0, .ref m0), (1, .int (nI 1)), (2, .int (nI 0))]) [2, 1, 0] rfl ?_
        exact L43 _ 1 0 (fun r => if r = 0 then 0 else 1000000) (fun _ => 0) f1 (upd fqueue 0 (nI 0)) fsize fburnt (BI.init hN6) (fun j hj => hf1 j (by omega)) (fun j hj => by rw [show j = 0 by omega, pk_us]) (by omega) (Nat.lt_succ_self _)
      · refine r_aload_n C dX7_measures_10 rfl 0 rfl ?_
        refine rm_get (v := .ref (m0 + 9)) C 16 (by decide) wF_X7_35 rfl dX7_measures_11 ?_
        refine r_iload_n C dX7_measures_14 rfl 1 rfl ?_
        refine r_iload_n C dX7_measures_15 rfl 1 rfl ?_
        refine r_if_neN (tgt := 23) C dX7_measures_16 (by decide) (by omega) (fun cz16 => ?_) (fun cz16 => ?_)
        · refine r_ldc C wQ_X7_142 dX7_measures_23 ?_
          refine V.top (y := nI 1000000) (by decide) ?_
          refine rm_ast (f := f1) (len := 3840) (A2 := [fs, fwas, fbegun, faside, ftext, fsize, fburnt, fnext, (upd f1 i (nI 1000000)), fthen, fqueue, frankAt, fturnAt]) C 8 rfl rfl (by decide) (by omega) rfl rfl dX7_measures_25 ?_
          refine r_iinc (v := nI (i + 1)) (lv2 := [(1, .int (nI (i + 1))), (0, .ref m0)]) C dX7_measures_26 (k := 1) rfl (nI_add _ 1) (by decide) rfl ?_
          refine r_goto (tgt := 2) C dX7_measures_29 (by decide) ?_
          refine V.sub (lv2 := [(0, .ref m0), (1, .int (nI (i + 1)))]) [1, 0] rfl ?_
          exact ih2 (i + 1) (upd f1 i (nI 1000000)) (by omega) (fun j hj => upd_step (g := fun j => nI ((fun r => if r = 0 then 0 else 1000000) j)) hj hf1 (by simp [cz16])) (by omega)
        · refine r_iconst (v := nI 0) C dX7_measures_19 (by decide) ?_
          refine r_goto (tgt := 25) C dX7_measures_20 (by decide) ?_
          refine rm_ast (f := f1) (len := 3840) (A2 := [fs, fwas, fbegun, faside, ftext, fsize, fburnt, fnext, (upd f1 i (nI 0)), fthen, fqueue, frankAt, fturnAt]) C 8 rfl rfl (by decide) (by omega) rfl rfl dX7_measures_25 ?_
          refine r_iinc (v := nI (i + 1)) (lv2 := [(1, .int (nI (i + 1))), (0, .ref m0)]) C dX7_measures_26 (k := 1) rfl (nI_add _ 1) (by decide) rfl ?_
          refine r_goto (tgt := 2) C dX7_measures_29 (by decide) ?_
          refine V.sub (lv2 := [(0, .ref m0), (1, .int (nI (i + 1)))]) [1, 0] rfl ?_
          exact ih2 (i + 1) (upd f1 i (nI 0)) (by omega) (fun j hj => upd_step (g := fun j => nI ((fun r => if r = 0 then 0 else 1000000) j)) hj hf1 (by simp [cz16])) (by omega)
  refine V.sub (lv2 := [(0, .ref m0), (1, .int (nI 0))]) [1, 0] rfl ?_
  exact L2 _ 0 ffar (by omega) (fun j hj => absurd hj (Nat.not_lt_zero j)) (Nat.lt_succ_self _)

abbrev rm_X7_ofDistance_y : Room := { frames := 4, cells := 0, slots := 0, locals := 90 }
set_option maxRecDepth 100000 in
set_option maxHeartbeats 4000000 in
theorem c_X7_ofDistance_y {l : Launch} {G : gG} {n : Nat} {σ : gS} {m0 : Nat} {xstates xtyped xat xreason xdone xkind xn xstrength : Int32} {fs fwas fbegun faside ftext fsize fburnt fnext ffar fthen fqueue frankAt fturnAt : Nat → Int32} {ns k kd N sr o sd : Nat} {w : Nat} {dd : Nat → Nat} (hns : fs 0 = nI ns) (hns5 : ns ≤ 5) (hkn : k < ns) (hst : StkAt fs k kd N sr o sd) (hv : Vld kd N sr o sd) (hdd : DistIs one kd sr N dd) (hw : w ≤ 12) : GM l G yX7_ofDistance cX7_ofDistance 5 (some .int) rm_X7_ofDistance_y n (mW G σ m0 [xstates, xtyped, xat, xreason, xdone, xkind, xn, xstrength] [fs, fwas, fbegun, faside, ftext, fsize, fburnt, fnext, ffar, fthen, fqueue, frankAt, fturnAt]) [.ref m0, .int (nI k), .int (nI w)] (fun rv n2 σ2 => some (.int (nI (ofd dd w (rR (sid kd) N)))) = rv ∧ n = n2 ∧ ∃ (f3 : Nat → Int32) (fr2 : Nat → Int32) (q3 : Nat → Int32) (f2 : Nat → Int32) (g2 : Nat → Int32), (mW G σ m0 [xstates, xtyped, xat, xreason, xdone, nI kd, nI N, nI sr] [fs, fwas, fbegun, faside, ftext, f2, g2, f3, fr2, fthen, q3, frankAt, fturnAt]) = σ2) := by
  refine GM.intro (by decide +kernel) (Nat.le_of_ble_eq_true rfl) (fun p e s m args below meth c C hr hlocks hname po hpo => ?_)
  have C : Cx p s m args c cX7_ofDistance 5 RX7 G := C
  have hk : k < 5 := by omega
  have hN6 := hv.1.N
  have hN1 := hv.1.2.1
  have hRl := rR_le hv.1
  have hol := rk_ltR hv.2.1 hv.2.2
  refine r_aload_n C dX7_ofDistance_0 rfl 0 rfl ?_
  refine r_iload_n C dX7_ofDistance_1 rfl 1 rfl ?_
  refine r_callV (As := [.int (nI k)]) C (c_X7_isStack (x := nI k) (ns := ns) (by first | assumption | omega)) wM_X7_98 wI_X7_isStack wN_X7 wC_X7_isStack wV_X7_isStack hd_X7_isStack ⟨Nat.le_of_ble_eq_true rfl, Nat.le_of_ble_eq_true rfl⟩ rfl (mW_o _ _ _ _ _) rfl rfl (Nat.le_of_ble_eq_true rfl) dX7_ofDistance_2 ⟨Nat.le_of_ble_eq_true rfl, Nat.le_of_ble_eq_true rfl⟩ (fun rv n2 σ2 hp => ?_)
  obtain ⟨rfl, rfl, rfl⟩ := hp
  refine V.eq (σ2 := (mW G σ m0 [xstates, xtyped, xat, xreason, xdone, xkind, xn, xstrength] [fs, fwas, fbegun, faside, ftext, fsize, fburnt, fnext, ffar, fthen, fqueue, frankAt, fturnAt])) (n2 := n) (st2 := [.int (bI (isS (nI k) ns))]) rfl rfl rfl rfl ?_
  refine V.top (y := bI true) (congrArg bI (isS_t ns (by omega) k hkn)) ?_
  refine r_if_eqB (tgt := 18) C dX7_ofDistance_5 (by decide) (fun z => absurd z (by decide)) (fun _ => ?_)
  refine r_iload_n C dX7_ofDistance_8 rfl 2 rfl ?_
  refine r_iconst (v := nI 0) C dX7_ofDistance_9 (by decide) ?_
  refine r_bipush (v := nI 12) C dX7_ofDistance_10 (by decide) ?_
  refine r_callS (As := [.int (nI w), .int (nI 0), .int (nI 12)]) C (c_X7_in (v := nI w) (low := nI 0) (high := nI 12) ) wM_X7_50 wS_X7_in wN_X7 wC_X7_in hd_X7_in ⟨Nat.le_of_ble_eq_true rfl, Nat.le_of_ble_eq_true rfl⟩ rfl rfl (Nat.le_of_ble_eq_true rfl) dX7_ofDistance_12 ⟨Nat.le_of_ble_eq_true rfl, Nat.le_of_ble_eq_true rfl⟩ (fun rv n2 σ2 hp => ?_)
  obtain ⟨rfl, rfl, rfl⟩ := hp
  refine V.eq (σ2 := (mW G σ m0 [xstates, xtyped, xat, xreason, xdone, xkind, xn, xstrength] [fs, fwas, fbegun, faside, ftext, fsize, fburnt, fnext, ffar, fthen, fqueue, frankAt, fturnAt])) (n2 := n) (st2 := [.int (bI (decide ((nI 0) ≤ (nI w) ∧ (nI w) ≤ (nI 12))))]) rfl rfl rfl rfl ?_
  refine V.top (y := bI true) (congrArg bI (in_N (by omega) (by omega) (by omega))) ?_
  refine r_if_neB (tgt := 21) C dX7_ofDistance_15 (by decide) (fun _ => ?_) (fun z => absurd z (by decide))
  refine r_aload_n C dX7_ofDistance_21 rfl 0 rfl ?_
  refine r_iload_n C dX7_ofDistance_22 rfl 1 rfl ?_
  refine r_callV (As := [.int (nI k)]) C (c_X7_leads (k := k) (kd := kd) (N := N) (sr := sr) (o := o) (sd := sd) (by first | assumption | omega) (by first | assumption | omega) (by first | assumption | omega)) wM_X7_143 wI_X7_leads wN_X7 wC_X7_leads wV_X7_leads hd_X7_leads ⟨Nat.le_of_ble_eq_true rfl, Nat.le_of_ble_eq_true rfl⟩ rfl (mW_o _ _ _ _ _) rfl rfl (Nat.le_of_ble_eq_true rfl) dX7_ofDistance_23 ⟨Nat.le_of_ble_eq_true rfl, Nat.le_of_ble_eq_true rfl⟩ (fun rv n2 σ2 hp => ?_)
  obtain ⟨rfl, rfl, fN, fL, gL, rfl, hnx, hzL, hbL⟩ := hp
  refine V.eq (σ2 := (mW G σ m0 [xstates, xtyped, xat, xreason, xdone, nI kd, nI N, nI sr] [fs, fwas, fbegun, faside, ftext, fL, gL, fN, ffar, fthen, fqueue, frankAt, fturnAt])) (n2 := n) (st2 := [.int (nI (rk (sid kd) N o sd))]) rfl rfl rfl rfl ?_
  refine r_pop C dX7_ofDistance_26 rfl ?_
  refine r_aload_n C dX7_ofDistance_27 rfl 0 rfl ?_
  refine r_callV (As := []) C (c_X7_measures (kd := kd) (N := N) (sr := sr) (hv.1) (hnx)) wM_X7_146 wI_X7_measures wN_X7 wC_X7_measures wV_X7_measures hd_X7_measures ⟨Nat.le_of_ble_eq_true rfl, Nat.le_of_ble_eq_true rfl⟩ rfl (mW_o _ _ _ _ _) rfl rfl (Nat.le_of_ble_eq_true rfl) dX7_ofDistance_28 ⟨Nat.le_of_ble_eq_true rfl, Nat.le_of_ble_eq_true rfl⟩ (fun rv n2 σ2 hp => ?_)
  obtain ⟨rfl, rfl, fD, qD, dD, f2_1, g2_2, rfl, hdD, hfD⟩ := hp
  refine V.eq (σ2 := (mW G σ m0 [xstates, xtyped, xat, xreason, xdone, nI kd, nI N, nI sr] [fs, fwas, fbegun, faside, ftext, f2_1, g2_2, fN, fD, fthen, qD, frankAt, fturnAt])) (n2 := n) (st2 := []) rfl rfl rfl rfl ?_
  refine r_iconst (v := nI 0) C dX7_ofDistance_31 (by decide) ?_
  refine r_istore_n (lv2 := [(3, .int (nI 0)), (0, .ref m0), (1, .int (nI k)), (2, .int (nI w))]) C dX7_ofDistance_32 rfl (by decide) rfl ?_
  refine r_iconst (v := nI 0) C dX7_ofDistance_33 (by decide) ?_
  refine r_istore (lv2 := [(4, .int (nI 0)), (3, .int (nI 0)), (0, .ref m0), (1, .int (nI k)), (2, .int (nI w))]) C dX7_ofDistance_34 (by decide) rfl ?_
  have L36 : ∀ (fu : Nat) (i : Nat), (i ≤ rR (sid kd) N) → (rR (sid kd) N + 1 - i) < fu → V p l e rm_X7_ofDistance_y s m args below meth c G 5 (MQ below (gQ G po) args s rm_X7_ofDistance_y.cells rm_X7_ofDistance_y.slots (gF G)) 0 0 n (mW G σ m0 [xstates, xtyped, xat, xreason, xdone, nI kd, nI N, nI sr] [fs, fwas, fbegun, faside, ftext, f2_1, g2_2, fN, fD, fthen, qD, frankAt, fturnAt]) 36 [(0, .ref m0), (1, .int (nI k)), (2, .int (nI w)), (3, .int (nI (ofd dd w i))), (4, .int (nI i))] [] := by
    intro fu
    induction fu with
    | zero => intro i hi hm; exact absurd hm (Nat.not_lt_zero _)
    | succ fu ih36 =>
      intro i hi hm36
      refine r_iload C dX7_ofDistance_36 4 rfl ?_
      refine r_aload_n C dX7_ofDistance_38 rfl 0 rfl ?_
      refine r_callV (As := []) C (c_X7_all (kd := kd) (N := N) (hv.1.N) (hv.1.1)) wM_X7_136 wI_X7_all wN_X7 wC_X7_all wV_X7_all hd_X7_all ⟨Nat.le_of_ble_eq_true rfl, Nat.le_of_ble_eq_true rfl⟩ rfl (mW_o _ _ _ _ _) rfl rfl (Nat.le_of_ble_eq_true rfl) dX7_ofDistance_39 ⟨Nat.le_of_ble_eq_true rfl, Nat.le_of_ble_eq_true rfl⟩ (fun rv n2 σ2 hp => ?_)
      obtain ⟨rfl, rfl, rfl⟩ := hp
      refine V.eq (σ2 := (mW G σ m0 [xstates, xtyped, xat, xreason, xdone, nI kd, nI N, nI sr] [fs, fwas, fbegun, faside, ftext, f2_1, g2_2, fN, fD, fthen, qD, frankAt, fturnAt])) (n2 := n) (st2 := [.int (nI (fac N * sm (sid kd) N)), .int (nI i)]) rfl rfl rfl rfl ?_
      refine V.top (y := nI (rR (sid kd) N)) (rfl) ?_
      refine r_icmp_geN (tgt := 70) C dX7_ofDistance_42 (by decide) (by omega) (by omega) (fun cz42 => ?_) (fun cz42 => ?_)
      · have hiR : i = rR (sid kd) N := by omega
        refine r_iload_n C dX7_ofDistance_70 rfl 3 rfl ?_
        exact r_iret C hr hlocks (Nat.le_of_ble_eq_true rfl) (Nat.le_of_ble_eq_true rfl) dX7_ofDistance_71 (hpo _ _ _ ⟨by rw [hiR], rfl, fN, fD, qD, f2_1, g2_2, rfl⟩)
      · refine r_iload_n C dX7_ofDistance_45 rfl 3 rfl ?_
        refine r_aload_n C dX7_ofDistance_46 rfl 0 rfl ?_
        refine rm_get (v := .ref (m0 + 9)) C 16 (by decide) wF_X7_35 rfl dX7_ofDistance_47 ?_
        refine r_iload C dX7_ofDistance_50 4 rfl ?_
        refine rm_ald (f := fD) (len := 3840) C 8 rfl rfl (by decide) (by omega) dX7_ofDistance_52 ?_
        refine V.top (y := nI (dd i)) (by rw [hfD _ (by assumption), hdD.uniq hdd (by assumption)]) ?_
        refine r_iload_n C dX7_ofDistance_53 rfl 2 rfl ?_
        have hdl := (hdd i cz42).1
        refine r_icmp_neN (tgt := 61) C dX7_ofDistance_54 (by decide) (by omega) (by omega) (fun cz54 => ?_) (fun cz54 => ?_)
        · refine r_iconst (v := nI 0) C dX7_ofDistance_61 (by decide) ?_
          refine r_iaddN C dX7_ofDistance_62 ?_
          refine r_istore_n (lv2 := [(3, .int (nI (ofd dd w i + 0))), (0, .ref m0), (1, .int (nI k)), (2, .int (nI w)), (4, .int (nI i))]) C dX7_ofDistance_63 rfl (by decide) rfl ?_
          refine r_iinc (v := nI (i + 1)) (lv2 := [(4, .int (nI (i + 1))), (3, .int (nI (ofd dd w i + 0))), (0, .ref m0), (1, .int (nI k)), (2, .int (nI w))]) C dX7_ofDistance_64 (k := 4) rfl (nI_add _ 1) (by decide) rfl ?_
          refine r_goto (tgt := 36) C dX7_ofDistance_67 (by decide) ?_
          refine V.sub (lv2 := [(0, .ref m0), (1, .int (nI k)), (2, .int (nI w)), (3, .int (nI (ofd dd w i + 0))), (4, .int (nI (i + 1)))]) [2, 3, 4, 1, 0] rfl ?_
          refine V.eq (σ2 := (mW G σ m0 [xstates, xtyped, xat, xreason, xdone, nI kd, nI N, nI sr] [fs, fwas, fbegun, faside, ftext, f2_1, g2_2, fN, fD, fthen, qD, frankAt, fturnAt])) (lv2 := [(0, .ref m0), (1, .int (nI k)), (2, .int (nI w)), (3, .int (nI (ofd dd w (i + 1)))), (4, .int (nI (i + 1)))]) (st2 := []) rfl rfl (by rw [(show nI (ofd dd w i + 0) = nI (ofd dd w (i + 1)) from by simp [ofd, cz54])]) rfl ?_
          exact ih36 (i + 1) (by omega) (by omega)
        · refine r_iconst (v := nI 1) C dX7_ofDistance_57 (by decide) ?_
          refine r_goto (tgt := 62) C dX7_ofDistance_58 (by decide) ?_
          refine r_iaddN C dX7_ofDistance_62 ?_
          refine r_istore_n (lv2 := [(3, .int (nI (ofd dd w i + 1))), (0, .ref m0), (1, .int (nI k)), (2, .int (nI w)), (4, .int (nI i))]) C dX7_ofDistance_63 rfl (by decide) rfl ?_
          refine r_iinc (v := nI (i + 1)) (lv2 := [(4, .int (nI (i + 1))), (3, .int (nI (ofd dd w i + 1))), (0, .ref m0), (1, .int (nI k)), (2, .int (nI w))]) C dX7_ofDistance_64 (k := 4) rfl (nI_add _ 1) (by decide) rfl ?_
          refine r_goto (tgt := 36) C dX7_ofDistance_67 (by decide) ?_
          refine V.sub (lv2 := [(0, .ref m0), (1, .int (nI k)), (2, .int (nI w)), (3, .int (nI (ofd dd w i + 1))), (4, .int (nI (i + 1)))]) [2, 3, 4, 1, 0] rfl ?_
          refine V.eq (σ2 := (mW G σ m0 [xstates, xtyped, xat, xreason, xdone, nI kd, nI N, nI sr] [fs, fwas, fbegun, faside, ftext, f2_1, g2_2, fN, fD, fthen, qD, frankAt, fturnAt])) (lv2 := [(0, .ref m0), (1, .int (nI k)), (2, .int (nI w)), (3, .int (nI (ofd dd w (i + 1)))), (4, .int (nI (i + 1)))]) (st2 := []) rfl rfl (by rw [(show nI (ofd dd w i + 1) = nI (ofd dd w (i + 1)) from by simp [ofd, cz54])]) rfl ?_
          exact ih36 (i + 1) (by omega) (by omega)
  refine V.sub (lv2 := [(0, .ref m0), (1, .int (nI k)), (2, .int (nI w)), (3, .int (nI 0)), (4, .int (nI 0))]) [2, 3, 4, 1, 0] rfl ?_
  refine V.eq (σ2 := (mW G σ m0 [xstates, xtyped, xat, xreason, xdone, nI kd, nI N, nI sr] [fs, fwas, fbegun, faside, ftext, f2_1, g2_2, fN, fD, fthen, qD, frankAt, fturnAt])) (lv2 := [(0, .ref m0), (1, .int (nI k)), (2, .int (nI w)), (3, .int (nI (ofd dd w 0))), (4, .int (nI 0))]) (st2 := []) rfl rfl (by rw [(show nI 0 = nI (ofd dd w 0) from rfl)]) rfl ?_
  exact L36 _ 0 (by omega) (Nat.lt_succ_self _)

abbrev rm_X7_fewest_f : Room := { frames := 4, cells := 0, slots := 0, locals := 90 }
set_option maxRecDepth 100000 in
set_option maxHeartbeats 4000000 in
theorem c_X7_fewest_f {l : Launch} {G : gG} {n : Nat} {σ : gS} {m0 : Nat} {xstates xtyped xat xreason xdone xkind xn xstrength : Int32} {fs fwas fbegun faside ftext fsize fburnt fnext ffar fthen fqueue frankAt fturnAt : Nat → Int32} {ns k kd N sr o sd : Nat} {w : Nat} {dd : Nat → Nat} (hns : fs 0 = nI ns) (hns5 : ns ≤ 5) (hkn : k < ns) (hst : StkAt fs k kd N sr o sd) (hv : Vld kd N sr o sd) (hdd : DistIs one kd sr N dd) (hw : w ≤ 1) (hbad : 9 < dd (rk (sid kd) N o sd)) : GM l G yX7_fewest cX7_fewest 6 (some .int) rm_X7_fewest_f n (mW G σ m0 [xstates, xtyped, xat, xreason, xdone, xkind, xn, xstrength] [fs, fwas, fbegun, faside, ftext, fsize, fburnt, fnext, ffar, fthen, fqueue, frankAt, fturnAt]) [.ref m0, .int (nI k), .int (nI w)] (fun rv n2 σ2 => some (.int (-1000004)) = rv ∧ n = n2 ∧ ∃ (f3 : Nat → Int32) (fr2 : Nat → Int32) (q3 : Nat → Int32) (f2 : Nat → Int32) (g2 : Nat → Int32), (mW G σ m0 [xstates, xtyped, xat, xreason, xdone, nI kd, nI N, nI sr] [fs, fwas, fbegun, faside, ftext, f2, g2, f3, fr2, fthen, q3, frankAt, fturnAt]) = σ2) := by
  refine GM.intro (by decide +kernel) (Nat.le_of_ble_eq_true rfl) (fun p e s m args below meth c C hr hlocks hname po hpo => ?_)
  have C : Cx p s m args c cX7_fewest 6 RX7 G := C
  have hk : k < 5 := by omega
  have hN6 := hv.1.N
  have hN1 := hv.1.2.1
  have hRl := rR_le hv.1
  have hol := rk_ltR hv.2.1 hv.2.2
  have hdl := (hdd _ hol).1
  refine r_aload_n C dX7_fewest_0 rfl 0 rfl ?_
  refine r_iload_n C dX7_fewest_1 rfl 1 rfl ?_
  refine r_callV (As := [.int (nI k)]) C (c_X7_isStack (x := nI k) (ns := ns) (by first | assumption | omega)) wM_X7_98 wI_X7_isStack wN_X7 wC_X7_isStack wV_X7_isStack hd_X7_isStack ⟨Nat.le_of_ble_eq_true rfl, Nat.le_of_ble_eq_true rfl⟩ rfl (mW_o _ _ _ _ _) rfl rfl (Nat.le_of_ble_eq_true rfl) dX7_fewest_2 ⟨Nat.le_of_ble_eq_true rfl, Nat.le_of_ble_eq_true rfl⟩ (fun rv n2 σ2 hp => ?_)
  obtain ⟨rfl, rfl, rfl⟩ := hp
  refine V.eq (σ2 := (mW G σ m0 [xstates, xtyped, xat, xreason, xdone, xkind, xn, xstrength] [fs, fwas, fbegun, faside, ftext, fsize, fburnt, fnext, ffar, fthen, fqueue, frankAt, fturnAt])) (n2 := n) (st2 := [.int (bI (isS (nI k) ns))]) rfl rfl rfl rfl ?_
  refine V.top (y := bI true) (congrArg bI (isS_t ns (by omega) k hkn)) ?_
  refine r_if_eqB (tgt := 17) C dX7_fewest_5 (by decide) (fun z => absurd z (by decide)) (fun _ => ?_)
  refine r_iload_n C dX7_fewest_8 rfl 2 rfl ?_
  refine r_iconst (v := nI 0) C dX7_fewest_9 (by decide) ?_
  refine r_iconst (v := nI 1) C dX7_fewest_10 (by decide) ?_
  refine r_callS (As := [.int (nI w), .int (nI 0), .int (nI 1)]) C (c_X7_in (v := nI w) (low := nI 0) (high := nI 1) ) wM_X7_50 wS_X7_in wN_X7 wC_X7_in hd_X7_in ⟨Nat.le_of_ble_eq_true rfl, Nat.le_of_ble_eq_true rfl⟩ rfl rfl (Nat.le_of_ble_eq_true rfl) dX7_fewest_11 ⟨Nat.le_of_ble_eq_true rfl, Nat.le_of_ble_eq_true rfl⟩ (fun rv n2 σ2 hp => ?_)
  obtain ⟨rfl, rfl, rfl⟩ := hp
  refine V.eq (σ2 := (mW G σ m0 [xstates, xtyped, xat, xreason, xdone, xkind, xn, xstrength] [fs, fwas, fbegun, faside, ftext, fsize, fburnt, fnext, ffar, fthen, fqueue, frankAt, fturnAt])) (n2 := n) (st2 := [.int (bI (decide ((nI 0) ≤ (nI w) ∧ (nI w) ≤ (nI 1))))]) rfl rfl rfl rfl ?_
  refine V.top (y := bI true) (congrArg bI (in_N (by omega) (by omega) (by omega))) ?_
  refine r_if_neB (tgt := 20) C dX7_fewest_14 (by decide) (fun _ => ?_) (fun z => absurd z (by decide))
  refine r_aload_n C dX7_fewest_20 rfl 0 rfl ?_
  refine r_iload_n C dX7_fewest_21 rfl 1 rfl ?_
  refine r_callV (As := [.int (nI k)]) C (c_X7_leads (k := k) (kd := kd) (N := N) (sr := sr) (o := o) (sd := sd) (by first | assumption | omega) (by first | assumption | omega) (by first | assumption | omega)) wM_X7_143 wI_X7_leads wN_X7 wC_X7_leads wV_X7_leads hd_X7_leads ⟨Nat.le_of_ble_eq_true rfl, Nat.le_of_ble_eq_true rfl⟩ rfl (mW_o _ _ _ _ _) rfl rfl (Nat.le_of_ble_eq_true rfl) dX7_fewest_22 ⟨Nat.le_of_ble_eq_true rfl, Nat.le_of_ble_eq_true rfl⟩ (fun rv n2 σ2 hp => ?_)
  obtain ⟨rfl, rfl, fN, fL, gL, rfl, hnx, hzL, hbL⟩ := hp
  refine V.eq (σ2 := (mW G σ m0 [xstates, xtyped, xat, xreason, xdone, nI kd, nI N, nI sr] [fs, fwas, fbegun, faside, ftext, fL, gL, fN, ffar, fthen, fqueue, frankAt, fturnAt])) (n2 := n) (st2 := [.int (nI (rk (sid kd) N o sd))]) rfl rfl rfl rfl ?_
  refine r_istore_n (lv2 := [(3, .int (nI (rk (sid kd) N o sd))), (0, .ref m0), (1, .int (nI k)), (2, .int (nI w))]) C dX7_fewest_25 rfl (by decide) rfl ?_
  refine r_aload_n C dX7_fewest_26 rfl 1 rfl ?_
  refine r_callV (As := []) C (c_X7_measures (kd := kd) (N := N) (sr := sr) (hv.1) (hnx)) wM_X7_146 wI_X7_measures wN_X7 wC_X7_measures wV_X7_measures hd_X7_measures ⟨Nat.le_of_ble_eq_true rfl, Nat.le_of_ble_eq_true rfl⟩ rfl (mW_o _ _ _ _ _) rfl rfl (Nat.le_of_ble_eq_true rfl) dX7_fewest_27 ⟨Nat.le_of_ble_eq_true rfl, Nat.le_of_ble_eq_true rfl⟩ (fun rv n2 σ2 hp => ?_)
  obtain ⟨rfl, rfl, fD, qD, dD, f2_1, g2_2, rfl, hdD, hfD⟩ := hp
  refine V.eq (σ2 := (mW G σ m0 [xstates, xtyped, xat, xreason, xdone, nI kd, nI N, nI sr] [fs, fwas, fbegun, faside, ftext, f2_1, g2_2, fN, fD, fthen, qD, frankAt, fturnAt])) (n2 := n) (st2 := []) rfl rfl rfl rfl ?_
  refine r_aload_n C dX7_fewest_30 rfl 1 rfl ?_
  refine rm_get (v := .ref (m0 + 9)) C 16 (by decide) wF_X7_35 rfl dX7_fewest_31 ?_
  refine r_iload_n C dX7_fewest_34 rfl 0 rfl ?_
  refine rm_ald (f := fD) (len := 3840) C 8 rfl rfl (by decide) (by omega) dX7_fewest_35 ?_
  refine V.top (y := nI (dd (rk (sid kd) N o sd))) (by rw [hfD _ (by assumption), hdD.uniq hdd (by assumption)]) ?_
  refine r_bipush (v := nI 9) C dX7_fewest_36 (by decide) ?_
  refine r_icmp_leN (tgt := 44) C dX7_fewest_38 (by decide) (by omega) (by decide) (fun cz38 => ?_) (fun cz38 => ?_)
  · exact absurd cz38 (by omega)
  · refine r_ldc C wQ_X7_149 dX7_fewest_41 ?_
    exact r_iret C hr hlocks (Nat.le_of_ble_eq_true rfl) (Nat.le_of_ble_eq_true rfl) dX7_fewest_43 (hpo _ _ _ ⟨rfl, rfl, fN, fD, qD, f2_1, g2_2, rfl⟩)

abbrev rm_X7_fewest_c : Room := { frames := 4, cells := 0, slots := 0, locals := 90 }
set_option maxRecDepth 100000 in
set_option maxHeartbeats 4000000 in
theorem c_X7_fewest_c {l : Launch} {G : gG} {n : Nat} {σ : gS} {m0 : Nat} {xstates xtyped xat xreason xdone xkind xn xstrength : Int32} {fs fwas fbegun faside ftext fsize fburnt fnext ffar fthen fqueue frankAt fturnAt : Nat → Int32} {ns k kd N sr o sd : Nat} {dd : Nat → Nat} (hns : fs 0 = nI ns) (hns5 : ns ≤ 5) (hkn : k < ns) (hst : StkAt fs k kd N sr o sd) (hv : Vld kd N sr o sd) (hdd : DistIs one kd sr N dd) (hgood : dd (rk (sid kd) N o sd) ≤ 9) : GM l G yX7_fewest cX7_fewest 6 (some .int) rm_X7_fewest_c n (mW G σ m0 [xstates, xtyped, xat, xreason, xdone, xkind, xn, xstrength] [fs, fwas, fbegun, faside, ftext, fsize, fburnt, fnext, ffar, fthen, fqueue, frankAt, fturnAt]) [.ref m0, .int (nI k), .int (nI 0)] (fun rv n2 σ2 => some (.int (nI (dd (rk (sid kd) N o sd)))) = rv ∧ n = n2 ∧ ∃ (f3 : Nat → Int32) (fr2 : Nat → Int32) (q3 : Nat → Int32) (f2 : Nat → Int32) (g2 : Nat → Int32), (mW G σ m0 [xstates, xtyped, xat, xreason, xdone, nI kd, nI N, nI sr] [fs, fwas, fbegun, faside, ftext, f2, g2, f3, fr2, fthen, q3, frankAt, fturnAt]) = σ2) := by
  refine GM.intro (by decide +kernel) (Nat.le_of_ble_eq_true rfl) (fun p e s m args below meth c C hr hlocks hname po hpo => ?_)
  have C : Cx p s m args c cX7_fewest 6 RX7 G := C
  have hk : k < 5 := by omega
  have hN6 := hv.1.N
  have hN1 := hv.1.2.1
  have hRl := rR_le hv.1
  have hol := rk_ltR hv.2.1 hv.2.2
  refine r_aload_n C dX7_fewest_0 rfl 0 rfl ?_
  refine r_iload_n C dX7_fewest_1 rfl 1 rfl ?_
  refine r_callV (As := [.int (nI k)]) C (c_X7_isStack (x := nI k) (ns := ns) (by first | assumption | omega)) wM_X7_98 wI_X7_isStack wN_X7 wC_X7_isStack wV_X7_isStack hd_X7_isStack ⟨Nat.le_of_ble_eq_true rfl, Nat.le_of_ble_eq_true rfl⟩ rfl (mW_o _ _ _ _ _) rfl rfl (Nat.le_of_ble_eq_true rfl) dX7_fewest_2 ⟨Nat.le_of_ble_eq_true rfl, Nat.le_of_ble_eq_true rfl⟩ (fun rv n2 σ2 hp => ?_)
  obtain ⟨rfl, rfl, rfl⟩ := hp
  refine V.eq (σ2 := (mW G σ m0 [xstates, xtyped, xat, xreason, xdone, xkind, xn, xstrength] [fs, fwas, fbegun, faside, ftext, fsize, fburnt, fnext, ffar, fthen, fqueue, frankAt, fturnAt])) (n2 := n) (st2 := [.int (bI (isS (nI k) ns))]) rfl rfl rfl rfl ?_
  refine V.top (y := bI true) (congrArg bI (isS_t ns (by omega) k hkn)) ?_
  refine r_if_eqB (tgt := 17) C dX7_fewest_5 (by decide) (fun z => absurd z (by decide)) (fun _ => ?_)
  refine r_iload_n C dX7_fewest_8 rfl 2 rfl ?_
  refine r_iconst (v := nI 0) C dX7_fewest_9 (by decide) ?_
  refine r_iconst (v := nI 1) C dX7_fewest_10 (by decide) ?_
  refine r_callS (As := [.int (nI 0), .int (nI 0), .int (nI 1)]) C (c_X7_in (v := nI 0) (low := nI 0) (high := nI 1) ) wM_X7_50 wS_X7_in wN_X7 wC_X7_in hd_X7_in ⟨Nat.le_of_ble_eq_true rfl, Nat.le_of_ble_eq_true rfl⟩ rfl rfl (Nat.le_of_ble_eq_true rfl) dX7_fewest_11 ⟨Nat.le_of_ble_eq_true rfl, Nat.le_of_ble_eq_true rfl⟩ (fun rv n2 σ2 hp => ?_)
  obtain ⟨rfl, rfl, rfl⟩ := hp
  refine V.eq (σ2 := (mW G σ m0 [xstates, xtyped, xat, xreason, xdone, xkind, xn, xstrength] [fs, fwas, fbegun, faside, ftext, fsize, fburnt, fnext, ffar, fthen, fqueue, frankAt, fturnAt])) (n2 := n) (st2 := [.int (bI (decide ((nI 0) ≤ (nI 0) ∧ (nI 0) ≤ (nI 1))))]) rfl rfl rfl rfl ?_
  refine V.top (y := bI true) (congrArg bI (in_N (by omega) (by omega) (by omega))) ?_
  refine r_if_neB (tgt := 20) C dX7_fewest_14 (by decide) (fun _ => ?_) (fun z => absurd z (by decide))
  refine r_aload_n C dX7_fewest_20 rfl 0 rfl ?_
  refine r_iload_n C dX7_fewest_21 rfl 1 rfl ?_
  refine r_callV (As := [.int (nI k)]) C (c_X7_leads (k := k) (kd := kd) (N := N) (sr := sr) (o := o) (sd := sd) (by first | assumption | omega) (by first | assumption | omega) (by first | assumption | omega)) wM_X7_143 wI_X7_leads wN_X7 wC_X7_leads wV_X7_leads hd_X7_leads ⟨Nat.le_of_ble_eq_true rfl, Nat.le_of_ble_eq_true rfl⟩ rfl (mW_o _ _ _ _ _) rfl rfl (Nat.le_of_ble_eq_true rfl) dX7_fewest_22 ⟨Nat.le_of_ble_eq_true rfl, Nat.le_of_ble_eq_true rfl⟩ (fun rv n2 σ2 hp => ?_)
  obtain ⟨rfl, rfl, fN, fL, gL, rfl, hnx, hzL, hbL⟩ := hp
  refine V.eq (σ2 := (mW G σ m0 [xstates, xtyped, xat, xreason, xdone, nI kd, nI N, nI sr] [fs, fwas, fbegun, faside, ftext, fL, gL, fN, ffar, fthen, fqueue, frankAt, fturnAt])) (n2 := n) (st2 := [.int (nI (rk (sid kd) N o sd))]) rfl rfl rfl rfl ?_
  refine r_istore_n (lv2 := [(3, .int (nI (rk (sid kd) N o sd))), (0, .ref m0), (1, .int (nI k)), (2, .int (nI 0))]) C dX7_fewest_25 rfl (by decide) rfl ?_
  refine r_aload_n C dX7_fewest_26 rfl 1 rfl ?_
  refine r_callV (As := []) C (c_X7_measures (kd := kd) (N := N) (sr := sr) (hv.1) (hnx)) wM_X7_146 wI_X7_measures wN_X7 wC_X7_measures wV_X7_measures hd_X7_measures ⟨Nat.le_of_ble_eq_true rfl, Nat.le_of_ble_eq_true rfl⟩ rfl (mW_o _ _ _ _ _) rfl rfl (Nat.le_of_ble_eq_true rfl) dX7_fewest_27 ⟨Nat.le_of_ble_eq_true rfl, Nat.le_of_ble_eq_true rfl⟩ (fun rv n2 σ2 hp => ?_)
  obtain ⟨rfl, rfl, fD, qD, dD, f2_1, g2_2, rfl, hdD, hfD⟩ := hp
  refine V.eq (σ2 := (mW G σ m0 [xstates, xtyped, xat, xreason, xdone, nI kd, nI N, nI sr] [fs, fwas, fbegun, faside, ftext, f2_1, g2_2, fN, fD, fthen, qD, frankAt, fturnAt])) (n2 := n) (st2 := []) rfl rfl rfl rfl ?_
  refine r_aload_n C dX7_fewest_30 rfl 1 rfl ?_
  refine rm_get (v := .ref (m0 + 9)) C 16 (by decide) wF_X7_35 rfl dX7_fewest_31 ?_
  refine r_iload_n C dX7_fewest_34 rfl 0 rfl ?_
  refine rm_ald (f := fD) (len := 3840) C 8 rfl rfl (by decide) (by omega) dX7_fewest_35 ?_
  refine V.top (y := nI (dd (rk (sid kd) N o sd))) (by rw [hfD _ (by assumption), hdD.uniq hdd (by assumption)]) ?_
  refine r_bipush (v := nI 9) C dX7_fewest_36 (by decide) ?_
  refine r_icmp_leN (tgt := 44) C dX7_fewest_38 (by decide) (by omega) (by decide) (fun cz38 => ?_) (fun cz38 => ?_)
  · refine r_iload_n C dX7_fewest_44 rfl 3 rfl ?_
    refine r_if_neN (tgt := 55) C dX7_fewest_45 (by decide) (by decide) (fun cz45 => ?_) (fun cz45 => ?_)
    · exact absurd rfl cz45
    · refine r_aload_n C dX7_fewest_48 rfl 1 rfl ?_
      refine rm_get (v := .ref (m0 + 9)) C 16 (by decide) wF_X7_35 rfl dX7_fewest_49 ?_
      refine r_iload_n C dX7_fewest_52 rfl 0 rfl ?_
      refine rm_ald (f := fD) (len := 3840) C 8 rfl rfl (by decide) (by omega) dX7_fewest_53 ?_
      refine V.top (y := nI (dd (rk (sid kd) N o sd))) (by rw [hfD _ (by assumption), hdD.uniq hdd (by assumption)]) ?_
      exact r_iret C hr hlocks (Nat.le_of_ble_eq_true rfl) (Nat.le_of_ble_eq_true rfl) dX7_fewest_54 (hpo _ _ _ ⟨rfl, rfl, fN, fD, qD, f2_1, g2_2, rfl⟩)
  · exact absurd hgood (by omega)

abbrev rm_X7_fewest_w : Room := { frames := 4, cells := 0, slots := 0, locals := 90 }
set_option maxRecDepth 100000 in
set_option maxHeartbeats 4000000 in
theorem c_X7_fewest_w {l : Launch} {G : gG} {n : Nat} {σ : gS} {m0 : Nat} {xstates xtyped xat xreason xdone xkind xn xstrength : Int32} {fs fwas fbegun faside ftext fsize fburnt fnext ffar fthen fqueue frankAt fturnAt : Nat → Int32} {ns k kd N sr o sd : Nat} {dd : Nat → Nat} (hns : fs 0 = nI ns) (hns5 : ns ≤ 5) (hkn : k < ns) (hst : StkAt fs k kd N sr o sd) (hv : Vld kd N sr o sd) (hdd : DistIs one kd sr N dd) (hgood : dd (rk (sid kd) N o sd) ≤ 9) : GM l G yX7_fewest cX7_fewest 6 (some .int) rm_X7_fewest_w n (mW G σ m0 [xstates, xtyped, xat, xreason, xdone, xkind, xn, xstrength] [fs, fwas, fbegun, faside, ftext, fsize, fburnt, fnext, ffar, fthen, fqueue, frankAt, fturnAt]) [.ref m0, .int (nI k), .int (nI 1)] (fun rv n2 σ2 => some (.int (nI (fwR kd sr N dd (dd (rk (sid kd) N o sd)) (rk (sid kd) N o sd) 0))) = rv ∧ n = n2 ∧ ∃ (f3 : Nat → Int32) (fr2 : Nat → Int32) (q3 : Nat → Int32) (f2 : Nat → Int32) (g2 : Nat → Int32), (mW G σ m0 [xstates, xtyped, xat, xreason, xdone, nI kd, nI N, nI sr] [fs, fwas, fbegun, faside, ftext, f2, g2, f3, fr2, fthen, q3, frankAt, fturnAt]) = σ2) := by
  refine GM.intro (by decide +kernel) (Nat.le_of_ble_eq_true rfl) (fun p e s m args below meth c C hr hlocks hname po hpo => ?_)
  have C : Cx p s m args c cX7_fewest 6 RX7 G := C
  have hk : k < 5 := by omega
  have hN6 := hv.1.N
  have hN1 := hv.1.2.1
  have hRl := rR_le hv.1
  have hol := rk_ltR hv.2.1 hv.2.2
  refine r_aload_n C dX7_fewest_0 rfl 0 rfl ?_
  refine r_iload_n C dX7_fewest_1 rfl 1 rfl ?_
  refine r_callV (As := [.int (nI k)]) C (c_X7_isStack (x := nI k) (ns := ns) (by first | assumption | omega)) wM_X7_98 wI_X7_isStack wN_X7 wC_X7_isStack wV_X7_isStack hd_X7_isStack ⟨Nat.le_of_ble_eq_true rfl, Nat.le_of_ble_eq_true rfl⟩ rfl (mW_o _ _ _ _ _) rfl rfl (Nat.le_of_ble_eq_true rfl) dX7_fewest_2 ⟨Nat.le_of_ble_eq_true rfl, Nat.le_of_ble_eq_true rfl⟩ (fun rv n2 σ2 hp => ?_)
  obtain ⟨rfl, rfl, rfl⟩ := hp
  refine V.eq (σ2 := (mW G σ m0 [xstates, xtyped, xat, xreason, xdone, xkind, xn, xstrength] [fs, fwas, fbegun, faside, ftext, fsize, fburnt, fnext, ffar, fthen, fqueue, frankAt, fturnAt])) (n2 := n) (st2 := [.int (bI (isS (nI k) ns))]) rfl rfl rfl rfl ?_
  refine V.top (y := bI true) (congrArg bI (isS_t ns (by omega) k hkn)) ?_
  refine r_if_eqB (tgt := 17) C dX7_fewest_5 (by decide) (fun z => absurd z (by decide)) (fun _ => ?_)
  refine r_iload_n C dX7_fewest_8 rfl 2 rfl ?_
  refine r_iconst (v := nI 0) C dX7_fewest_9 (by decide) ?_
  refine r_iconst (v := nI 1) C dX7_fewest_10 (by decide) ?_
  refine r_callS (As := [.int (nI 1), .int (nI 0), .int (nI 1)]) C (c_X7_in (v := nI 1) (low := nI 0) (high := nI 1) ) wM_X7_50 wS_X7_in wN_X7 wC_X7_in hd_X7_in ⟨Nat.le_of_ble_eq_true rfl, Nat.le_of_ble_eq_true rfl⟩ rfl rfl (Nat.le_of_ble_eq_true rfl) dX7_fewest_11 ⟨Nat.le_of_ble_eq_true rfl, Nat.le_of_ble_eq_true rfl⟩ (fun rv n2 σ2 hp => ?_)
  obtain ⟨rfl, rfl, rfl⟩ := hp
  refine V.eq (σ2 := (mW G σ m0 [xstates, xtyped, xat, xreason, xdone, xkind, xn, xstrength] [fs, fwas, fbegun, faside, ftext, fsize, fburnt, fnext, ffar, fthen, fqueue, frankAt, fturnAt])) (n2 := n) (st2 := [.int (bI (decide ((nI 0) ≤ (nI 1) ∧ (nI 1) ≤ (nI 1))))]) rfl rfl rfl rfl ?_
  refine V.top (y := bI true) (congrArg bI (in_N (by omega) (by omega) (by omega))) ?_
  refine r_if_neB (tgt := 20) C dX7_fewest_14 (by decide) (fun _ => ?_) (fun z => absurd z (by decide))
  refine r_aload_n C dX7_fewest_20 rfl 0 rfl ?_
  refine r_iload_n C dX7_fewest_21 rfl 1 rfl ?_
  refine r_callV (As := [.int (nI k)]) C (c_X7_leads (k := k) (kd := kd) (N := N) (sr := sr) (o := o) (sd := sd) (by first | assumption | omega) (by first | assumption | omega) (by first | assumption | omega)) wM_X7_143 wI_X7_leads wN_X7 wC_X7_leads wV_X7_leads hd_X7_leads ⟨Nat.le_of_ble_eq_true rfl, Nat.le_of_ble_eq_true rfl⟩ rfl (mW_o _ _ _ _ _) rfl rfl (Nat.le_of_ble_eq_true rfl) dX7_fewest_22 ⟨Nat.le_of_ble_eq_true rfl, Nat.le_of_ble_eq_true rfl⟩ (fun rv n2 σ2 hp => ?_)
  obtain ⟨rfl, rfl, fN, fL, gL, rfl, hnx, hzL, hbL⟩ := hp
  refine V.eq (σ2 := (mW G σ m0 [xstates, xtyped, xat, xreason, xdone, nI kd, nI N, nI sr] [fs, fwas, fbegun, faside, ftext, fL, gL, fN, ffar, fthen, fqueue, frankAt, fturnAt])) (n2 := n) (st2 := [.int (nI (rk (sid kd) N o sd))]) rfl rfl rfl rfl ?_
  refine r_istore_n (lv2 := [(3, .int (nI (rk (sid kd) N o sd))), (0, .ref m0), (1, .int (nI k)), (2, .int (nI 1))]) C dX7_fewest_25 rfl (by decide) rfl ?_
  refine r_aload_n C dX7_fewest_26 rfl 1 rfl ?_
  refine r_callV (As := []) C (c_X7_measures (kd := kd) (N := N) (sr := sr) (hv.1) (hnx)) wM_X7_146 wI_X7_measures wN_X7 wC_X7_measures wV_X7_measures hd_X7_measures ⟨Nat.le_of_ble_eq_true rfl, Nat.le_of_ble_eq_true rfl⟩ rfl (mW_o _ _ _ _ _) rfl rfl (Nat.le_of_ble_eq_true rfl) dX7_fewest_27 ⟨Nat.le_of_ble_eq_true rfl, Nat.le_of_ble_eq_true rfl⟩ (fun rv n2 σ2 hp => ?_)
  obtain ⟨rfl, rfl, fD, qD, dD, f2_1, g2_2, rfl, hdD, hfD⟩ := hp
  refine V.eq (σ2 := (mW G σ m0 [xstates, xtyped, xat, xreason, xdone, nI kd, nI N, nI sr] [fs, fwas, fbegun, faside, ftext, f2_1, g2_2, fN, fD, fthen, qD, frankAt, fturnAt])) (n2 := n) (st2 := []) rfl rfl rfl rfl ?_
  refine r_aload_n C dX7_fewest_30 rfl 1 rfl ?_
  refine rm_get (v := .ref (m0 + 9)) C 16 (by decide) wF_X7_35 rfl dX7_fewest_31 ?_
  refine r_iload_n C dX7_fewest_34 rfl 0 rfl ?_
  refine rm_ald (f := fD) (len := 3840) C 8 rfl rfl (by decide) (by omega) dX7_fewest_35 ?_
  refine V.top (y := nI (dd (rk (sid kd) N o sd))) (by rw [hfD _ (by assumption), hdD.uniq hdd (by assumption)]) ?_
  refine r_bipush (v := nI 9) C dX7_fewest_36 (by decide) ?_
  refine r_icmp_leN (tgt := 44) C dX7_fewest_38 (by decide) (by omega) (by decide) (fun cz38 => ?_) (fun cz38 => ?_)
  · refine r_iload_n C dX7_fewest_44 rfl 3 rfl ?_
    refine r_if_neN (tgt := 55) C dX7_fewest_45 (by decide) (by decide) (fun cz45 => ?_) (fun cz45 => ?_)
    · refine r_iconst (v := nI 0) C dX7_fewest_55 (by decide) ?_
      refine r_istore (lv2 := [(4, .int (nI 0)), (3, .int (nI (rk (sid kd) N o sd))), (0, .ref m0), (1, .int (nI k)), (2, .int (nI 1))]) C dX7_fewest_56 (by decide) rfl ?_
      have L58 : ∀ (fu : Nat) (r : Nat) (row : Nat), (r < rR (sid kd) N) → (dd r ≤ 9) → (fwR kd sr N dd (dd r) r row = fwR kd sr N dd (dd (rk (sid kd) N o sd)) (rk (sid kd) N o sd) 0) → (dd r) < fu → V p l e rm_X7_fewest_w s m args below meth c G 6 (MQ below (gQ G po) args s rm_X7_fewest_w.cells rm_X7_fewest_w.slots (gF G)) 0 0 n (mW G σ m0 [xstates, xtyped, xat, xreason, xdone, nI kd, nI N, nI sr] [fs, fwas, fbegun, faside, ftext, f2_1, g2_2, fN, fD, fthen, qD, frankAt, fturnAt]) 58 [(0, .ref m0), (1, .int (nI k)), (2, .int (nI 1)), (3, .int (nI r)), (4, .int (nI row))] [] := by
        intro fu
        induction fu with
        | zero => intro r row hr9 hd9 htot hm; exact absurd hm (Nat.not_lt_zero _)
        | succ fu ih58 =>
          intro r row hr9 hd9 htot hm58
          refine r_aload_n C dX7_fewest_58 rfl 0 rfl ?_
          refine rm_get (v := .ref (m0 + 9)) C 16 (by decide) wF_X7_35 rfl dX7_fewest_59 ?_
          refine r_iload_n C dX7_fewest_62 rfl 3 rfl ?_
          refine rm_ald (f := fD) (len := 3840) C 8 rfl rfl (by decide) (by omega) dX7_fewest_63 ?_
          refine V.top (y := nI (dd r)) (by rw [hfD _ (by assumption), hdD.uniq hdd (by assumption)]) ?_
          refine r_if_leN (tgt := 151) C dX7_fewest_64 (by decide) (by omega) (fun cz64 => ?_) (fun cz64 => ?_)
          · rw [fwR_0 cz64] at htot
            refine r_iload C dX7_fewest_151 4 rfl ?_
            exact r_iret C hr hlocks (Nat.le_of_ble_eq_true rfl) (Nat.le_of_ble_eq_true rfl) dX7_fewest_153 (hpo _ _ _ ⟨by rw [← htot], rfl, fN, fD, qD, f2_1, g2_2, rfl⟩)
          · have hft := fst_ok hv.1 hdd hr9 (by omega) (by omega)
            refine r_iconst (v := nI 1) C dX7_fewest_67 (by decide) ?_
            refine r_istore (lv2 := [(5, .int (nI 1)), (0, .ref m0), (1, .int (nI k)), (2, .int (nI 1)), (3, .int (nI r)), (4, .int (nI row))]) C dX7_fewest_68 (by decide) rfl ?_
            have L70 : ∀ (fu : Nat) (j : Nat), (j < N) → (∀ i, i < j → ¬ nrr kd sr N dd r (i + 1)) → (N + 1 - j) < fu → V p l e rm_X7_fewest_w s m args below meth c G 6 (MQ below (gQ G po) args s rm_X7_fewest_w.cells rm_X7_fewest_w.slots (gF G)) 0 0 n (mW G σ m0 [xstates, xtyped, xat, xreason, xdone, nI kd, nI N, nI sr] [fs, fwas, fbegun, faside, ftext, f2_1, g2_2, fN, fD, fthen, qD, frankAt, fturnAt]) 70 [(0, .ref m0), (1, .int (nI k)), (2, .int (nI 1)), (3, .int (nI r)), (4, .int (nI row)), (5, .int (nI (j + 1)))] [] := by
              intro fu
              induction fu with
              | zero => intro j hjN hjl hm; exact absurd hm (Nat.not_lt_zero _)
              | succ fu ih70 =>
                intro j hjN hjl hm70
                refine r_aload_n C dX7_fewest_70 rfl 0 rfl ?_
                refine rm_get (v := .ref (m0 + 8)) C 15 (by decide) wF_X7_32 rfl dX7_fewest_71 ?_
                refine r_bipush (v := nI 6) C dX7_fewest_74 (by decide) ?_
                refine r_iload_n C dX7_fewest_76 rfl 3 rfl ?_
                refine r_imulN C dX7_fewest_77 ?_
                refine r_iload C dX7_fewest_78 5 rfl ?_
                refine r_iaddN C dX7_fewest_80 ?_
                refine r_iconst (v := nI 1) C dX7_fewest_81 (by decide) ?_
                refine r_isubN C dX7_fewest_82 (by omega) ?_
                refine rm_ald (f := fN) (len := 23040) C 7 rfl rfl (by decide) (by omega) dX7_fewest_83 ?_
                refine V.top (y := nxV kd sr N r (j + 1)) (by rw [show 6 * r + (j + 1) - 1 = 6 * r + j by omega]; exact hnx r hr9 j (by omega)) ?_
                refine r_if_lt (tgt := 117) C dX7_fewest_84 (by decide) (fun cz84 => ?_) (fun cz84 => ?_)
                · have hnt : ¬ nrr kd sr N dd r (j + 1) := fun z => nxV_neg hv.1 hr9 (by omega) cz84 z.1
                  refine r_iinc (v := nI (j + 2)) (lv2 := [(5, .int (nI (j + 2))), (0, .ref m0), (1, .int (nI k)), (2, .int (nI 1)), (3, .int (nI r)), (4, .int (nI row))]) C dX7_fewest_117 (k := 5) rfl (nI_add _ 1) (by decide) rfl ?_
                  refine r_goto (tgt := 70) C dX7_fewest_120 (by decide) ?_
                  refine V.sub (lv2 := [(0, .ref m0), (1, .int (nI k)), (2, .int (nI 1)), (3, .int (nI r)), (4, .int (nI row)), (5, .int (nI (j + 2)))]) [1, 2, 3, 4, 5, 0] rfl ?_
                  refine V.eq (σ2 := (mW G σ m0 [xstates, xtyped, xat, xreason, xdone, nI kd, nI N, nI sr] [fs, fwas, fbegun, faside, ftext, f2_1, g2_2, fN, fD, fthen, qD, frankAt, fturnAt])) (lv2 := [(0, .ref m0), (1, .int (nI k)), (2, .int (nI 1)), (3, .int (nI r)), (4, .int (nI row)), (5, .int (nI ((j + 1) + 1)))]) (st2 := []) rfl rfl (by rw [(show nI (j + 2) = nI ((j + 1) + 1) from congrArg nI (show j + 2 = (j + 1) + 1 by omega))]) rfl ?_
                  exact ih70 (j + 1) (fst_nx hft hjl hnt) (fun i hi => by rcases Nat.lt_or_eq_of_le (Nat.le_of_lt_succ hi) with h | h; (exact hjl i h); (rw [h]; exact hnt)) (by omega)
                · have ha9 := nxV_nn (Int32.not_lt.mp cz84)
                  have hxl := nx_lt hN6 hr9 (show j + 1 ≤ N by omega)
                  have hdx := (hdd _ hxl).1
                  refine r_aload_n C dX7_fewest_87 rfl 0 rfl ?_
                  refine rm_get (v := .ref (m0 + 9)) C 16 (by decide) wF_X7_35 rfl dX7_fewest_88 ?_
                  refine r_aload_n C dX7_fewest_91 rfl 0 rfl ?_
                  refine rm_get (v := .ref (m0 + 8)) C 15 (by decide) wF_X7_32 rfl dX7_fewest_92 ?_
                  refine r_bipush (v := nI 6) C dX7_fewest_95 (by decide) ?_
                  refine r_iload_n C dX7_fewest_97 rfl 3 rfl ?_
                  refine r_imulN C dX7_fewest_98 ?_
                  refine r_iload C dX7_fewest_99 5 rfl ?_
                  refine r_iaddN C dX7_fewest_101 ?_
                  refine r_iconst (v := nI 1) C dX7_fewest_102 (by decide) ?_
                  refine r_isubN C dX7_fewest_103 (by omega) ?_
                  refine rm_ald (f := fN) (len := 23040) C 7 rfl rfl (by decide) (by omega) dX7_fewest_104 ?_
                  refine V.top (y := nI (nx (sid kd) N r (j + 1))) (by rw [show 6 * r + (j + 1) - 1 = 6 * r + j by omega, hnx r hr9 j (by omega), nxV, if_pos ha9]) ?_
                  refine rm_ald (f := fD) (len := 3840) C 8 rfl rfl (by decide) (by omega) dX7_fewest_105 ?_
                  refine V.top (y := nI (dd (nx (sid kd) N r (j + 1)))) (by rw [hfD _ (by assumption), hdD.uniq hdd (by assumption)]) ?_
                  refine r_aload_n C dX7_fewest_106 rfl 0 rfl ?_
                  refine rm_get (v := .ref (m0 + 9)) C 16 (by decide) wF_X7_35 rfl dX7_fewest_107 ?_
                  refine r_iload_n C dX7_fewest_110 rfl 3 rfl ?_
                  refine rm_ald (f := fD) (len := 3840) C 8 rfl rfl (by decide) (by omega) dX7_fewest_111 ?_
                  refine V.top (y := nI (dd r)) (by rw [hfD _ (by assumption), hdD.uniq hdd (by assumption)]) ?_
                  refine r_iconst (v := nI 1) C dX7_fewest_112 (by decide) ?_
                  refine r_isubN C dX7_fewest_113 (by omega) ?_
                  refine r_icmp_eqN (tgt := 123) C dX7_fewest_114 (by decide) (by omega) (by omega) (fun cz114 => ?_) (fun cz114 => ?_)
                  · have hyt : nrr kd sr N dd r (j + 1) := ⟨ha9, cz114⟩
                    have hje : j + 1 = fst9 kd sr N dd r := fst_eq hft (by omega) hyt hjl
                    refine r_bipush (v := nI 10) C dX7_fewest_123 (by decide) ?_
                    refine r_iload C dX7_fewest_125 4 rfl ?_
                    refine r_imulN C dX7_fewest_127 ?_
                    refine r_iload C dX7_fewest_128 5 rfl ?_
                    refine r_iaddN C dX7_fewest_130 ?_
                    refine r_istore (lv2 := [(4, .int (nI (10 * row + (j + 1)))), (0, .ref m0), (1, .int (nI k)), (2, .int (nI 1)), (3, .int (nI r)), (5, .int (nI (j + 1)))]) C dX7_fewest_131 (by decide) rfl ?_
                    refine r_aload_n C dX7_fewest_133 rfl 1 rfl ?_
                    refine rm_get (v := .ref (m0 + 8)) C 15 (by decide) wF_X7_32 rfl dX7_fewest_134 ?_
                    refine r_bipush (v := nI 6) C dX7_fewest_137 (by decide) ?_
                    refine r_iload_n C dX7_fewest_139 rfl 4 rfl ?_
                    refine r_imulN C dX7_fewest_140 ?_
                    refine r_iload C dX7_fewest_141 5 rfl ?_
                    refine r_iaddN C dX7_fewest_143 ?_
                    refine r_iconst (v := nI 1) C dX7_fewest_144 (by decide) ?_
                    refine r_isubN C dX7_fewest_145 (by omega) ?_
                    refine rm_ald (f := fN) (len := 23040) C 7 rfl rfl (by decide) (by omega) dX7_fewest_146 ?_
                    refine V.top (y := nI (nx (sid kd) N r (j + 1))) (by rw [show 6 * r + (j + 1) - 1 = 6 * r + j by omega, hnx r hr9 j (by omega), nxV, if_pos ha9]) ?_
                    refine r_istore_n (lv2 := [(3, .int (nI (nx (sid kd) N r (j + 1)))), (4, .int (nI (10 * row + (j + 1)))), (0, .ref m0), (1, .int (nI k)), (2, .int (nI 1)), (5, .int (nI (j + 1)))]) C dX7_fewest_147 rfl (by decide) rfl ?_
                    refine r_goto (tgt := 58) C dX7_fewest_148 (by decide) ?_
                    refine V.sub (lv2 := [(0, .ref m0), (1, .int (nI k)), (2, .int (nI 1)), (3, .int (nI (nx (sid kd) N r (j + 1)))), (4, .int (nI (10 * row + (j + 1))))]) [2, 3, 4, 0, 1] rfl ?_
                    exact ih58 (nx (sid kd) N r (j + 1)) (10 * row + (j + 1)) (by omega) (by have := cz114; omega) (by rw [← htot]; exact fwR_s hje cz64 cz114) (by have := cz114; omega)
                  · have hnt : ¬ nrr kd sr N dd r (j + 1) := fun z => cz114 z.2
                    refine r_iinc (v := nI (j + 2)) (lv2 := [(5, .int (nI (j + 2))), (0, .ref m0), (1, .int (nI k)), (2, .int (nI 1)), (3, .int (nI r)), (4, .int (nI row))]) C dX7_fewest_117 (k := 5) rfl (nI_add _ 1) (by decide) rfl ?_
                    refine r_goto (tgt := 70) C dX7_fewest_120 (by decide) ?_
                    refine V.sub (lv2 := [(0, .ref m0), (1, .int (nI k)), (2, .int (nI 1)), (3, .int (nI r)), (4, .int (nI row)), (5, .int (nI (j + 2)))]) [1, 2, 3, 4, 5, 0] rfl ?_
                    refine V.eq (σ2 := (mW G σ m0 [xstates, xtyped, xat, xreason, xdone, nI kd, nI N, nI sr] [fs, fwas, fbegun, faside, ftext, f2_1, g2_2, fN, fD, fthen, qD, frankAt, fturnAt])) (lv2 := [(0, .ref m0), (1, .int (nI k)), (2, .int (nI 1)), (3, .int (nI r)), (4, .int (nI row)), (5, .int (nI ((j + 1) + 1)))]) (st2 := []) rfl rfl (by rw [(show nI (j + 2) = nI ((j + 1) + 1) from congrArg nI (show j + 2 = (j + 1) + 1 by omega))]) rfl ?_
                    exact ih70 (j + 1) (fst_nx hft hjl hnt) (fun i hi => by rcases Nat.lt_or_eq_of_le (Nat.le_of_lt_succ hi) with h | h; (exact hjl i h); (rw [h]; exact hnt)) (by omega)
            refine V.sub (lv2 := [(0, .ref m0), (1, .int (nI k)), (2, .int (nI 1)), (3, .int (nI r)), (4, .int (nI row)), (5, .int (nI 1))]) [1, 2, 3, 4, 5, 0] rfl ?_
            refine V.eq (σ2 := (mW G σ m0 [xstates, xtyped, xat, xreason, xdone, nI kd, nI N, nI sr] [fs, fwas, fbegun, faside, ftext, f2_1, g2_2, fN, fD, fthen, qD, frankAt, fturnAt])) (lv2 := [(0, .ref m0), (1, .int (nI k)), (2, .int (nI 1)), (3, .int (nI r)), (4, .int (nI row)), (5, .int (nI (0 + 1)))]) (st2 := []) rfl rfl (by rw [(show nI 1 = nI (0 + 1) from congrArg nI (show 1 = 0 + 1 by omega))]) rfl ?_
            exact L70 _ 0 (by omega) (fun i hi => absurd hi (Nat.not_lt_zero i)) (Nat.lt_succ_self _)
      refine V.sub (lv2 := [(0, .ref m0), (1, .int (nI k)), (2, .int (nI 1)), (3, .int (nI (rk (sid kd) N o sd))), (4, .int (nI 0))]) [2, 3, 4, 1, 0] rfl ?_
      exact L58 _ (rk (sid kd) N o sd) 0 (by omega) (by omega) (rfl) (Nat.lt_succ_self _)
    · exact absurd cz45 (by decide)
  · exact absurd hgood (by omega)
