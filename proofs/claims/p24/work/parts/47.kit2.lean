def ShpAt (G : gG) (B : Nat) (σ : gS) (sa kd N sr : Nat) : Prop := shOK kd N sr ∧ B ≤ sa ∧ ∃ (la cfl : Nat) (sv : Value) (f1 f2 f3 f4 f5 : Nat → Int32), B ≤ la ∧ σ sa = some (.inr (2, [.int (nI kd), .int (nI sr), .int (nI N), .ref la, .ref (sa + 1), sv])) ∧ σ (sa + 1) = some (aI G (rR (sid kd) N) f5) ∧ σ la = some (.inr (1, [.int (nI N), .int (nI (rR (sid kd) N)), .int (nI (sbN (sid kd) N)), .int (nI (sm (sid kd) N - 1)), .ref (la + 1), .ref (la + 2), .ref (la + 3), .ref (la + 4)])) ∧ σ (la + 1) = some (aI G (fac N) f1) ∧ σ (la + 2) = some (aI G (fac N * N) f2) ∧ σ (la + 3) = some (aI G (rR (sid kd) N * N) f3) ∧ σ (la + 4) = some (aI G (rR (sid kd) N) f4) ∧ (∀ o, o < fac N → f1 o = nI (cd N o)) ∧ (∀ o, o < fac N → ∀ j, j < N → f2 (o * N + j) = nI (sz N o j)) ∧ (∀ r, r < rR (sid kd) N → ∀ k, 1 ≤ k → k ≤ N → f3 (r * N + k - 1) = nI (nx (sid kd) N r k)) ∧ (∀ r, r < rR (sid kd) N → f4 r = nI (jw (sid kd) N r)) ∧ (∀ r, r < rR (sid kd) N → f5 r = nI (psR kd sr N r))
theorem shOK.L {kd N sr : Nat} (h : shOK kd N sr) : LOK (sid kd) N := ⟨h.2.1, h.N, fun z => by have := h.2.2.1; rw [if_pos z] at this; exact this⟩
/-- a kitchen's numbers tell an abstract kitchen -/
def KA (K : KT) (a : AK) : Prop := kN K = aN a ∧ kH K = aH a ∧ (∀ j, j < 3 → kT K j = aTu a j) ∧ (∀ j, j < 3 → kW K j = aWo a j) ∧ ∀ k, k < aN a → kR K k = nI (rk (sid (aKd a k)) (aCk a k) (aO a k) (aSd a k)) ∧ kM K k = aMd a k
theorem rk_at {a : AK} {k kd N : Nat} (hA : AOK a) (hk : k < aN a) (hkd : aKd a k = kd) (hN : aCk a k = N) : rk (sid kd) N (aO a k) (aSd a k) < rR (sid kd) N := by
  subst hkd; subst hN
  exact rk_ltR (hA.2.2 k hk).2.1 (hA.2.2 k hk).2.2
theorem okA_R {a : AK} {k kd N sr w : Nat} (hA : AOK a) (hk : k < aN a) (hkd : aKd a k = kd) (hN : aCk a k = N) (hsr : aSr a k = sr) : okA a k w = okR kd sr N (rk (sid kd) N (aO a k) (aSd a k)) w := by
  subst hkd; subst hN; subst hsr
  have hs := (hA.2.2 k hk).2.2
  rw [okA, okT, okR, aR1, oR_rk hs, sR_rk hs]
theorem KA_tn {K : KT} {a : AK} {k kd N w : Nat} (h : KA K a) (hA : AOK a) (hk : k < aN a) (hok : okA a k w = true) (hkd : aKd a k = kd) (hN : aCk a k = N) : KA (kTn K k (nx (sid kd) N (rk (sid kd) N (aO a k) (aSd a k)) w) w) (tnA a k w) := by
  subst hkd; subst hN
  obtain ⟨h1, h2, h3, h4, h5⟩ := h
  have hs := (hA.2.2 k hk).2.2
  have hH := hA.2.1
  refine ⟨h1, ?_, fun j hj => ?_, fun j hj => ?_, fun j hj => ?_⟩
  · show (if kH K + 1 < 3 then kH K + 1 else 0) = (aH a + 1) % 3
    rw [h2]
    split <;> omega
  · show upd (kT K) (kH K) (kT K (kH K) + nI 1) j = va_up (aTu a) (aH a) (aTu a (aH a) + nI 1) j
    rw [h2]
    by_cases e : j = aH a
    · subst e; rw [pk_us, h3 _ hj]; simp [va_up]
    · rw [pk_un e, h3 j hj]; simp [va_up, e]
  · show upd (kW K) (kH K) (kW K (kH K) + nI w) j = va_up (aWo a) (aH a) (aWo a (aH a) + nI w) j
    rw [h2]
    by_cases e : j = aH a
    · subst e; rw [pk_us, h4 _ hj]; simp [va_up]
    · rw [pk_un e, h4 j hj]; simp [va_up, e]
  · have hj2 : j < aN a := hj
    obtain ⟨g1, g2⟩ := h5 j hj2
    constructor
    · show upd (kR K) k (nI (nx (sid (aKd a k)) (aCk a k) (rk (sid (aKd a k)) (aCk a k) (aO a k) (aSd a k)) w)) j = nI (rk (sid (aKd a j)) (aCk a j) (aO (tnA a k w) j) (aSd (tnA a k w) j))
      by_cases e : j = k
      · subst e
        rw [pk_us, nx, oR_rk hs, sR_rk hs]
        simp [aO, aSd, tnA, va_up]
      · rw [pk_un e, g1]
        simp [aO, aSd, tnA, va_up, e]
    · show upd (kM K) k (kM K k + nI 1) j = va_up (aMd a) k (aMd a k + nI 1) j
      by_cases e : j = k
      · subst e
        rw [pk_us, g2]
        simp [va_up]
      · rw [pk_un e, g2]
        simp [va_up, e]
theorem row_skip {k row D j : Nat} {a : AK} (hj : 1 ≤ j) (hD : 1 ≤ D ∧ D ≤ 8 ∧ 10 ^ (D - 1) ≤ row ∧ row < 10 ^ D) (h : row < 10 ^ (j - 1)) : rwA k row (min (j - 1) D) a = rwA k row (min j D) a := by
  have h2 : D ≤ j - 1 := by
    rcases Nat.lt_or_ge (j - 1) D with g | g
    · have := Nat.pow_le_pow_right (n := 10) (by decide) (show j - 1 ≤ D - 1 by omega)
      omega
    · exact g
  rw [Nat.min_eq_right h2, Nat.min_eq_right (by omega)]
theorem row_do {k row D j : Nat} {a : AK} (hj : 1 ≤ j) (hD : 1 ≤ D ∧ D ≤ 8 ∧ 10 ^ (D - 1) ≤ row ∧ row < 10 ^ D) (h : 10 ^ (j - 1) ≤ row) : rwA k row (min j D) a = rwA k row (j - 1 + 1) a ∧ min (j - 1) D = j - 1 := by
  have h2 : j ≤ D := by
    rcases Nat.lt_or_ge D j with g | g
    · have := Nat.pow_le_pow_right (n := 10) (by decide) (show D ≤ j - 1 by omega)
      omega
    · exact g
  rw [Nat.min_eq_left h2, show j - 1 + 1 = j by omega]
  exact ⟨rfl, Nat.min_eq_left (by omega)⟩

abbrev rm_X0_makeRow : Room := { frames := 3, cells := 0, slots := 0, locals := 67 }
set_option maxRecDepth 100000 in
set_option maxHeartbeats 4000000 in
theorem c_X0_makeRow {l : Launch} {G : gG} {n : Nat} {σ : gS} {k0 : Nat} {K : KT} {k row D : Nat} {a : AK} {sa la : Nat} {kd N sr cfl : Nat} {sv : Value} {f3 : Nat → Int32} {f5 : Nat → Int32} (hc0 : σ k0 = some (.inr (0, [.int (nI (kN K)), .int (nI (kH K)), .ref (k0 + 1), .ref (k0 + 2), .ref (k0 + 3), .ref (k0 + 4), .ref (k0 + 5)]))) (hc1 : σ (k0 + 1) = some (aI G 3 (kT K))) (hc2 : σ (k0 + 2) = some (aI G 3 (kW K))) (hc3 : σ (k0 + 3) = some (aR 4 G 5 (kS K))) (hc4 : σ (k0 + 4) = some (aI G 5 (kR K))) (hc5 : σ (k0 + 5) = some (aI G 5 (kM K))) (hc6 : σ sa = some (.inr (2, [.int (nI kd), .int (nI sr), .int (nI N), .ref la, .ref (sa + 1), sv]))) (hc7 : σ (sa + 1) = some (aI G (rR (sid kd) N) f5)) (hc8 : σ la = some (.inr (1, [.int (nI N), .int (nI (rR (sid kd) N)), .int (nI (sbN (sid kd) N)), .int (nI (sm (sid kd) N - 1)), .ref (la + 1), .ref (la + 2), .ref (la + 3), .ref (la + 4)]))) (hc9 : σ (la + 3) = some (aI G (rR (sid kd) N * N) f3)) (hKA : KA K a) (hA : AOK a) (hkn : k < aN a) (hrow : 1 ≤ row ∧ row ≤ 99999999) (hD : 1 ≤ D ∧ D ≤ 8 ∧ 10 ^ (D - 1) ≤ row ∧ row < 10 ^ D) (hs : kS K k = some sa) (hkd : aKd a k = kd) (hN : aCk a k = N) (hsr : aSr a k = sr) (hL : LOK (sid kd) N) (h5 : ∀ r, r < rR (sid kd) N → f5 r = nI (psR kd sr N r)) (h3 : ∀ r, r < rR (sid kd) N → ∀ k, 1 ≤ k → k ≤ N → f3 (r * N + k - 1) = nI (nx (sid kd) N r k)) (hap : (sa + 2 ≤ k0 ∨ k0 + 6 ≤ sa) ∧ (la + 5 ≤ k0 ∨ k0 + 6 ≤ la)) : GM l G yX0_makeRow cX0_makeRow 4 (some .boolean) rm_X0_makeRow n σ [.ref k0, .int (nI k), .int (nI row)] (fun rv n2 σ2 => some (.int (bI ((rwA k row D a).isSome))) = rv ∧ n = n2 ∧ ∃ (K2 : KT), (RW σ k0 [(.inr (0, [.int (nI (kN K2)), .int (nI (kH K2)), .ref (k0 + 1), .ref (k0 + 2), .ref (k0 + 3), .ref (k0 + 4), .ref (k0 + 5)])), (aI G 3 (kT K2)), (aI G 3 (kW K2)), (aR 4 G 5 (kS K2)), (aI G 5 (kR K2)), (aI G 5 (kM K2))]) = σ2 ∧ (∀ a2, rwA k row D a = some a2 → KA K2 a2 ∧ AOK a2) ∧ (kS K2 = kS K)) := by
  refine GM.intro (by decide +kernel) (Nat.le_of_ble_eq_true rfl) (fun p e s m args below meth c C hr hlocks hname po hpo => ?_)
  have C : Cx p s m args c cX0_makeRow 4 RX0 G := C
  have hb9 := hL.b
  refine V.hp (σ2 := (RW σ k0 [(.inr (0, [.int (nI (kN K)), .int (nI (kH K)), .ref (k0 + 1), .ref (k0 + 2), .ref (k0 + 3), .ref (k0 + 4), .ref (k0 + 5)])), (aI G 3 (kT K)), (aI G 3 (kW K)), (aR 4 G 5 (kS K)), (aI G 5 (kR K)), (aI G 5 (kM K))])) (RW_cons hc0 (RW_cons hc1 (RW_cons hc2 (RW_cons hc3 (RW_cons hc4 (RW_cons hc5 (RW_nil _ _))))))).symm ?_
  refine r_ldc C wQ_X0_78 dX0_makeRow_0 ?_
  refine V.top (y := nI 10000000) (by decide) ?_
  refine r_istore_n (lv2 := [(3, .int (nI 10000000)), (0, .ref k0), (1, .int (nI k)), (2, .int (nI row))]) C dX0_makeRow_2 rfl (by decide) rfl ?_
  have L3 : ∀ (fu : Nat) (j : Nat) (K1 : KT) (a1 : AK), (j ≤ 8) → (KA K1 a1) → (AOK a1) → (aN a1 = aN a) → (aKd a1 k = kd) → (aCk a1 k = N) → (aSr a1 k = sr) → (kS K1 = kS K) → (rwA k row (min j D) a1 = rwA k row D a) → (j) < fu → V p l e rm_X0_makeRow s m args below meth c G 4 (MQ below (gQ G po) args s rm_X0_makeRow.cells rm_X0_makeRow.slots (gF G)) 0 0 n (RW σ k0 [(.inr (0, [.int (nI (kN K1)), .int (nI (kH K1)), .ref (k0 + 1), .ref (k0 + 2), .ref (k0 + 3), .ref (k0 + 4), .ref (k0 + 5)])), (aI G 3 (kT K1)), (aI G 3 (kW K1)), (aR 4 G 5 (kS K1)), (aI G 5 (kR K1)), (aI G 5 (kM K1))]) 3 [(0, .ref k0), (1, .int (nI k)), (2, .int (nI row)), (3, .int (nI (10 ^ j / 10)))] [] := by
    intro fu
    induction fu with
    | zero => intro j K1 a1 hj hKA1 hA1 hn1 hkd1 hN1 hsr1 hS1 hrest hm; exact absurd hm (Nat.not_lt_zero _)
    | succ fu ih3 =>
      intro j K1 a1 hj hKA1 hA1 hn1 hkd1 hN1 hsr1 hS1 hrest hm3
      have hp9 := p10_le hj
      have hd8 := Nat.div_le_self (10 ^ j) 10
      have hk1 : k < aN a1 := by omega
      have hg1 := hKA1.1
      have hg2 := hKA1.2.1
      have hg3 := hA1.1
      have hg4 := hA1.2.1
      have hr1 : kR K1 k = nI (rk (sid kd) N (aO a1 k) (aSd a1 k)) := by rw [(hKA1.2.2.2.2 k hk1).1, hkd1, hN1]
      have hrl1 : (rk (sid kd) N (aO a1 k) (aSd a1 k)) < rR (sid kd) N := rk_at hA1 hk1 hkd1 hN1
      refine r_iload_n C dX0_makeRow_3 rfl 3 rfl ?_
      refine r_iconst (v := nI 1) C dX0_makeRow_4 (by decide) ?_
      refine r_icmp_ltN (tgt := 37) C dX0_makeRow_5 (by decide) (by omega) (by decide) (fun c5 => ?_) (fun c5 => ?_)
      · have hj0 : j = 0 := p10_zero (Nat.lt_one_iff.mp c5)
        refine r_iconst (v := nI 1) C dX0_makeRow_37 (by decide) ?_
        exact r_zret C (by decide) hr hlocks (Nat.le_of_ble_eq_true rfl) (Nat.le_of_ble_eq_true rfl) dX0_makeRow_38 (hpo _ _ _ ⟨bI_t (by rw [← hrest, hj0, Nat.zero_min]; rfl), rfl, K1, rfl, fun a2 h => by rw [← hrest, hj0, Nat.zero_min] at h; cases h; exact ⟨hKA1, hA1⟩, hS1⟩)
      · have hj1 := p10_pos c5
        rw [p10_d hj1] at c5 hd8
        refine V.eq (lv2 := [(0, .ref k0), (1, .int (nI k)), (2, .int (nI row)), (3, .int (nI (10 ^ (j - 1))))]) rfl rfl (by rw [(show nI (10 ^ j / 10) = nI (10 ^ (j - 1)) from by rw [p10_d hj1])]) rfl ?_
        refine r_iload_n C dX0_makeRow_8 rfl 3 rfl ?_
        refine r_iload_n C dX0_makeRow_9 rfl 2 rfl ?_
        refine r_icmp_gtN (tgt := 29) C dX0_makeRow_10 (by decide) (by omega) (by omega) (fun c10 => ?_) (fun c10 => ?_)
        · refine r_iload_n C dX0_makeRow_29 rfl 3 rfl ?_
          refine r_bipush (v := nI 10) C dX0_makeRow_30 (by decide) ?_
          refine r_idivN C dX0_makeRow_32 (by omega) (by decide) (by decide) ?_
          refine r_istore_n (lv2 := [(3, .int (nI ((10 ^ (j - 1)) / 10))), (0, .ref k0), (1, .int (nI k)), (2, .int (nI row))]) C dX0_makeRow_33 rfl (by decide) rfl ?_
          refine r_goto (tgt := 3) C dX0_makeRow_34 (by decide) ?_
          refine V.sub (lv2 := [(0, .ref k0), (1, .int (nI k)), (2, .int (nI row)), (3, .int (nI ((10 ^ (j - 1)) / 10)))]) [1, 2, 3, 0] rfl ?_
          refine V.eq (σ2 := (RW σ k0 [(.inr (0, [.int (nI (kN K1)), .int (nI (kH K1)), .ref (k0 + 1), .ref (k0 + 2), .ref (k0 + 3), .ref (k0 + 4), .ref (k0 + 5)])), (aI G 3 (kT K1)), (aI G 3 (kW K1)), (aR 4 G 5 (kS K1)), (aI G 5 (kR K1)), (aI G 5 (kM K1))])) (lv2 := [(0, .ref k0), (1, .int (nI k)), (2, .int (nI row)), (3, .int (nI (10 ^ (j - 1) / 10)))]) (st2 := []) rfl rfl rfl rfl ?_
          exact ih3 (j - 1) K1 a1 (by omega) (by first | exact hKA1 | exact KA_tn hKA1 hA1 hk1 hok9 hkd1 hN1) (by first | exact hA1 | exact tnA_ok hA1 hk1 hok9) (hn1) (hkd1) (hN1) (hsr1) (by first | exact hS1 | exact hS1) (by first | (rw [← hrest, row_skip hj1 hD c10]; done) | (rw [← hrest, (row_do hj1 hD c10).1, (row_do (k := k) (a := a) hj1 hD c10).2, rwA, if_pos hok9])) (by omega)
        · refine r_aload_n C dX0_makeRow_13 rfl 0 rfl ?_
          refine r_iload_n C dX0_makeRow_14 rfl 1 rfl ?_
          refine r_iload_n C dX0_makeRow_15 rfl 2 rfl ?_
          refine r_iload_n C dX0_makeRow_16 rfl 3 rfl ?_
          refine r_idivN C dX0_makeRow_17 (by omega) (by omega) (by omega) ?_
          have hq9 := Nat.div_le_self row (10 ^ (j - 1))
          refine r_bipush (v := nI 10) C dX0_makeRow_18 (by decide) ?_
          refine r_iremN C dX0_makeRow_20 (by omega) (by decide) (by decide) ?_
          have ho9 := okA_R (sr := sr) (w := (row / 10 ^ (j - 1) % 10)) hA1 hk1 hkd1 hN1 hsr1
          cases hok9 : okA a1 k (row / 10 ^ (j - 1) % 10) with
          | false =>
            rw [hok9] at ho9
            refine r_callV (As := [.int (nI k), .int (nI ((row / (10 ^ (j - 1))) % 10))]) C (c_X0_makeTurn_n (k0 := k0) (K := K1) (k := k) (w := (row / 10 ^ (j - 1) % 10)) (sa := sa) (la := la) (kd := kd) (N := N) (sr := sr) (cfl := cfl) (sv := sv) (f3 := f3) (f5 := f5) (r := (rk (sid kd) N (aO a1 k) (aSd a1 k))) (RW_at0 rfl) (RW_at 1 rfl) (RW_at 2 rfl) (RW_at 3 rfl) (RW_at 4 rfl) (RW_at 5 rfl) ((RW_ne (m := 6) rfl (by omega)).trans hc6) ((RW_ne (m := 6) rfl (by omega)).trans hc7) ((RW_ne (m := 6) rfl (by omega)).trans hc8) ((RW_ne (m := 6) rfl (by omega)).trans hc9) (by omega) (by omega) (by omega) (by rw [hS1]; exact hs) (hr1) (by first | assumption | omega) (by first | assumption | omega) (by first | assumption | omega) (hrl1) (Nat.mod_lt _ (by decide)) (ho9.symm)) wM_X0_79 wI_X0_makeTurn wN_X0 wC_X0_makeTurn wV_X0_makeTurn hd_X0_makeTurn ⟨Nat.le_of_ble_eq_true rfl, Nat.le_of_ble_eq_true rfl⟩ rfl (RW_at0 rfl) rfl rfl (Nat.le_of_ble_eq_true rfl) dX0_makeRow_21 ⟨(Nat.le_of_ble_eq_true rfl), (Nat.le_of_ble_eq_true rfl)⟩ (fun rv n2 σ2 hp => ?_)
            obtain ⟨rfl, rfl, rfl⟩ := hp
            refine V.eq (σ2 := (RW σ k0 [(.inr (0, [.int (nI (kN K1)), .int (nI (kH K1)), .ref (k0 + 1), .ref (k0 + 2), .ref (k0 + 3), .ref (k0 + 4), .ref (k0 + 5)])), (aI G 3 (kT K1)), (aI G 3 (kW K1)), (aR 4 G 5 (kS K1)), (aI G 5 (kR K1)), (aI G 5 (kM K1))])) (n2 := n) (st2 := [.int (bI false)]) rfl rfl rfl rfl ?_
            refine r_if_neB (tgt := 29) C dX0_makeRow_24 (by decide) (fun z => absurd z (by decide)) (fun _ => ?_)
            refine r_iconst (v := nI 0) C dX0_makeRow_27 (by decide) ?_
            exact r_zret C (by decide) hr hlocks (Nat.le_of_ble_eq_true rfl) (Nat.le_of_ble_eq_true rfl) dX0_makeRow_28 (hpo _ _ _ ⟨bI_f (by rw [← hrest, (row_do hj1 hD c10).1, rwA, if_neg (by rw [hok9]; decide)]; rfl), rfl, K1, rfl, fun a2 h => absurd h (by rw [← hrest, (row_do hj1 hD c10).1, rwA, if_neg (by rw [hok9]; decide)]; exact fun z => by cases z), hS1⟩)
          | true =>
            rw [hok9] at ho9
            refine r_callV (As := [.int (nI k), .int (nI ((row / (10 ^ (j - 1))) % 10))]) C (c_X0_makeTurn_y (k0 := k0) (K := K1) (k := k) (w := (row / 10 ^ (j - 1) % 10)) (sa := sa) (la := la) (kd := kd) (N := N) (sr := sr) (cfl := cfl) (sv := sv) (f3 := f3) (f5 := f5) (r := (rk (sid kd) N (aO a1 k) (aSd a1 k))) (RW_at0 rfl) (RW_at 1 rfl) (RW_at 2 rfl) (RW_at 3 rfl) (RW_at 4 rfl) (RW_at 5 rfl) ((RW_ne (m := 6) rfl (by omega)).trans hc6) ((RW_ne (m := 6) rfl (by omega)).trans hc7) ((RW_ne (m := 6) rfl (by omega)).trans hc8) ((RW_ne (m := 6) rfl (by omega)).trans hc9) (by omega) (by omega) (by omega) (by rw [hS1]; exact hs) (hr1) (by first | assumption | omega) (by first | assumption | omega) (by first | assumption | omega) (hrl1) (Nat.mod_lt _ (by decide)) (ho9.symm) (hap)) wM_X0_79 wI_X0_makeTurn wN_X0 wC_X0_makeTurn wV_X0_makeTurn hd_X0_makeTurn ⟨Nat.le_of_ble_eq_true rfl, Nat.le_of_ble_eq_true rfl⟩ rfl (RW_at0 rfl) rfl rfl (Nat.le_of_ble_eq_true rfl) dX0_makeRow_21 ⟨(Nat.le_of_ble_eq_true rfl), (Nat.le_of_ble_eq_true rfl)⟩ (fun rv n2 σ2 hp => ?_)
            obtain ⟨rfl, rfl, rfl⟩ := hp
            refine V.eq (σ2 := (RW (RW σ k0 [(.inr (0, [.int (nI (kN K1)), .int (nI (kH K1)), .ref (k0 + 1), .ref (k0 + 2), .ref (k0 + 3), .ref (k0 + 4), .ref (k0 + 5)])), (aI G 3 (kT K1)), (aI G 3 (kW K1)), (aR 4 G 5 (kS K1)), (aI G 5 (kR K1)), (aI G 5 (kM K1))]) k0 [(.inr (0, [.int (nI (kN (kTn K1 k (nx (sid kd) N (rk (sid kd) N (aO a1 k) (aSd a1 k)) (row / 10 ^ (j - 1) % 10)) (row / 10 ^ (j - 1) % 10)))), .int (nI (kH (kTn K1 k (nx (sid kd) N (rk (sid kd) N (aO a1 k) (aSd a1 k)) (row / 10 ^ (j - 1) % 10)) (row / 10 ^ (j - 1) % 10)))), .ref (k0 + 1), .ref (k0 + 2), .ref (k0 + 3), .ref (k0 + 4), .ref (k0 + 5)])), (aI G 3 (kT (kTn K1 k (nx (sid kd) N (rk (sid kd) N (aO a1 k) (aSd a1 k)) (row / 10 ^ (j - 1) % 10)) (row / 10 ^ (j - 1) % 10)))), (aI G 3 (kW (kTn K1 k (nx (sid kd) N (rk (sid kd) N (aO a1 k) (aSd a1 k)) (row / 10 ^ (j - 1) % 10)) (row / 10 ^ (j - 1) % 10)))), (aR 4 G 5 (kS (kTn K1 k (nx (sid kd) N (rk (sid kd) N (aO a1 k) (aSd a1 k)) (row / 10 ^ (j - 1) % 10)) (row / 10 ^ (j - 1) % 10)))), (aI G 5 (kR (kTn K1 k (nx (sid kd) N (rk (sid kd) N (aO a1 k) (aSd a1 k)) (row / 10 ^ (j - 1) % 10)) (row / 10 ^ (j - 1) % 10)))), (aI G 5 (kM (kTn K1 k (nx (sid kd) N (rk (sid kd) N (aO a1 k) (aSd a1 k)) (row / 10 ^ (j - 1) % 10)) (row / 10 ^ (j - 1) % 10))))])) (n2 := n) (st2 := [.int (bI true)]) rfl rfl rfl rfl ?_
            refine V.hp (σ2 := (RW σ k0 [(.inr (0, [.int (nI (kN (kTn K1 k (nx (sid kd) N (rk (sid kd) N (aO a1 k) (aSd a1 k)) (row / 10 ^ (j - 1) % 10)) (row / 10 ^ (j - 1) % 10)))), .int (nI (kH (kTn K1 k (nx (sid kd) N (rk (sid kd) N (aO a1 k) (aSd a1 k)) (row / 10 ^ (j - 1) % 10)) (row / 10 ^ (j - 1) % 10)))), .ref (k0 + 1), .ref (k0 + 2), .ref (k0 + 3), .ref (k0 + 4), .ref (k0 + 5)])), (aI G 3 (kT (kTn K1 k (nx (sid kd) N (rk (sid kd) N (aO a1 k) (aSd a1 k)) (row / 10 ^ (j - 1) % 10)) (row / 10 ^ (j - 1) % 10)))), (aI G 3 (kW (kTn K1 k (nx (sid kd) N (rk (sid kd) N (aO a1 k) (aSd a1 k)) (row / 10 ^ (j - 1) % 10)) (row / 10 ^ (j - 1) % 10)))), (aR 4 G 5 (kS (kTn K1 k (nx (sid kd) N (rk (sid kd) N (aO a1 k) (aSd a1 k)) (row / 10 ^ (j - 1) % 10)) (row / 10 ^ (j - 1) % 10)))), (aI G 5 (kR (kTn K1 k (nx (sid kd) N (rk (sid kd) N (aO a1 k) (aSd a1 k)) (row / 10 ^ (j - 1) % 10)) (row / 10 ^ (j - 1) % 10)))), (aI G 5 (kM (kTn K1 k (nx (sid kd) N (rk (sid kd) N (aO a1 k) (aSd a1 k)) (row / 10 ^ (j - 1) % 10)) (row / 10 ^ (j - 1) % 10))))])) (RW_in0 (m := 6) rfl (Nat.le_of_ble_eq_true rfl) rfl) ?_
            refine r_if_neB (tgt := 29) C dX0_makeRow_24 (by decide) (fun _ => ?_) (fun z => absurd z (by decide))
            refine r_iload_n C dX0_makeRow_29 rfl 3 rfl ?_
            refine r_bipush (v := nI 10) C dX0_makeRow_30 (by decide) ?_
            refine r_idivN C dX0_makeRow_32 (by omega) (by decide) (by decide) ?_
            refine r_istore_n (lv2 := [(3, .int (nI ((10 ^ (j - 1)) / 10))), (0, .ref k0), (1, .int (nI k)), (2, .int (nI row))]) C dX0_makeRow_33 rfl (by decide) rfl ?_
            refine r_goto (tgt := 3) C dX0_makeRow_34 (by decide) ?_
            refine V.sub (lv2 := [(0, .ref k0), (1, .int (nI k)), (2, .int (nI row)), (3, .int (nI ((10 ^ (j - 1)) / 10)))]) [1, 2, 3, 0] rfl ?_
            refine V.eq (σ2 := (RW σ k0 [(.inr (0, [.int (nI (kN (kTn K1 k (nx (sid kd) N (rk (sid kd) N (aO a1 k) (aSd a1 k)) (row / 10 ^ (j - 1) % 10)) (row / 10 ^ (j - 1) % 10)))), .int (nI (kH (kTn K1 k (nx (sid kd) N (rk (sid kd) N (aO a1 k) (aSd a1 k)) (row / 10 ^ (j - 1) % 10)) (row / 10 ^ (j - 1) % 10)))), .ref (k0 + 1), .ref (k0 + 2), .ref (k0 + 3), .ref (k0 + 4), .ref (k0 + 5)])), (aI G 3 (kT (kTn K1 k (nx (sid kd) N (rk (sid kd) N (aO a1 k) (aSd a1 k)) (row / 10 ^ (j - 1) % 10)) (row / 10 ^ (j - 1) % 10)))), (aI G 3 (kW (kTn K1 k (nx (sid kd) N (rk (sid kd) N (aO a1 k) (aSd a1 k)) (row / 10 ^ (j - 1) % 10)) (row / 10 ^ (j - 1) % 10)))), (aR 4 G 5 (kS (kTn K1 k (nx (sid kd) N (rk (sid kd) N (aO a1 k) (aSd a1 k)) (row / 10 ^ (j - 1) % 10)) (row / 10 ^ (j - 1) % 10)))), (aI G 5 (kR (kTn K1 k (nx (sid kd) N (rk (sid kd) N (aO a1 k) (aSd a1 k)) (row / 10 ^ (j - 1) % 10)) (row / 10 ^ (j - 1) % 10)))), (aI G 5 (kM (kTn K1 k (nx (sid kd) N (rk (sid kd) N (aO a1 k) (aSd a1 k)) (row / 10 ^ (j - 1) % 10)) (row / 10 ^ (j - 1) % 10))))])) (lv2 := [(0, .ref k0), (1, .int (nI k)), (2, .int (nI row)), (3, .int (nI (10 ^ (j - 1) / 10)))]) (st2 := []) rfl rfl rfl rfl ?_
            exact ih3 (j - 1) (kTn K1 k (nx (sid kd) N (rk (sid kd) N (aO a1 k) (aSd a1 k)) (row / 10 ^ (j - 1) % 10)) (row / 10 ^ (j - 1) % 10)) (tnA a1 k (row / 10 ^ (j - 1) % 10)) (by omega) (by first | exact hKA1 | exact KA_tn hKA1 hA1 hk1 hok9 hkd1 hN1) (by first | exact hA1 | exact tnA_ok hA1 hk1 hok9) (hn1) (hkd1) (hN1) (hsr1) (by first | exact hS1 | exact hS1) (by first | (rw [← hrest, row_skip hj1 hD c10]; done) | (rw [← hrest, (row_do hj1 hD c10).1, (row_do (k := k) (a := a) hj1 hD c10).2, rwA, if_pos hok9])) (by omega)
  refine V.sub (lv2 := [(0, .ref k0), (1, .int (nI k)), (2, .int (nI row)), (3, .int (nI 10000000))]) [1, 2, 3, 0] rfl ?_
  refine V.eq (σ2 := (RW σ k0 [(.inr (0, [.int (nI (kN K)), .int (nI (kH K)), .ref (k0 + 1), .ref (k0 + 2), .ref (k0 + 3), .ref (k0 + 4), .ref (k0 + 5)])), (aI G 3 (kT K)), (aI G 3 (kW K)), (aR 4 G 5 (kS K)), (aI G 5 (kR K)), (aI G 5 (kM K))])) (lv2 := [(0, .ref k0), (1, .int (nI k)), (2, .int (nI row)), (3, .int (nI (10 ^ 8 / 10)))]) (st2 := []) rfl rfl (by rw [(show nI 10000000 = nI (10 ^ 8 / 10) from by decide)]) rfl ?_
  exact L3 _ 8 K a (by omega) (hKA) (hA) (rfl) (hkd) (hN) (hsr) (rfl) (by rw [Nat.min_eq_right hD.2.1]) (Nat.lt_succ_self _)
