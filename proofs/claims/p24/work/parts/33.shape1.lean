def psR (kd sr N r : Nat) : Nat := psp kd sr N (oR (sid kd) N r) (sR (sid kd) N r) N
theorem psp_tb (kd sr N o sd : Nat) : ∀ n j, (psp kd sr N o sd n).testBit j = (decide (1 ≤ j ∧ j ≤ n) && al kd sr N o sd j)
  | 0, j => by
    rw [psp, Nat.zero_testBit, decide_eq_false (by omega), Bool.false_and]
  | n + 1, j => by
    rw [psp, Nat.testBit_or, psp_tb kd sr N o sd n j]
    by_cases g : n + 1 = j
    · subst g
      rw [decide_eq_false (by omega), decide_eq_true (by omega), Bool.false_and, Bool.true_and, Bool.false_or]
      cases h : al kd sr N o sd (n + 1) with
      | true => rw [if_pos rfl, Nat.one_mul, Nat.testBit_two_pow]; simp
      | false => simp
    · have e : (if al kd sr N o sd (n + 1) = true then 1 * 2 ^ (n + 1) else 0).testBit j = false := by
        split
        · rw [Nat.one_mul, Nat.testBit_two_pow]; simpa using g
        · simp
      rw [e, Bool.or_false]
      congr 1
      exact decide_eq_decide.mpr (by omega)
theorem psp_lt (kd sr N o sd n : Nat) : psp kd sr N o sd n < 2 ^ (n + 1) := by
  apply Nat.lt_pow_two_of_testBit
  intro i hi
  rw [psp_tb, decide_eq_false (by omega), Bool.false_and]
theorem psR_lt {kd sr N r : Nat} (h : N ≤ 6) : psR kd sr N r < 128 := Nat.lt_of_lt_of_le (psp_lt _ _ _ _ _ _) (Nat.pow_le_pow_right (n := 2) (by decide) (show N + 1 ≤ 7 by omega))
theorem bt_psR {kd sr N r k : Nat} (h1 : 1 ≤ k) (h : k ≤ N) : bt (psR kd sr N r) k = (aR1 kd sr N r k).toNat := by
  rw [bt_tb, psR, psp_tb, decide_eq_true ⟨h1, h⟩, Bool.true_and, aR1]
theorem al_2 {kd st N o sd k : Nat} (h : kd = 2) : al kd st N o sd k = !(jn (sid kd) N o sd (k - 1)) := by rw [al, if_pos h]
theorem al_n2 {kd st N o sd k : Nat} (h : kd ≠ 2) : al kd st N o sd k = (kd != 3 || decide (wt N o k ≤ st)) := by rw [al, if_neg h]
theorem al_t2 {kd st N o sd i : Nat} (h : kd = 2) (h2 : jn (sid kd) N o sd i = false) : al kd st N o sd (i + 1) = true := by rw [al_2 h, Nat.add_sub_cancel, h2]; rfl
theorem al_f2 {kd st N o sd i : Nat} (h : kd = 2) (h2 : jn (sid kd) N o sd i = true) : al kd st N o sd (i + 1) = false := by rw [al_2 h, Nat.add_sub_cancel, h2]; rfl
theorem al_t0 {kd st N o sd k : Nat} (h : kd ≠ 2) (h2 : kd ≠ 3) : al kd st N o sd k = true := by rw [al_n2 h]; simp [h2]
theorem al_t3 {kd st N o sd k : Nat} (h : kd ≠ 2) (h2 : kd = 3) (h3 : wt N o k ≤ st) : al kd st N o sd k = true := by rw [al_n2 h]; simp [h3]
theorem al_f3 {kd st N o sd k : Nat} (h : kd ≠ 2) (h2 : kd = 3) (h3 : st < wt N o k) : al kd st N o sd k = false := by rw [al_n2 h]; simp [h2, Nat.not_le.mpr h3]
theorem psp_y {kd sr N o sd i : Nat} (h : al kd sr N o sd (i + 1) = true) : psp kd sr N o sd (i + 1) = (psp kd sr N o sd i ||| 1 * 2 ^ (i + 1)) := by rw [psp, if_pos h]
theorem psp_n {kd sr N o sd i : Nat} (h : al kd sr N o sd (i + 1) = false) : psp kd sr N o sd (i + 1) = psp kd sr N o sd i := by
  rw [psp, if_neg (by rw [h]; decide)]
  exact Nat.or_zero _
def okR (kd sr N r k : Nat) : Bool := decide (1 ≤ k ∧ k ≤ N) && aR1 kd sr N r k

abbrev rm_X2_possibleTurns : Room := { frames := 1, cells := 0, slots := 0, locals := 21 }
set_option maxRecDepth 100000 in
set_option maxHeartbeats 4000000 in
theorem c_X2_possibleTurns {l : Launch} {G : gG} {n : Nat} {σ : gS} {sa la : Nat} {kd N sr : Nat} {sv : Value} {f5 : Nat → Int32} {r : Nat} (hc0 : σ sa = some (.inr (2, [.int (nI kd), .int (nI sr), .int (nI N), .ref la, .ref (sa + 1), sv]))) (hc1 : σ (sa + 1) = some (aI G (rR (sid kd) N) f5)) (hL : LOK (sid kd) N) (h5 : ∀ r, r < rR (sid kd) N → f5 r = nI (psR kd sr N r)) (hrk : r < rR (sid kd) N) : GM l G yX2_possibleTurns cX2_possibleTurns 2 (some .int) rm_X2_possibleTurns n σ [.ref sa, .int (nI r)] (fun rv n2 σ2 => some (.int (nI (psR kd sr N r))) = rv ∧ n = n2 ∧ σ = σ2) := by
  refine GM.intro (by decide +kernel) (Nat.le_of_ble_eq_true rfl) (fun p e s m args below meth c C hr hlocks hname po hpo => ?_)
  have C : Cx p s m args c cX2_possibleTurns 2 RX2 G := C
  have hb9 := hL.b
  refine r_aload_n C dX2_possibleTurns_0 rfl 0 rfl ?_
  refine r_get (Cn := RX2) (T := TX2) (N := 6) (v := .ref (sa + 1)) C inlX2 hc0 rfl 4 (by decide) wF_X2_39 (fun _ h => h) rfl dX2_possibleTurns_1 ?_
  refine r_iload_n C dX2_possibleTurns_4 rfl 1 rfl ?_
  refine r_callSN (As := [.ref (sa + 1), .int (nI r)]) C (c_X6_at_y (a := sa + 1) (len := rR (sid kd) N) (f := f5) (i := r) hc1 (by first | assumption | omega) (by first | assumption | omega)) wZ_X2_60 wS_X6_at wN_X6 wC_X6_at hd_X6_at ⟨Nat.le_of_ble_eq_true rfl, Nat.le_of_ble_eq_true rfl⟩ rfl rfl (Nat.le_of_ble_eq_true rfl) dX2_possibleTurns_5 ⟨(Nat.le_of_ble_eq_true rfl), (Nat.le_of_ble_eq_true rfl)⟩ (fun rv n2 σ2 hp => ?_)
  obtain ⟨rfl, rfl, rfl⟩ := hp
  refine V.eq (σ2 := σ) (n2 := n) (st2 := [.int (f5 r)]) rfl rfl rfl rfl ?_
  refine V.top (y := nI (psR kd sr N r)) (h5 _ hrk) ?_
  exact r_iret C hr hlocks (Nat.le_of_ble_eq_true rfl) (Nat.le_of_ble_eq_true rfl) dX2_possibleTurns_8 (hpo _ _ _ ⟨rfl, rfl, rfl⟩)

abbrev rm_X2_allows : Room := { frames := 1, cells := 0, slots := 0, locals := 21 }
set_option maxRecDepth 100000 in
set_option maxHeartbeats 4000000 in
theorem c_X2_allows {l : Launch} {G : gG} {n : Nat} {σ : gS} {sa la : Nat} {kd N sr : Nat} {sv : Value} {f5 : Nat → Int32} {r k : Nat} (hc0 : σ sa = some (.inr (2, [.int (nI kd), .int (nI sr), .int (nI N), .ref la, .ref (sa + 1), sv]))) (hc1 : σ (sa + 1) = some (aI G (rR (sid kd) N) f5)) (hL : LOK (sid kd) N) (h5 : ∀ r, r < rR (sid kd) N → f5 r = nI (psR kd sr N r)) (hrk : r < rR (sid kd) N) (hk : k < 10) : GM l G yX2_allows cX2_allows 3 (some .boolean) rm_X2_allows n σ [.ref sa, .int (nI r), .int (nI k)] (fun rv n2 σ2 => some (.int (bI (okR kd sr N r k))) = rv ∧ n = n2 ∧ σ = σ2) := by
  refine GM.intro (by decide +kernel) (Nat.le_of_ble_eq_true rfl) (fun p e s m args below meth c C hr hlocks hname po hpo => ?_)
  have C : Cx p s m args c cX2_allows 3 RX2 G := C
  have hb9 := hL.b
  have hps := psR_lt hL.2.1 (kd := kd) (sr := sr) (r := r)
  refine r_iload_n C dX2_allows_0 rfl 2 rfl ?_
  refine r_iconst (v := nI 1) C dX2_allows_1 (by decide) ?_
  refine r_icmp_ltN (tgt := 32) C dX2_allows_2 (by decide) (by omega) (by decide) (fun c2 => ?_) (fun c2 => ?_)
  · refine r_iconst (v := nI 0) C dX2_allows_32 (by decide) ?_
    exact r_zret C (by decide) hr hlocks (Nat.le_of_ble_eq_true rfl) (Nat.le_of_ble_eq_true rfl) dX2_allows_33 (hpo _ _ _ ⟨by first | (rw [hbk] at c25; rw [okR, decide_eq_true (show 1 ≤ k ∧ k ≤ N by omega), Bool.true_and]; first | exact bI_t (jn_1 c25) | exact bI_f (jn_0 c25)) | exact bI_f (by rw [okR, decide_eq_false (by omega), Bool.false_and]), rfl, rfl⟩)
  · refine r_iload_n C dX2_allows_5 rfl 2 rfl ?_
    refine r_aload_n C dX2_allows_6 rfl 0 rfl ?_
    refine r_get (Cn := RX2) (T := TX2) (N := 6) (v := .int (nI N)) C inlX2 hc0 rfl 2 (by decide) wF_X2_31 (fun _ h => h) rfl dX2_allows_7 ?_
    refine r_icmp_gtN (tgt := 32) C dX2_allows_10 (by decide) (by omega) (by omega) (fun c10 => ?_) (fun c10 => ?_)
    · refine r_iconst (v := nI 0) C dX2_allows_32 (by decide) ?_
      exact r_zret C (by decide) hr hlocks (Nat.le_of_ble_eq_true rfl) (Nat.le_of_ble_eq_true rfl) dX2_allows_33 (hpo _ _ _ ⟨by first | (rw [hbk] at c25; rw [okR, decide_eq_true (show 1 ≤ k ∧ k ≤ N by omega), Bool.true_and]; first | exact bI_t (jn_1 c25) | exact bI_f (jn_0 c25)) | exact bI_f (by rw [okR, decide_eq_false (by omega), Bool.false_and]), rfl, rfl⟩)
    · refine r_aload_n C dX2_allows_13 rfl 0 rfl ?_
      refine r_get (Cn := RX2) (T := TX2) (N := 6) (v := .ref (sa + 1)) C inlX2 hc0 rfl 4 (by decide) wF_X2_39 (fun _ h => h) rfl dX2_allows_14 ?_
      refine r_iload_n C dX2_allows_17 rfl 1 rfl ?_
      refine r_callSN (As := [.ref (sa + 1), .int (nI r)]) C (c_X6_at_y (a := sa + 1) (len := rR (sid kd) N) (f := f5) (i := r) hc1 (by first | assumption | omega) (by first | assumption | omega)) wZ_X2_60 wS_X6_at wN_X6 wC_X6_at hd_X6_at ⟨Nat.le_of_ble_eq_true rfl, Nat.le_of_ble_eq_true rfl⟩ rfl rfl (Nat.le_of_ble_eq_true rfl) dX2_allows_18 ⟨(Nat.le_of_ble_eq_true rfl), (Nat.le_of_ble_eq_true rfl)⟩ (fun rv n2 σ2 hp => ?_)
      obtain ⟨rfl, rfl, rfl⟩ := hp
      refine V.eq (σ2 := σ) (n2 := n) (st2 := [.int (f5 r)]) rfl rfl rfl rfl ?_
      refine V.top (y := nI (psR kd sr N r)) (h5 _ hrk) ?_
      refine r_iload_n C dX2_allows_21 rfl 2 rfl ?_
      refine r_ishrN C dX2_allows_22 (by omega) (by omega) ?_
      refine r_iconst (v := nI 1) C dX2_allows_23 (by decide) ?_
      refine r_iandN C dX2_allows_24 ?_
      refine V.top (y := nI (bt (psR kd sr N r) k)) (congrArg nI (bt_1 _ _)) ?_
      have hbt := bt_le (psR kd sr N r) k
      have hbk := bt_psR (kd := kd) (sr := sr) (r := r) (show 1 ≤ k by omega) (show k ≤ N by omega)
      refine r_if_eqN (tgt := 32) C dX2_allows_25 (by decide) (by omega) (fun c25 => ?_) (fun c25 => ?_)
      · refine r_iconst (v := nI 0) C dX2_allows_32 (by decide) ?_
        exact r_zret C (by decide) hr hlocks (Nat.le_of_ble_eq_true rfl) (Nat.le_of_ble_eq_true rfl) dX2_allows_33 (hpo _ _ _ ⟨by first | (rw [hbk] at c25; rw [okR, decide_eq_true (show 1 ≤ k ∧ k ≤ N by omega), Bool.true_and]; first | exact bI_t (jn_1 c25) | exact bI_f (jn_0 c25)) | exact bI_f (by rw [okR, decide_eq_false (by omega), Bool.false_and]), rfl, rfl⟩)
      · refine r_iconst (v := nI 1) C dX2_allows_28 (by decide) ?_
        refine r_goto (tgt := 33) C dX2_allows_29 (by decide) ?_
        exact r_zret C (by decide) hr hlocks (Nat.le_of_ble_eq_true rfl) (Nat.le_of_ble_eq_true rfl) dX2_allows_33 (hpo _ _ _ ⟨by first | (rw [hbk] at c25; rw [okR, decide_eq_true (show 1 ≤ k ∧ k ≤ N by omega), Bool.true_and]; first | exact bI_t (jn_1 c25) | exact bI_f (jn_0 c25)) | exact bI_f (by rw [okR, decide_eq_false (by omega), Bool.false_and]), rfl, rfl⟩)

abbrev rm_X2_findPossible : Room := { frames := 2, cells := 0, slots := 0, locals := 43 }
set_option maxRecDepth 100000 in
set_option maxHeartbeats 4000000 in
theorem c_X2_findPossible {l : Launch} {G : gG} {n : Nat} {σ : gS} {sa la : Nat} {kd N sr : Nat} {sv : Value} {f2 : Nat → Int32} {f4 : Nat → Int32} {r cfl : Nat} (hc0 : σ sa = some (.inr (2, [.int (nI kd), .int (nI sr), .int (nI N), .ref la, .ref (sa + 1), sv]))) (hc1 : σ la = some (.inr (1, [.int (nI N), .int (nI (rR (sid kd) N)), .int (nI (sbN (sid kd) N)), .int (nI (sm (sid kd) N - 1)), .ref (la + 1), .ref (la + 2), .ref (la + 3), .ref (la + 4)]))) (hc2 : σ (la + 2) = some (aI G (fac N * N) f2)) (hc3 : σ (la + 4) = some (aI G (rR (sid kd) N) f4)) (hL : LOK (sid kd) N) (hkd : kd < 4) (hsr : sr ≤ 21) (h2 : ∀ o, o < fac N → ∀ j, j < N → f2 (o * N + j) = nI (sz N o j)) (h4 : ∀ r, r < rR (sid kd) N → f4 r = nI (jw (sid kd) N r)) (hrk : r < rR (sid kd) N) : GM l G yX2_findPossible cX2_findPossible 7 (some .int) rm_X2_findPossible n σ [.ref sa, .int (nI r)] (fun rv n2 σ2 => some (.int (nI (psR kd sr N r))) = rv ∧ n = n2 ∧ σ = σ2) := by
  refine GM.intro (by decide +kernel) (Nat.le_of_ble_eq_true rfl) (fun p e s m args below meth c C hr hlocks hname po hpo => ?_)
  have C : Cx p s m args c cX2_findPossible 7 RX2 G := C
  have hb9 := hL.b
  refine r_iconst (v := nI 0) C dX2_findPossible_0 (by decide) ?_
  refine r_istore_n (lv2 := [(2, .int (nI 0)), (0, .ref sa), (1, .int (nI r))]) C dX2_findPossible_1 rfl (by decide) rfl ?_
  refine r_iconst (v := nI 0) C dX2_findPossible_2 (by decide) ?_
  refine r_istore_n (lv2 := [(3, .int (nI 0)), (2, .int (nI 0)), (0, .ref sa), (1, .int (nI r))]) C dX2_findPossible_3 rfl (by decide) rfl ?_
  refine r_iconst (v := nI 1) C dX2_findPossible_4 (by decide) ?_
  refine r_istore (lv2 := [(4, .int (nI 1)), (3, .int (nI 0)), (2, .int (nI 0)), (0, .ref sa), (1, .int (nI r))]) C dX2_findPossible_5 (by decide) rfl ?_
  have L7 : ∀ (fu : Nat) (i : Nat), (i ≤ N) → (N + 1 - i) < fu → V p l e rm_X2_findPossible s m args below meth c G 7 (MQ below (gQ G po) args s rm_X2_findPossible.cells rm_X2_findPossible.slots (gF G)) 0 0 n σ 7 [(0, .ref sa), (1, .int (nI r)), (2, .int (nI (psp kd sr N (oR (sid kd) N r) (sR (sid kd) N r) i))), (3, .int (nI (wt N (oR (sid kd) N r) i))), (4, .int (nI (i + 1)))] [] := by
    intro fu
    induction fu with
    | zero => intro i hi hm; exact absurd hm (Nat.not_lt_zero _)
    | succ fu ih7 =>
      intro i hi hm7
      refine r_iload C dX2_findPossible_7 4 rfl ?_
      refine r_aload_n C dX2_findPossible_9 rfl 0 rfl ?_
      refine r_get (Cn := RX2) (T := TX2) (N := 6) (v := .int (nI N)) C inlX2 hc0 rfl 2 (by decide) wF_X2_31 (fun _ h => h) rfl dX2_findPossible_10 ?_
      refine r_icmp_gtN (tgt := 107) C dX2_findPossible_13 (by decide) (by omega) (by omega) (fun c13 => ?_) (fun c13 => ?_)
      · have hiN : i = N := by omega
        refine r_iload_n C dX2_findPossible_107 rfl 2 rfl ?_
        exact r_iret C hr hlocks (Nat.le_of_ble_eq_true rfl) (Nat.le_of_ble_eq_true rfl) dX2_findPossible_108 (hpo _ _ _ ⟨by rw [psR, ← hiN], rfl, rfl⟩)
      · have hwt := wt_le hL.2.1 (oR_lt hrk) (show i + 1 ≤ N by omega)
        have hws : wt N (oR (sid kd) N r) (i + 1) = wt N (oR (sid kd) N r) i + sz N (oR (sid kd) N r) i := rfl
        refine r_iload_n C dX2_findPossible_16 rfl 3 rfl ?_
        refine r_aload_n C dX2_findPossible_17 rfl 0 rfl ?_
        refine r_get (Cn := RX2) (T := TX2) (N := 6) (v := .ref la) C inlX2 hc0 rfl 3 (by decide) wF_X2_22 (fun _ h => h) rfl dX2_findPossible_18 ?_
        refine r_iload_n C dX2_findPossible_21 rfl 1 rfl ?_
        refine r_iload C dX2_findPossible_22 4 rfl ?_
        refine r_iconst (v := nI 1) C dX2_findPossible_24 (by decide) ?_
        refine r_isubN C dX2_findPossible_25 (by omega) ?_
        refine V.top (y := nI i) (congrArg nI (Nat.add_sub_cancel i 1)) ?_
        refine r_callV (As := [.int (nI r), .int (nI i)]) C (c_X1_sizeAt (la := la) (N := N) (cfl := cfl) (sb := (sid kd)) (f2 := f2) (r := r) (j := i) hc1 hc2 (by first | assumption | omega) (by first | assumption | omega) (by first | assumption | omega) (by first | assumption | omega)) wM_X2_47 wI_X1_sizeAt wN_X1 wC_X1_sizeAt wV_X1_sizeAt hd_X1_sizeAt ⟨Nat.le_of_ble_eq_true rfl, Nat.le_of_ble_eq_true rfl⟩ rfl hc1 rfl rfl (Nat.le_of_ble_eq_true rfl) dX2_findPossible_26 ⟨(Nat.le_of_ble_eq_true rfl), (Nat.le_of_ble_eq_true rfl)⟩ (fun rv n2 σ2 hp => ?_)
        obtain ⟨rfl, rfl, rfl⟩ := hp
        refine V.eq (σ2 := σ) (n2 := n) (st2 := [.int (nI (sz N (oR (sid kd) N r) i)), .int (nI (wt N (oR (sid kd) N r) i))]) rfl rfl rfl rfl ?_
        refine r_iaddN C dX2_findPossible_29 ?_
        refine r_istore_n (lv2 := [(3, .int (nI (wt N (oR (sid kd) N r) (i + 1)))), (0, .ref sa), (1, .int (nI r)), (2, .int (nI (psp kd sr N (oR (sid kd) N r) (sR (sid kd) N r) i))), (4, .int (nI (i + 1)))]) C dX2_findPossible_30 rfl (by decide) rfl ?_
        refine r_aload_n C dX2_findPossible_31 rfl 1 rfl ?_
        refine r_get (Cn := RX2) (T := TX2) (N := 6) (v := .int (nI kd)) C inlX2 hc0 rfl 0 (by decide) wF_X2_15 (fun _ h => h) rfl dX2_findPossible_32 ?_
        refine r_iconst (v := nI 2) C dX2_findPossible_35 (by decide) ?_
        refine r_icmp_neN (tgt := 58) C dX2_findPossible_36 (by decide) (by omega) (by decide) (fun c36 => ?_) (fun c36 => ?_)
        · refine r_iconst (v := nI 0) C dX2_findPossible_58 (by decide) ?_
          refine V.top (y := bI false) rfl ?_
          refine r_istore (lv2 := [(5, .int (bI false)), (3, .int (nI (wt N (oR (sid kd) N r) (i + 1)))), (0, .ref sa), (1, .int (nI r)), (2, .int (nI (psp kd sr N (oR (sid kd) N r) (sR (sid kd) N r) i))), (4, .int (nI (i + 1)))]) C dX2_findPossible_59 (by decide) rfl ?_
          refine r_aload_n C dX2_findPossible_61 rfl 2 rfl ?_
          refine r_get (Cn := RX2) (T := TX2) (N := 6) (v := .int (nI kd)) C inlX2 hc0 rfl 0 (by decide) wF_X2_15 (fun _ h => h) rfl dX2_findPossible_62 ?_
          refine r_iconst (v := nI 3) C dX2_findPossible_65 (by decide) ?_
          refine r_icmp_neN (tgt := 81) C dX2_findPossible_66 (by decide) (by omega) (by decide) (fun c66 => ?_) (fun c66 => ?_)
          · refine r_iconst (v := nI 0) C dX2_findPossible_81 (by decide) ?_
            refine V.top (y := bI false) rfl ?_
            refine r_istore (lv2 := [(6, .int (bI false)), (5, .int (bI false)), (3, .int (nI (wt N (oR (sid kd) N r) (i + 1)))), (0, .ref sa), (1, .int (nI r)), (2, .int (nI (psp kd sr N (oR (sid kd) N r) (sR (sid kd) N r) i))), (4, .int (nI (i + 1)))]) C dX2_findPossible_82 (by decide) rfl ?_
            refine r_iload C dX2_findPossible_84 1 rfl ?_
            refine r_if_neB (tgt := 101) C dX2_findPossible_86 (by decide) (fun z => absurd z (by decide)) (fun _ => ?_)
            refine r_iload C dX2_findPossible_89 0 rfl ?_
            refine r_if_neB (tgt := 101) C dX2_findPossible_91 (by decide) (fun z => absurd z (by decide)) (fun _ => ?_)
            refine r_iload_n C dX2_findPossible_94 rfl 5 rfl ?_
            refine r_iconst (v := nI 1) C dX2_findPossible_95 (by decide) ?_
            refine r_iload C dX2_findPossible_96 6 rfl ?_
            refine r_ishlN C dX2_findPossible_98 (by omega) ?_
            refine r_iorN C dX2_findPossible_99 ?_
            refine r_istore_n (lv2 := [(2, .int (nI ((psp kd sr N (oR (sid kd) N r) (sR (sid kd) N r) i) ||| (1 * 2 ^ (i + 1))))), (6, .int (bI false)), (5, .int (bI false)), (3, .int (nI (wt N (oR (sid kd) N r) (i + 1)))), (0, .ref sa), (1, .int (nI r)), (4, .int (nI (i + 1)))]) C dX2_findPossible_100 rfl (by decide) rfl ?_
            refine r_iinc (v := nI (i + 2)) (lv2 := [(4, .int (nI (i + 2))), (2, .int (nI ((psp kd sr N (oR (sid kd) N r) (sR (sid kd) N r) i) ||| (1 * 2 ^ (i + 1))))), (6, .int (bI false)), (5, .int (bI false)), (3, .int (nI (wt N (oR (sid kd) N r) (i + 1)))), (0, .ref sa), (1, .int (nI r))]) C dX2_findPossible_101 (k := 6) rfl (nI_add _ 1) (by decide) rfl ?_
            refine r_goto (tgt := 7) C dX2_findPossible_104 (by decide) ?_
            refine V.sub (lv2 := [(0, .ref sa), (1, .int (nI r)), (2, .int (nI ((psp kd sr N (oR (sid kd) N r) (sR (sid kd) N r) i) ||| (1 * 2 ^ (i + 1))))), (3, .int (nI (wt N (oR (sid kd) N r) (i + 1)))), (4, .int (nI (i + 2)))]) [5, 6, 1, 4, 0] rfl ?_
            refine V.eq (σ2 := σ) (lv2 := [(0, .ref sa), (1, .int (nI r)), (2, .int (nI (psp kd sr N (oR (sid kd) N r) (sR (sid kd) N r) (i + 1)))), (3, .int (nI (wt N (oR (sid kd) N r) (i + 1)))), (4, .int (nI ((i + 1) + 1)))]) (st2 := []) rfl rfl (by rw [(show nI ((psp kd sr N (oR (sid kd) N r) (sR (sid kd) N r) i) ||| (1 * 2 ^ (i + 1))) = nI (psp kd sr N (oR (sid kd) N r) (sR (sid kd) N r) (i + 1)) from by first | exact absurd (c36.symm.trans c66) (by decide) | rw [psp_y (al_t2 c36 c51)] | rw [psp_n (al_f2 c36 c51)] | rw [psp_y (al_t0 c36 c66)] | rw [psp_y (al_t3 c36 c66 c74)] | rw [psp_n (al_f3 c36 c66 c74)]), (show nI (i + 2) = nI ((i + 1) + 1) from congrArg nI (show i + 2 = (i + 1) + 1 by omega))]) rfl ?_
            exact ih7 (i + 1) (by omega) (by omega)
          · refine r_iload_n C dX2_findPossible_69 rfl 1 rfl ?_
            refine r_aload_n C dX2_findPossible_70 rfl 2 rfl ?_
            refine r_get (Cn := RX2) (T := TX2) (N := 6) (v := .int (nI sr)) C inlX2 hc0 rfl 1 (by decide) wF_X2_19 (fun _ h => h) rfl dX2_findPossible_71 ?_
            refine r_icmp_leN (tgt := 81) C dX2_findPossible_74 (by decide) (by omega) (by omega) (fun c74 => ?_) (fun c74 => ?_)
            · refine r_iconst (v := nI 0) C dX2_findPossible_81 (by decide) ?_
              refine V.top (y := bI false) rfl ?_
              refine r_istore (lv2 := [(6, .int (bI false)), (5, .int (bI false)), (3, .int (nI (wt N (oR (sid kd) N r) (i + 1)))), (0, .ref sa), (1, .int (nI r)), (2, .int (nI (psp kd sr N (oR (sid kd) N r) (sR (sid kd) N r) i))), (4, .int (nI (i + 1)))]) C dX2_findPossible_82 (by decide) rfl ?_
              refine r_iload C dX2_findPossible_84 1 rfl ?_
              refine r_if_neB (tgt := 101) C dX2_findPossible_86 (by decide) (fun z => absurd z (by decide)) (fun _ => ?_)
              refine r_iload C dX2_findPossible_89 0 rfl ?_
              refine r_if_neB (tgt := 101) C dX2_findPossible_91 (by decide) (fun z => absurd z (by decide)) (fun _ => ?_)
              refine r_iload_n C dX2_findPossible_94 rfl 5 rfl ?_
              refine r_iconst (v := nI 1) C dX2_findPossible_95 (by decide) ?_
              refine r_iload C dX2_findPossible_96 6 rfl ?_
              refine r_ishlN C dX2_findPossible_98 (by omega) ?_
              refine r_iorN C dX2_findPossible_99 ?_
              refine r_istore_n (lv2 := [(2, .int (nI ((psp kd sr N (oR (sid kd) N r) (sR (sid kd) N r) i) ||| (1 * 2 ^ (i + 1))))), (6, .int (bI false)), (5, .int (bI false)), (3, .int (nI (wt N (oR (sid kd) N r) (i + 1)))), (0, .ref sa), (1, .int (nI r)), (4, .int (nI (i + 1)))]) C dX2_findPossible_100 rfl (by decide) rfl ?_
              refine r_iinc (v := nI (i + 2)) (lv2 := [(4, .int (nI (i + 2))), (2, .int (nI ((psp kd sr N (oR (sid kd) N r) (sR (sid kd) N r) i) ||| (1 * 2 ^ (i + 1))))), (6, .int (bI false)), (5, .int (bI false)), (3, .int (nI (wt N (oR (sid kd) N r) (i + 1)))), (0, .ref sa), (1, .int (nI r))]) C dX2_findPossible_101 (k := 6) rfl (nI_add _ 1) (by decide) rfl ?_
              refine r_goto (tgt := 7) C dX2_findPossible_104 (by decide) ?_
              refine V.sub (lv2 := [(0, .ref sa), (1, .int (nI r)), (2, .int (nI ((psp kd sr N (oR (sid kd) N r) (sR (sid kd) N r) i) ||| (1 * 2 ^ (i + 1))))), (3, .int (nI (wt N (oR (sid kd) N r) (i + 1)))), (4, .int (nI (i + 2)))]) [5, 6, 1, 4, 0] rfl ?_
              refine V.eq (σ2 := σ) (lv2 := [(0, .ref sa), (1, .int (nI r)), (2, .int (nI (psp kd sr N (oR (sid kd) N r) (sR (sid kd) N r) (i + 1)))), (3, .int (nI (wt N (oR (sid kd) N r) (i + 1)))), (4, .int (nI ((i + 1) + 1)))]) (st2 := []) rfl rfl (by rw [(show nI ((psp kd sr N (oR (sid kd) N r) (sR (sid kd) N r) i) ||| (1 * 2 ^ (i + 1))) = nI (psp kd sr N (oR (sid kd) N r) (sR (sid kd) N r) (i + 1)) from by first | exact absurd (c36.symm.trans c66) (by decide) | rw [psp_y (al_t2 c36 c51)] | rw [psp_n (al_f2 c36 c51)] | rw [psp_y (al_t0 c36 c66)] | rw [psp_y (al_t3 c36 c66 c74)] | rw [psp_n (al_f3 c36 c66 c74)]), (show nI (i + 2) = nI ((i + 1) + 1) from congrArg nI (show i + 2 = (i + 1) + 1 by omega))]) rfl ?_
              exact ih7 (i + 1) (by omega) (by omega)
            · refine r_iconst (v := nI 1) C dX2_findPossible_77 (by decide) ?_
              refine r_goto (tgt := 82) C dX2_findPossible_78 (by decide) ?_
              refine V.top (y := bI true) rfl ?_
              refine r_istore (lv2 := [(6, .int (bI true)), (5, .int (bI false)), (3, .int (nI (wt N (oR (sid kd) N r) (i + 1)))), (0, .ref sa), (1, .int (nI r)), (2, .int (nI (psp kd sr N (oR (sid kd) N r) (sR (sid kd) N r) i))), (4, .int (nI (i + 1)))]) C dX2_findPossible_82 (by decide) rfl ?_
              refine r_iload C dX2_findPossible_84 1 rfl ?_
              refine r_if_neB (tgt := 101) C dX2_findPossible_86 (by decide) (fun z => absurd z (by decide)) (fun _ => ?_)
              refine r_iload C dX2_findPossible_89 0 rfl ?_
              refine r_if_neB (tgt := 101) C dX2_findPossible_91 (by decide) (fun _ => ?_) (fun z => absurd z (by decide))
              refine r_iinc (v := nI (i + 2)) (lv2 := [(4, .int (nI (i + 2))), (6, .int (bI true)), (5, .int (bI false)), (3, .int (nI (wt N (oR (sid kd) N r) (i + 1)))), (0, .ref sa), (1, .int (nI r)), (2, .int (nI (psp kd sr N (oR (sid kd) N r) (sR (sid kd) N r) i)))]) C dX2_findPossible_101 (k := 6) rfl (nI_add _ 1) (by decide) rfl ?_
              refine r_goto (tgt := 7) C dX2_findPossible_104 (by decide) ?_
              refine V.sub (lv2 := [(0, .ref sa), (1, .int (nI r)), (2, .int (nI (psp kd sr N (oR (sid kd) N r) (sR (sid kd) N r) i))), (3, .int (nI (wt N (oR (sid kd) N r) (i + 1)))), (4, .int (nI (i + 2)))]) [4, 5, 6, 3, 0] rfl ?_
              refine V.eq (σ2 := σ) (lv2 := [(0, .ref sa), (1, .int (nI r)), (2, .int (nI (psp kd sr N (oR (sid kd) N r) (sR (sid kd) N r) (i + 1)))), (3, .int (nI (wt N (oR (sid kd) N r) (i + 1)))), (4, .int (nI ((i + 1) + 1)))]) (st2 := []) rfl rfl (by rw [(show nI (psp kd sr N (oR (sid kd) N r) (sR (sid kd) N r) i) = nI (psp kd sr N (oR (sid kd) N r) (sR (sid kd) N r) (i + 1)) from by first | exact absurd (c36.symm.trans c66) (by decide) | rw [psp_y (al_t2 c36 c51)] | rw [psp_n (al_f2 c36 c51)] | rw [psp_y (al_t0 c36 c66)] | rw [psp_y (al_t3 c36 c66 c74)] | rw [psp_n (al_f3 c36 c66 c74)]), (show nI (i + 2) = nI ((i + 1) + 1) from congrArg nI (show i + 2 = (i + 1) + 1 by omega))]) rfl ?_
              exact ih7 (i + 1) (by omega) (by omega)
        · refine r_aload_n C dX2_findPossible_39 rfl 1 rfl ?_
          refine r_get (Cn := RX2) (T := TX2) (N := 6) (v := .ref la) C inlX2 hc0 rfl 3 (by decide) wF_X2_22 (fun _ h => h) rfl dX2_findPossible_40 ?_
          refine r_iload_n C dX2_findPossible_43 rfl 2 rfl ?_
          refine r_iload C dX2_findPossible_44 4 rfl ?_
          refine r_iconst (v := nI 1) C dX2_findPossible_46 (by decide) ?_
          refine r_isubN C dX2_findPossible_47 (by omega) ?_
          refine V.top (y := nI i) (congrArg nI (Nat.add_sub_cancel i 1)) ?_
          refine r_callV (As := [.int (nI r), .int (nI i)]) C (c_X1_isJoined (la := la) (N := N) (cfl := cfl) (sb := (sid kd)) (f4 := f4) (r := r) (j := i) hc1 hc3 (by first | assumption | omega) (by first | assumption | omega) (by first | assumption | omega) (by first | assumption | omega)) wM_X2_51 wI_X1_isJoined wN_X1 wC_X1_isJoined wV_X1_isJoined hd_X1_isJoined ⟨Nat.le_of_ble_eq_true rfl, Nat.le_of_ble_eq_true rfl⟩ rfl hc1 rfl rfl (Nat.le_of_ble_eq_true rfl) dX2_findPossible_48 ⟨(Nat.le_of_ble_eq_true rfl), (Nat.le_of_ble_eq_true rfl)⟩ (fun rv n2 σ2 hp => ?_)
          obtain ⟨rfl, rfl, rfl⟩ := hp
          refine V.eq (σ2 := σ) (n2 := n) (st2 := [.int (bI (jn (sid kd) N (oR (sid kd) N r) (sR (sid kd) N r) i))]) rfl rfl rfl rfl ?_
          refine r_if_eqB (tgt := 58) C dX2_findPossible_51 (by decide) (fun c51 => ?_) (fun c51 => ?_)
          · refine r_iconst (v := nI 0) C dX2_findPossible_58 (by decide) ?_
            refine V.top (y := bI false) rfl ?_
            refine r_istore (lv2 := [(5, .int (bI false)), (3, .int (nI (wt N (oR (sid kd) N r) (i + 1)))), (0, .ref sa), (1, .int (nI r)), (2, .int (nI (psp kd sr N (oR (sid kd) N r) (sR (sid kd) N r) i))), (4, .int (nI (i + 1)))]) C dX2_findPossible_59 (by decide) rfl ?_
            refine r_aload_n C dX2_findPossible_61 rfl 2 rfl ?_
            refine r_get (Cn := RX2) (T := TX2) (N := 6) (v := .int (nI kd)) C inlX2 hc0 rfl 0 (by decide) wF_X2_15 (fun _ h => h) rfl dX2_findPossible_62 ?_
            refine r_iconst (v := nI 3) C dX2_findPossible_65 (by decide) ?_
            refine r_icmp_neN (tgt := 81) C dX2_findPossible_66 (by decide) (by omega) (by decide) (fun c66 => ?_) (fun c66 => ?_)
            · refine r_iconst (v := nI 0) C dX2_findPossible_81 (by decide) ?_
              refine V.top (y := bI false) rfl ?_
              refine r_istore (lv2 := [(6, .int (bI false)), (5, .int (bI false)), (3, .int (nI (wt N (oR (sid kd) N r) (i + 1)))), (0, .ref sa), (1, .int (nI r)), (2, .int (nI (psp kd sr N (oR (sid kd) N r) (sR (sid kd) N r) i))), (4, .int (nI (i + 1)))]) C dX2_findPossible_82 (by decide) rfl ?_
              refine r_iload C dX2_findPossible_84 1 rfl ?_
              refine r_if_neB (tgt := 101) C dX2_findPossible_86 (by decide) (fun z => absurd z (by decide)) (fun _ => ?_)
              refine r_iload C dX2_findPossible_89 0 rfl ?_
              refine r_if_neB (tgt := 101) C dX2_findPossible_91 (by decide) (fun z => absurd z (by decide)) (fun _ => ?_)
              refine r_iload_n C dX2_findPossible_94 rfl 5 rfl ?_
              refine r_iconst (v := nI 1) C dX2_findPossible_95 (by decide) ?_
              refine r_iload C dX2_findPossible_96 6 rfl ?_
              refine r_ishlN C dX2_findPossible_98 (by omega) ?_
              refine r_iorN C dX2_findPossible_99 ?_
              refine r_istore_n (lv2 := [(2, .int (nI ((psp kd sr N (oR (sid kd) N r) (sR (sid kd) N r) i) ||| (1 * 2 ^ (i + 1))))), (6, .int (bI false)), (5, .int (bI false)), (3, .int (nI (wt N (oR (sid kd) N r) (i + 1)))), (0, .ref sa), (1, .int (nI r)), (4, .int (nI (i + 1)))]) C dX2_findPossible_100 rfl (by decide) rfl ?_
              refine r_iinc (v := nI (i + 2)) (lv2 := [(4, .int (nI (i + 2))), (2, .int (nI ((psp kd sr N (oR (sid kd) N r) (sR (sid kd) N r) i) ||| (1 * 2 ^ (i + 1))))), (6, .int (bI false)), (5, .int (bI false)), (3, .int (nI (wt N (oR (sid kd) N r) (i + 1)))), (0, .ref sa), (1, .int (nI r))]) C dX2_findPossible_101 (k := 6) rfl (nI_add _ 1) (by decide) rfl ?_
              refine r_goto (tgt := 7) C dX2_findPossible_104 (by decide) ?_
              refine V.sub (lv2 := [(0, .ref sa), (1, .int (nI r)), (2, .int (nI ((psp kd sr N (oR (sid kd) N r) (sR (sid kd) N r) i) ||| (1 * 2 ^ (i + 1))))), (3, .int (nI (wt N (oR (sid kd) N r) (i + 1)))), (4, .int (nI (i + 2)))]) [5, 6, 1, 4, 0] rfl ?_
              refine V.eq (σ2 := σ) (lv2 := [(0, .ref sa), (1, .int (nI r)), (2, .int (nI (psp kd sr N (oR (sid kd) N r) (sR (sid kd) N r) (i + 1)))), (3, .int (nI (wt N (oR (sid kd) N r) (i + 1)))), (4, .int (nI ((i + 1) + 1)))]) (st2 := []) rfl rfl (by rw [(show nI ((psp kd sr N (oR (sid kd) N r) (sR (sid kd) N r) i) ||| (1 * 2 ^ (i + 1))) = nI (psp kd sr N (oR (sid kd) N r) (sR (sid kd) N r) (i + 1)) from by first | exact absurd (c36.symm.trans c66) (by decide) | rw [psp_y (al_t2 c36 c51)] | rw [psp_n (al_f2 c36 c51)] | rw [psp_y (al_t0 c36 c66)] | rw [psp_y (al_t3 c36 c66 c74)] | rw [psp_n (al_f3 c36 c66 c74)]), (show nI (i + 2) = nI ((i + 1) + 1) from congrArg nI (show i + 2 = (i + 1) + 1 by omega))]) rfl ?_
              exact ih7 (i + 1) (by omega) (by omega)
            · refine r_iload_n C dX2_findPossible_69 rfl 1 rfl ?_
              refine r_aload_n C dX2_findPossible_70 rfl 2 rfl ?_
              refine r_get (Cn := RX2) (T := TX2) (N := 6) (v := .int (nI sr)) C inlX2 hc0 rfl 1 (by decide) wF_X2_19 (fun _ h => h) rfl dX2_findPossible_71 ?_
              refine r_icmp_leN (tgt := 81) C dX2_findPossible_74 (by decide) (by omega) (by omega) (fun c74 => ?_) (fun c74 => ?_)
              · refine r_iconst (v := nI 0) C dX2_findPossible_81 (by decide) ?_
                refine V.top (y := bI false) rfl ?_
                refine r_istore (lv2 := [(6, .int (bI false)), (5, .int (bI false)), (3, .int (nI (wt N (oR (sid kd) N r) (i + 1)))), (0, .ref sa), (1, .int (nI r)), (2, .int (nI (psp kd sr N (oR (sid kd) N r) (sR (sid kd) N r) i))), (4, .int (nI (i + 1)))]) C dX2_findPossible_82 (by decide) rfl ?_
                refine r_iload C dX2_findPossible_84 1 rfl ?_
                refine r_if_neB (tgt := 101) C dX2_findPossible_86 (by decide) (fun z => absurd z (by decide)) (fun _ => ?_)
                refine r_iload C dX2_findPossible_89 0 rfl ?_
                refine r_if_neB (tgt := 101) C dX2_findPossible_91 (by decide) (fun z => absurd z (by decide)) (fun _ => ?_)
                refine r_iload_n C dX2_findPossible_94 rfl 5 rfl ?_
                refine r_iconst (v := nI 1) C dX2_findPossible_95 (by decide) ?_
                refine r_iload C dX2_findPossible_96 6 rfl ?_
                refine r_ishlN C dX2_findPossible_98 (by omega) ?_
                refine r_iorN C dX2_findPossible_99 ?_
                refine r_istore_n (lv2 := [(2, .int (nI ((psp kd sr N (oR (sid kd) N r) (sR (sid kd) N r) i) ||| (1 * 2 ^ (i + 1))))), (6, .int (bI false)), (5, .int (bI false)), (3, .int (nI (wt N (oR (sid kd) N r) (i + 1)))), (0, .ref sa), (1, .int (nI r)), (4, .int (nI (i + 1)))]) C dX2_findPossible_100 rfl (by decide) rfl ?_
                refine r_iinc (v := nI (i + 2)) (lv2 := [(4, .int (nI (i + 2))), (2, .int (nI ((psp kd sr N (oR (sid kd) N r) (sR (sid kd) N r) i) ||| (1 * 2 ^ (i + 1))))), (6, .int (bI false)), (5, .int (bI false)), (3, .int (nI (wt N (oR (sid kd) N r) (i + 1)))), (0, .ref sa), (1, .int (nI r))]) C dX2_findPossible_101 (k := 6) rfl (nI_add _ 1) (by decide) rfl ?_
                refine r_goto (tgt := 7) C dX2_findPossible_104 (by decide) ?_
                refine V.sub (lv2 := [(0, .ref sa), (1, .int (nI r)), (2, .int (nI ((psp kd sr N (oR (sid kd) N r) (sR (sid kd) N r) i) ||| (1 * 2 ^ (i + 1))))), (3, .int (nI (wt N (oR (sid kd) N r) (i + 1)))), (4, .int (nI (i + 2)))]) [5, 6, 1, 4, 0] rfl ?_
                refine V.eq (σ2 := σ) (lv2 := [(0, .ref sa), (1, .int (nI r)), (2, .int (nI (psp kd sr N (oR (sid kd) N r) (sR (sid kd) N r) (i + 1)))), (3, .int (nI (wt N (oR (sid kd) N r) (i + 1)))), (4, .int (nI ((i + 1) + 1)))]) (st2 := []) rfl rfl (by rw [(show nI ((psp kd sr N (oR (sid kd) N r) (sR (sid kd) N r) i) ||| (1 * 2 ^ (i + 1))) = nI (psp kd sr N (oR (sid kd) N r) (sR (sid kd) N r) (i + 1)) from by first | exact absurd (c36.symm.trans c66) (by decide) | rw [psp_y (al_t2 c36 c51)] | rw [psp_n (al_f2 c36 c51)] | rw [psp_y (al_t0 c36 c66)] | rw [psp_y (al_t3 c36 c66 c74)] | rw [psp_n (al_f3 c36 c66 c74)]), (show nI (i + 2) = nI ((i + 1) + 1) from congrArg nI (show i + 2 = (i + 1) + 1 by omega))]) rfl ?_
                exact ih7 (i + 1) (by omega) (by omega)
              · refine r_iconst (v := nI 1) C dX2_findPossible_77 (by decide) ?_
                refine r_goto (tgt := 82) C dX2_findPossible_78 (by decide) ?_
                refine V.top (y := bI true) rfl ?_
                refine r_istore (lv2 := [(6, .int (bI true)), (5, .int (bI false)), (3, .int (nI (wt N (oR (sid kd) N r) (i + 1)))), (0, .ref sa), (1, .int (nI r)), (2, .int (nI (psp kd sr N (oR (sid kd) N r) (sR (sid kd) N r) i))), (4, .int (nI (i + 1)))]) C dX2_findPossible_82 (by decide) rfl ?_
                refine r_iload C dX2_findPossible_84 1 rfl ?_
                refine r_if_neB (tgt := 101) C dX2_findPossible_86 (by decide) (fun z => absurd z (by decide)) (fun _ => ?_)
                refine r_iload C dX2_findPossible_89 0 rfl ?_
                refine r_if_neB (tgt := 101) C dX2_findPossible_91 (by decide) (fun _ => ?_) (fun z => absurd z (by decide))
                refine r_iinc (v := nI (i + 2)) (lv2 := [(4, .int (nI (i + 2))), (6, .int (bI true)), (5, .int (bI false)), (3, .int (nI (wt N (oR (sid kd) N r) (i + 1)))), (0, .ref sa), (1, .int (nI r)), (2, .int (nI (psp kd sr N (oR (sid kd) N r) (sR (sid kd) N r) i)))]) C dX2_findPossible_101 (k := 6) rfl (nI_add _ 1) (by decide) rfl ?_
                refine r_goto (tgt := 7) C dX2_findPossible_104 (by decide) ?_
                refine V.sub (lv2 := [(0, .ref sa), (1, .int (nI r)), (2, .int (nI (psp kd sr N (oR (sid kd) N r) (sR (sid kd) N r) i))), (3, .int (nI (wt N (oR (sid kd) N r) (i + 1)))), (4, .int (nI (i + 2)))]) [4, 5, 6, 3, 0] rfl ?_
                refine V.eq (σ2 := σ) (lv2 := [(0, .ref sa), (1, .int (nI r)), (2, .int (nI (psp kd sr N (oR (sid kd) N r) (sR (sid kd) N r) (i + 1)))), (3, .int (nI (wt N (oR (sid kd) N r) (i + 1)))), (4, .int (nI ((i + 1) + 1)))]) (st2 := []) rfl rfl (by rw [(show nI (psp kd sr N (oR (sid kd) N r) (sR (sid kd) N r) i) = nI (psp kd sr N (oR (sid kd) N r) (sR (sid kd) N r) (i + 1)) from by first | exact absurd (c36.symm.trans c66) (by decide) | rw [psp_y (al_t2 c36 c51)] | rw [psp_n (al_f2 c36 c51)] | rw [psp_y (al_t0 c36 c66)] | rw [psp_y (al_t3 c36 c66 c74)] | rw [psp_n (al_f3 c36 c66 c74)]), (show nI (i + 2) = nI ((i + 1) + 1) from congrArg nI (show i + 2 = (i + 1) + 1 by omega))]) rfl ?_
                exact ih7 (i + 1) (by omega) (by omega)
          · refine r_iconst (v := nI 1) C dX2_findPossible_54 (by decide) ?_
            refine r_goto (tgt := 59) C dX2_findPossible_55 (by decide) ?_
            refine V.top (y := bI true) rfl ?_
            refine r_istore (lv2 := [(5, .int (bI true)), (3, .int (nI (wt N (oR (sid kd) N r) (i + 1)))), (0, .ref sa), (1, .int (nI r)), (2, .int (nI (psp kd sr N (oR (sid kd) N r) (sR (sid kd) N r) i))), (4, .int (nI (i + 1)))]) C dX2_findPossible_59 (by decide) rfl ?_
            refine r_aload_n C dX2_findPossible_61 rfl 2 rfl ?_
            refine r_get (Cn := RX2) (T := TX2) (N := 6) (v := .int (nI kd)) C inlX2 hc0 rfl 0 (by decide) wF_X2_15 (fun _ h => h) rfl dX2_findPossible_62 ?_
            refine r_iconst (v := nI 3) C dX2_findPossible_65 (by decide) ?_
            refine r_icmp_neN (tgt := 81) C dX2_findPossible_66 (by decide) (by omega) (by decide) (fun c66 => ?_) (fun c66 => ?_)
            · refine r_iconst (v := nI 0) C dX2_findPossible_81 (by decide) ?_
              refine V.top (y := bI false) rfl ?_
              refine r_istore (lv2 := [(6, .int (bI false)), (5, .int (bI true)), (3, .int (nI (wt N (oR (sid kd) N r) (i + 1)))), (0, .ref sa), (1, .int (nI r)), (2, .int (nI (psp kd sr N (oR (sid kd) N r) (sR (sid kd) N r) i))), (4, .int (nI (i + 1)))]) C dX2_findPossible_82 (by decide) rfl ?_
              refine r_iload C dX2_findPossible_84 1 rfl ?_
              refine r_if_neB (tgt := 101) C dX2_findPossible_86 (by decide) (fun _ => ?_) (fun z => absurd z (by decide))
              refine r_iinc (v := nI (i + 2)) (lv2 := [(4, .int (nI (i + 2))), (6, .int (bI false)), (5, .int (bI true)), (3, .int (nI (wt N (oR (sid kd) N r) (i + 1)))), (0, .ref sa), (1, .int (nI r)), (2, .int (nI (psp kd sr N (oR (sid kd) N r) (sR (sid kd) N r) i)))]) C dX2_findPossible_101 (k := 6) rfl (nI_add _ 1) (by decide) rfl ?_
              refine r_goto (tgt := 7) C dX2_findPossible_104 (by decide) ?_
              refine V.sub (lv2 := [(0, .ref sa), (1, .int (nI r)), (2, .int (nI (psp kd sr N (oR (sid kd) N r) (sR (sid kd) N r) i))), (3, .int (nI (wt N (oR (sid kd) N r) (i + 1)))), (4, .int (nI (i + 2)))]) [4, 5, 6, 3, 0] rfl ?_
              refine V.eq (σ2 := σ) (lv2 := [(0, .ref sa), (1, .int (nI r)), (2, .int (nI (psp kd sr N (oR (sid kd) N r) (sR (sid kd) N r) (i + 1)))), (3, .int (nI (wt N (oR (sid kd) N r) (i + 1)))), (4, .int (nI ((i + 1) + 1)))]) (st2 := []) rfl rfl (by rw [(show nI (psp kd sr N (oR (sid kd) N r) (sR (sid kd) N r) i) = nI (psp kd sr N (oR (sid kd) N r) (sR (sid kd) N r) (i + 1)) from by first | exact absurd (c36.symm.trans c66) (by decide) | rw [psp_y (al_t2 c36 c51)] | rw [psp_n (al_f2 c36 c51)] | rw [psp_y (al_t0 c36 c66)] | rw [psp_y (al_t3 c36 c66 c74)] | rw [psp_n (al_f3 c36 c66 c74)]), (show nI (i + 2) = nI ((i + 1) + 1) from congrArg nI (show i + 2 = (i + 1) + 1 by omega))]) rfl ?_
              exact ih7 (i + 1) (by omega) (by omega)
            · refine r_iload_n C dX2_findPossible_69 rfl 1 rfl ?_
              refine r_aload_n C dX2_findPossible_70 rfl 2 rfl ?_
              refine r_get (Cn := RX2) (T := TX2) (N := 6) (v := .int (nI sr)) C inlX2 hc0 rfl 1 (by decide) wF_X2_19 (fun _ h => h) rfl dX2_findPossible_71 ?_
              refine r_icmp_leN (tgt := 81) C dX2_findPossible_74 (by decide) (by omega) (by omega) (fun c74 => ?_) (fun c74 => ?_)
              · refine r_iconst (v := nI 0) C dX2_findPossible_81 (by decide) ?_
                refine V.top (y := bI false) rfl ?_
                refine r_istore (lv2 := [(6, .int (bI false)), (5, .int (bI true)), (3, .int (nI (wt N (oR (sid kd) N r) (i + 1)))), (0, .ref sa), (1, .int (nI r)), (2, .int (nI (psp kd sr N (oR (sid kd) N r) (sR (sid kd) N r) i))), (4, .int (nI (i + 1)))]) C dX2_findPossible_82 (by decide) rfl ?_
                refine r_iload C dX2_findPossible_84 1 rfl ?_
                refine r_if_neB (tgt := 101) C dX2_findPossible_86 (by decide) (fun _ => ?_) (fun z => absurd z (by decide))
                refine r_iinc (v := nI (i + 2)) (lv2 := [(4, .int (nI (i + 2))), (6, .int (bI false)), (5, .int (bI true)), (3, .int (nI (wt N (oR (sid kd) N r) (i + 1)))), (0, .ref sa), (1, .int (nI r)), (2, .int (nI (psp kd sr N (oR (sid kd) N r) (sR (sid kd) N r) i)))]) C dX2_findPossible_101 (k := 6) rfl (nI_add _ 1) (by decide) rfl ?_
                refine r_goto (tgt := 7) C dX2_findPossible_104 (by decide) ?_
                refine V.sub (lv2 := [(0, .ref sa), (1, .int (nI r)), (2, .int (nI (psp kd sr N (oR (sid kd) N r) (sR (sid kd) N r) i))), (3, .int (nI (wt N (oR (sid kd) N r) (i + 1)))), (4, .int (nI (i + 2)))]) [4, 5, 6, 3, 0] rfl ?_
                refine V.eq (σ2 := σ) (lv2 := [(0, .ref sa), (1, .int (nI r)), (2, .int (nI (psp kd sr N (oR (sid kd) N r) (sR (sid kd) N r) (i + 1)))), (3, .int (nI (wt N (oR (sid kd) N r) (i + 1)))), (4, .int (nI ((i + 1) + 1)))]) (st2 := []) rfl rfl (by rw [(show nI (psp kd sr N (oR (sid kd) N r) (sR (sid kd) N r) i) = nI (psp kd sr N (oR (sid kd) N r) (sR (sid kd) N r) (i + 1)) from by first | exact absurd (c36.symm.trans c66) (by decide) | rw [psp_y (al_t2 c36 c51)] | rw [psp_n (al_f2 c36 c51)] | rw [psp_y (al_t0 c36 c66)] | rw [psp_y (al_t3 c36 c66 c74)] | rw [psp_n (al_f3 c36 c66 c74)]), (show nI (i + 2) = nI ((i + 1) + 1) from congrArg nI (show i + 2 = (i + 1) + 1 by omega))]) rfl ?_
                exact ih7 (i + 1) (by omega) (by omega)
              · refine r_iconst (v := nI 1) C dX2_findPossible_77 (by decide) ?_
                refine r_goto (tgt := 82) C dX2_findPossible_78 (by decide) ?_
                refine V.top (y := bI true) rfl ?_
                refine r_istore (lv2 := [(6, .int (bI true)), (5, .int (bI true)), (3, .int (nI (wt N (oR (sid kd) N r) (i + 1)))), (0, .ref sa), (1, .int (nI r)), (2, .int (nI (psp kd sr N (oR (sid kd) N r) (sR (sid kd) N r) i))), (4, .int (nI (i + 1)))]) C dX2_findPossible_82 (by decide) rfl ?_
                refine r_iload C dX2_findPossible_84 1 rfl ?_
                refine r_if_neB (tgt := 101) C dX2_findPossible_86 (by decide) (fun _ => ?_) (fun z => absurd z (by decide))
                refine r_iinc (v := nI (i + 2)) (lv2 := [(4, .int (nI (i + 2))), (6, .int (bI true)), (5, .int (bI true)), (3, .int (nI (wt N (oR (sid kd) N r) (i + 1)))), (0, .ref sa), (1, .int (nI r)), (2, .int (nI (psp kd sr N (oR (sid kd) N r) (sR (sid kd) N r) i)))]) C dX2_findPossible_101 (k := 6) rfl (nI_add _ 1) (by decide) rfl ?_
                refine r_goto (tgt := 7) C dX2_findPossible_104 (by decide) ?_
                refine V.sub (lv2 := [(0, .ref sa), (1, .int (nI r)), (2, .int (nI (psp kd sr N (oR (sid kd) N r) (sR (sid kd) N r) i))), (3, .int (nI (wt N (oR (sid kd) N r) (i + 1)))), (4, .int (nI (i + 2)))]) [4, 5, 6, 3, 0] rfl ?_
                refine V.eq (σ2 := σ) (lv2 := [(0, .ref sa), (1, .int (nI r)), (2, .int (nI (psp kd sr N (oR (sid kd) N r) (sR (sid kd) N r) (i + 1)))), (3, .int (nI (wt N (oR (sid kd) N r) (i + 1)))), (4, .int (nI ((i + 1) + 1)))]) (st2 := []) rfl rfl (by rw [(show nI (psp kd sr N (oR (sid kd) N r) (sR (sid kd) N r) i) = nI (psp kd sr N (oR (sid kd) N r) (sR (sid kd) N r) (i + 1)) from by first | exact absurd (c36.symm.trans c66) (by decide) | rw [psp_y (al_t2 c36 c51)] | rw [psp_n (al_f2 c36 c51)] | rw [psp_y (al_t0 c36 c66)] | rw [psp_y (al_t3 c36 c66 c74)] | rw [psp_n (al_f3 c36 c66 c74)]), (show nI (i + 2) = nI ((i + 1) + 1) from congrArg nI (show i + 2 = (i + 1) + 1 by omega))]) rfl ?_
                exact ih7 (i + 1) (by omega) (by omega)
  refine V.sub (lv2 := [(0, .ref sa), (1, .int (nI r)), (2, .int (nI 0)), (3, .int (nI 0)), (4, .int (nI 1))]) [3, 4, 2, 1, 0] rfl ?_
  refine V.eq (σ2 := σ) (lv2 := [(0, .ref sa), (1, .int (nI r)), (2, .int (nI (psp kd sr N (oR (sid kd) N r) (sR (sid kd) N r) 0))), (3, .int (nI (wt N (oR (sid kd) N r) 0))), (4, .int (nI (0 + 1)))]) (st2 := []) rfl rfl rfl rfl ?_
  exact L7 _ 0 (by omega) (Nat.lt_succ_self _)
