theorem jn_p {sb : Bool} {N o sd p : Nat} (h : ¬ p + 1 = N) (hs : sb = false) : jn sb N o sd p = (sz N o (p + 1) == sz N o p + 1 || sz N o p == sz N o (p + 1) + 1) := by
  subst hs
  rw [jn, if_neg h]
  rfl
theorem jn_q {sb : Bool} {N o sd p : Nat} (h : ¬ p + 1 = N) (hs : sb = true) : jn sb N o sd p = (bt sd p == bt sd (p + 1) && (if bt sd p = 0 then sz N o (p + 1) == sz N o p + 1 else sz N o p == sz N o (p + 1) + 1)) := by
  subst hs
  rw [jn, if_neg h]
  rfl
theorem sbN_t {sb : Bool} {N : Nat} (h : sbN sb N ≠ 0) : sb = true := by cases sb <;> simp_all [sbN]
theorem sbN_f {sb : Bool} {N : Nat} (h : sbN sb N = 0) (h1 : 1 ≤ N) : sb = false := by
  cases sb with
  | false => rfl
  | true => simp [sbN] at h; omega
theorem sm_64 {sb : Bool} {N sd : Nat} (hL : LOK sb N) (h : sd < sm sb N) : sd < 64 := by have := hL.b; omega
theorem k_flp : ∀ sd, sd < 64 → ∀ k, k < 7 → ∀ i, i < k → (sd / 2 ^ k * 2 ^ k + flp sd k i ||| (1 - bt sd i) * 2 ^ (k - 1 - i)) = sd / 2 ^ k * 2 ^ k + flp sd k (i + 1) := by decide +kernel
theorem flp_or {sd k i : Nat} (h : sd < 64) (_ : 1 ≤ k) (hk : k < 7) (hi : i < k) : (sd / 2 ^ k * 2 ^ k + flp sd k i ||| (1 - bt sd i) * 2 ^ (k - 1 - i)) = sd / 2 ^ k * 2 ^ k + flp sd k (i + 1) := k_flp sd h k hk i hi
theorem bI_dec {a b : Nat} (ha : a ≤ 1) (hb : b ≤ 1) (h : bI (decide (a ≠ 0)) = bI (decide (b ≠ 0))) : a = b := by
  rcases (show a = 0 ∨ a = 1 by omega) with rfl | rfl <;> rcases (show b = 0 ∨ b = 1 by omega) with rfl | rfl <;> first | rfl | exact absurd h (by decide)
theorem hI_nn {a : Nat} (h : ¬ hI a < 0) : 1 ≤ a := by
  cases a with
  | zero => exact absurd (by decide) h
  | succ a => omega
theorem hI_ng {a : Nat} (ha : a < 2 ^ 31) (h : hI a < 0) : a = 0 := by
  cases a with
  | zero => rfl
  | succ a =>
    rw [hI_s (Nat.succ_pos a)] at h
    have h2 := Int32.lt_iff_toInt_lt.mp h
    rw [nI_toInt (by omega), show (0 : Int32).toInt = 0 by decide] at h2
    omega
theorem dv_10 {a N i : Nat} (h1 : 1 ≤ i) (h : i ≤ N) : a / 10 ^ (N - i) / 10 = a / 10 ^ (N - (i - 1)) := by
  rw [show N - (i - 1) = N - i + 1 by omega, Nat.pow_succ, Nat.div_div_eq_div_mul]

abbrev rm_X1_sidesBehind : Room := { frames := 0, cells := 0, slots := 0, locals := 0 }
set_option maxRecDepth 100000 in
set_option maxHeartbeats 4000000 in
theorem c_X1_sidesBehind {l : Launch} {G : gG} {n : Nat} {σ : gS} {la N cfl : Nat} {sb : Bool} {sd k : Nat} (hc0 : σ la = some (.inr (1, [.int (nI N), .int (nI (rR sb N)), .int (nI (sbN sb N)), .int (nI (sm sb N - 1)), .ref (la + 1), .ref (la + 2), .ref (la + 3), .ref (la + 4)]))) (hL : LOK sb N) (hs : sd < sm sb N) (hk1 : 1 ≤ k) (hk : k ≤ N) : GM l G yX1_sidesBehind cX1_sidesBehind 6 (some .int) rm_X1_sidesBehind n σ [.ref la, .int (nI sd), .int (nI k)] (fun rv n2 σ2 => some (.int (nI (tnS sb sd k))) = rv ∧ n = n2 ∧ σ = σ2) := by
  refine GM.intro (by decide +kernel) (Nat.le_of_ble_eq_true rfl) (fun p e s m args below meth c C hr hlocks hname po hpo => ?_)
  have C : Cx p s m args c cX1_sidesBehind 6 RX1 G := C
  have hb9 := hL.b
  refine r_aload_n C dX1_sidesBehind_0 rfl 0 rfl ?_
  refine r_get (Cn := RX1) (T := TX1) (N := 8) (v := .int (nI (sbN sb N))) C inlX1 hc0 rfl 2 (by decide) wF_X1_15 (fun _ h => h) rfl dX1_sidesBehind_1 ?_
  refine r_if_neN (tgt := 9) C dX1_sidesBehind_4 (by decide) (by omega) (fun c4 => ?_) (fun c4 => ?_)
  · have hsb : sb = true := sbN_t c4
    have hs64 := sm_64 hL hs
    refine r_iload_n C dX1_sidesBehind_9 rfl 1 rfl ?_
    refine r_iload_n C dX1_sidesBehind_10 rfl 2 rfl ?_
    refine r_ishrN C dX1_sidesBehind_11 (by omega) (by omega) ?_
    refine r_iload_n C dX1_sidesBehind_12 rfl 2 rfl ?_
    refine r_ishlN C dX1_sidesBehind_13 (by omega) ?_
    refine r_istore_n (lv2 := [(3, .int (nI ((sd / 2 ^ k) * 2 ^ k))), (0, .ref la), (1, .int (nI sd)), (2, .int (nI k))]) C dX1_sidesBehind_14 rfl (by decide) rfl ?_
    refine r_iconst (v := nI 0) C dX1_sidesBehind_15 (by decide) ?_
    refine r_istore (lv2 := [(4, .int (nI 0)), (3, .int (nI ((sd / 2 ^ k) * 2 ^ k))), (0, .ref la), (1, .int (nI sd)), (2, .int (nI k))]) C dX1_sidesBehind_16 (by decide) rfl ?_
    have L18 : ∀ (fu : Nat) (i : Nat), (i ≤ k) → (k + 1 - i) < fu → V p l e rm_X1_sidesBehind s m args below meth c G 6 (MQ below (gQ G po) args s rm_X1_sidesBehind.cells rm_X1_sidesBehind.slots (gF G)) 0 0 n σ 18 [(0, .ref la), (1, .int (nI sd)), (2, .int (nI k)), (3, .int (nI (sd / 2 ^ k * 2 ^ k + flp sd k i))), (4, .int (nI i))] [] := by
      intro fu
      induction fu with
      | zero => intro i hi hm; exact absurd hm (Nat.not_lt_zero _)
      | succ fu ih18 =>
        intro i hi hm18
        refine r_iload C dX1_sidesBehind_18 4 rfl ?_
        refine r_iload_n C dX1_sidesBehind_20 rfl 2 rfl ?_
        refine r_icmp_geN (tgt := 52) C dX1_sidesBehind_21 (by decide) (by omega) (by omega) (fun c21 => ?_) (fun c21 => ?_)
        · have hik : i = k := by omega
          refine r_iload_n C dX1_sidesBehind_52 rfl 3 rfl ?_
          exact r_iret C hr hlocks (Nat.le_of_ble_eq_true rfl) (Nat.le_of_ble_eq_true rfl) dX1_sidesBehind_53 (hpo _ _ _ ⟨by rw [tnS, hsb, hik]; rfl, rfl, rfl⟩)
        · refine r_iload_n C dX1_sidesBehind_24 rfl 1 rfl ?_
          refine r_iload C dX1_sidesBehind_25 4 rfl ?_
          refine r_ishrN C dX1_sidesBehind_27 (by omega) (by omega) ?_
          refine r_iconst (v := nI 1) C dX1_sidesBehind_28 (by decide) ?_
          refine r_iandN C dX1_sidesBehind_29 ?_
          refine V.top (y := nI (bt sd i)) (congrArg nI (bt_1 _ _)) ?_
          have hbt := bt_le sd i
          refine r_istore (lv2 := [(5, .int (nI (bt sd i))), (0, .ref la), (1, .int (nI sd)), (2, .int (nI k)), (3, .int (nI (sd / 2 ^ k * 2 ^ k + flp sd k i))), (4, .int (nI i))]) C dX1_sidesBehind_30 (by decide) rfl ?_
          refine r_iload_n C dX1_sidesBehind_32 rfl 4 rfl ?_
          refine r_iconst (v := nI 1) C dX1_sidesBehind_33 (by decide) ?_
          refine r_iload C dX1_sidesBehind_34 0 rfl ?_
          refine r_isubN C dX1_sidesBehind_36 (by omega) ?_
          refine r_iload_n C dX1_sidesBehind_37 rfl 3 rfl ?_
          refine r_iconst (v := nI 1) C dX1_sidesBehind_38 (by decide) ?_
          refine r_isubN C dX1_sidesBehind_39 (by omega) ?_
          refine r_iload C dX1_sidesBehind_40 5 rfl ?_
          refine r_isubN C dX1_sidesBehind_42 (by omega) ?_
          refine r_ishlN C dX1_sidesBehind_43 (by omega) ?_
          refine r_iorN C dX1_sidesBehind_44 ?_
          refine V.top (y := nI (sd / 2 ^ k * 2 ^ k + flp sd k (i + 1))) (congrArg nI (flp_or hs64 hk1 (by omega) (by omega))) ?_
          refine r_istore_n (lv2 := [(3, .int (nI (sd / 2 ^ k * 2 ^ k + flp sd k (i + 1)))), (5, .int (nI (bt sd i))), (0, .ref la), (1, .int (nI sd)), (2, .int (nI k)), (4, .int (nI i))]) C dX1_sidesBehind_45 rfl (by decide) rfl ?_
          refine r_iinc (v := nI (i + 1)) (lv2 := [(4, .int (nI (i + 1))), (3, .int (nI (sd / 2 ^ k * 2 ^ k + flp sd k (i + 1)))), (5, .int (nI (bt sd i))), (0, .ref la), (1, .int (nI sd)), (2, .int (nI k))]) C dX1_sidesBehind_46 (k := 5) rfl (nI_add _ 1) (by decide) rfl ?_
          refine r_goto (tgt := 18) C dX1_sidesBehind_49 (by decide) ?_
          refine V.sub (lv2 := [(0, .ref la), (1, .int (nI sd)), (2, .int (nI k)), (3, .int (nI (sd / 2 ^ k * 2 ^ k + flp sd k (i + 1)))), (4, .int (nI (i + 1)))]) [3, 4, 5, 1, 0] rfl ?_
          exact ih18 (i + 1) (by omega) (by omega)
    refine V.sub (lv2 := [(0, .ref la), (1, .int (nI sd)), (2, .int (nI k)), (3, .int (nI ((sd / 2 ^ k) * 2 ^ k))), (4, .int (nI 0))]) [2, 3, 4, 1, 0] rfl ?_
    refine V.eq (σ2 := σ) (lv2 := [(0, .ref la), (1, .int (nI sd)), (2, .int (nI k)), (3, .int (nI (sd / 2 ^ k * 2 ^ k + flp sd k 0))), (4, .int (nI 0))]) (st2 := []) rfl rfl rfl rfl ?_
    exact L18 _ 0 (by omega) (Nat.lt_succ_self _)
  · have hsb : sb = false := sbN_f c4 hL.1
    refine r_iconst (v := nI 0) C dX1_sidesBehind_7 (by decide) ?_
    exact r_iret C hr hlocks (Nat.le_of_ble_eq_true rfl) (Nat.le_of_ble_eq_true rfl) dX1_sidesBehind_8 (hpo _ _ _ ⟨by rw [tnS, hsb]; rw [hsb] at hs; rw [show sd = 0 by simpa [sm] using hs]; rfl, rfl, rfl⟩)

abbrev rm_X1_findJoined : Room := { frames := 2, cells := 0, slots := 0, locals := 43 }
set_option maxRecDepth 100000 in
set_option maxHeartbeats 4000000 in
theorem c_X1_findJoined {l : Launch} {G : gG} {n : Nat} {σ : gS} {la N cfl : Nat} {sb : Bool} {f2 : Nat → Int32} {r j : Nat} (hc0 : σ la = some (.inr (1, [.int (nI N), .int (nI (rR sb N)), .int (nI (sbN sb N)), .int (nI (sm sb N - 1)), .ref (la + 1), .ref (la + 2), .ref (la + 3), .ref (la + 4)]))) (hc1 : σ (la + 2) = some (aI G (fac N * N) f2)) (hL : LOK sb N) (h2 : ∀ o, o < fac N → ∀ j, j < N → f2 (o * N + j) = nI (sz N o j)) (hrk : r < rR sb N) (hj : j < N) : GM l G yX1_findJoined cX1_findJoined 6 (some .boolean) rm_X1_findJoined n σ [.ref la, .int (nI r), .int (nI j)] (fun rv n2 σ2 => some (.int (bI (jn sb N (oR sb N r) (sR sb N r) j))) = rv ∧ n = n2 ∧ σ = σ2) := by
  refine GM.intro (by decide +kernel) (Nat.le_of_ble_eq_true rfl) (fun p e s m args below meth c C hr hlocks hname po hpo => ?_)
  have C : Cx p s m args c cX1_findJoined 6 RX1 G := C
  have hb9 := hL.b
  have hz1 := sz_rng hL.2.1 (oR_lt hrk) hj
  have hb1 := bt_le (sR sb N r) j
  refine r_aload_n C dX1_findJoined_0 rfl 0 rfl ?_
  refine r_iload_n C dX1_findJoined_1 rfl 1 rfl ?_
  refine r_iload_n C dX1_findJoined_2 rfl 2 rfl ?_
  refine r_callV (As := [.int (nI r), .int (nI j)]) C (c_X1_sizeAt (la := la) (N := N) (cfl := cfl) (sb := sb) (f2 := f2) (r := r) (j := j) hc0 hc1 (by first | assumption | omega) (by first | assumption | omega) (by first | assumption | omega) (by first | assumption | omega)) wM_X1_75 wI_X1_sizeAt wN_X1 wC_X1_sizeAt wV_X1_sizeAt hd_X1_sizeAt ⟨Nat.le_of_ble_eq_true rfl, Nat.le_of_ble_eq_true rfl⟩ rfl hc0 rfl rfl (Nat.le_of_ble_eq_true rfl) dX1_findJoined_3 ⟨(Nat.le_of_ble_eq_true rfl), (Nat.le_of_ble_eq_true rfl)⟩ (fun rv n2 σ2 hp => ?_)
  obtain ⟨rfl, rfl, rfl⟩ := hp
  refine V.eq (σ2 := σ) (n2 := n) (st2 := [.int (nI (sz N (oR sb N r) j))]) rfl rfl rfl rfl ?_
  refine r_istore_n (lv2 := [(3, .int (nI (sz N (oR sb N r) j))), (0, .ref la), (1, .int (nI r)), (2, .int (nI j))]) C dX1_findJoined_6 rfl (by decide) rfl ?_
  refine r_aload_n C dX1_findJoined_7 rfl 1 rfl ?_
  refine r_iload_n C dX1_findJoined_8 rfl 2 rfl ?_
  refine r_iload_n C dX1_findJoined_9 rfl 3 rfl ?_
  refine r_callV (As := [.int (nI r), .int (nI j)]) C (c_X1_isBurnt (la := la) (N := N) (cfl := cfl) (sb := sb) (r := r) (j := j) hc0 (by first | assumption | omega) (by first | assumption | omega) (by first | assumption | omega)) wM_X1_78 wI_X1_isBurnt wN_X1 wC_X1_isBurnt wV_X1_isBurnt hd_X1_isBurnt ⟨Nat.le_of_ble_eq_true rfl, Nat.le_of_ble_eq_true rfl⟩ rfl hc0 rfl rfl (Nat.le_of_ble_eq_true rfl) dX1_findJoined_10 ⟨(Nat.le_of_ble_eq_true rfl), (Nat.le_of_ble_eq_true rfl)⟩ (fun rv n2 σ2 hp => ?_)
  obtain ⟨rfl, rfl, rfl⟩ := hp
  refine V.eq (σ2 := σ) (n2 := n) (st2 := [.int (bI (decide (bt (sR sb N r) j ≠ 0)))]) rfl rfl rfl rfl ?_
  refine r_istore (lv2 := [(4, .int (bI (decide (bt (sR sb N r) j ≠ 0)))), (3, .int (nI (sz N (oR sb N r) j))), (0, .ref la), (1, .int (nI r)), (2, .int (nI j))]) C dX1_findJoined_13 (by decide) rfl ?_
  refine r_iload_n C dX1_findJoined_15 rfl 4 rfl ?_
  refine r_aload_n C dX1_findJoined_16 rfl 2 rfl ?_
  refine r_get (Cn := RX1) (T := TX1) (N := 8) (v := .int (nI N)) C inlX1 hc0 rfl 0 (by decide) wF_X1_9 (fun _ h => h) rfl dX1_findJoined_17 ?_
  refine r_iconst (v := nI 1) C dX1_findJoined_20 (by decide) ?_
  refine r_isubN C dX1_findJoined_21 (by omega) ?_
  refine r_icmp_neN (tgt := 44) C dX1_findJoined_22 (by decide) (by omega) (by omega) (fun c22 => ?_) (fun c22 => ?_)
  · have hq1 : ¬ j + 1 = N := by omega
    have hz2 := sz_rng hL.2.1 (oR_lt hrk) (show j + 1 < N by omega)
    have hb2 := bt_le (sR sb N r) (j + 1)
    refine r_aload_n C dX1_findJoined_44 rfl 2 rfl ?_
    refine r_iload_n C dX1_findJoined_45 rfl 3 rfl ?_
    refine r_iload_n C dX1_findJoined_46 rfl 4 rfl ?_
    refine r_iconst (v := nI 1) C dX1_findJoined_47 (by decide) ?_
    refine r_iaddN C dX1_findJoined_48 ?_
    refine r_callV (As := [.int (nI r), .int (nI (j + 1))]) C (c_X1_sizeAt (la := la) (N := N) (cfl := cfl) (sb := sb) (f2 := f2) (r := r) (j := j + 1) hc0 hc1 (by first | assumption | omega) (by first | assumption | omega) (by first | assumption | omega) (by first | assumption | omega)) wM_X1_75 wI_X1_sizeAt wN_X1 wC_X1_sizeAt wV_X1_sizeAt hd_X1_sizeAt ⟨Nat.le_of_ble_eq_true rfl, Nat.le_of_ble_eq_true rfl⟩ rfl hc0 rfl rfl (Nat.le_of_ble_eq_true rfl) dX1_findJoined_49 ⟨(Nat.le_of_ble_eq_true rfl), (Nat.le_of_ble_eq_true rfl)⟩ (fun rv n2 σ2 hp => ?_)
    obtain ⟨rfl, rfl, rfl⟩ := hp
    refine V.eq (σ2 := σ) (n2 := n) (st2 := [.int (nI (sz N (oR sb N r) (j + 1)))]) rfl rfl rfl rfl ?_
    refine r_iload_n C dX1_findJoined_52 rfl 1 rfl ?_
    refine r_isub C dX1_findJoined_53 ?_
    refine r_istore (lv2 := [(5, .int ((nI (sz N (oR sb N r) (j + 1))) - (nI (sz N (oR sb N r) j)))), (4, .int (bI (decide (bt (sR sb N r) j ≠ 0)))), (3, .int (nI (sz N (oR sb N r) j))), (0, .ref la), (1, .int (nI r)), (2, .int (nI j))]) C dX1_findJoined_54 (by decide) rfl ?_
    refine r_aload_n C dX1_findJoined_56 rfl 3 rfl ?_
    refine r_get (Cn := RX1) (T := TX1) (N := 8) (v := .int (nI (sbN sb N))) C inlX1 hc0 rfl 2 (by decide) wF_X1_15 (fun _ h => h) rfl dX1_findJoined_57 ?_
    refine r_if_neN (tgt := 81) C dX1_findJoined_60 (by decide) (by omega) (fun c60 => ?_) (fun c60 => ?_)
    · have hsb : sb = true := sbN_t c60
      refine r_iload C dX1_findJoined_81 1 rfl ?_
      refine r_aload_n C dX1_findJoined_83 rfl 3 rfl ?_
      refine r_iload_n C dX1_findJoined_84 rfl 4 rfl ?_
      refine r_iload_n C dX1_findJoined_85 rfl 5 rfl ?_
      refine r_iconst (v := nI 1) C dX1_findJoined_86 (by decide) ?_
      refine r_iaddN C dX1_findJoined_87 ?_
      refine r_callV (As := [.int (nI r), .int (nI (j + 1))]) C (c_X1_isBurnt (la := la) (N := N) (cfl := cfl) (sb := sb) (r := r) (j := j + 1) hc0 (by first | assumption | omega) (by first | assumption | omega) (by first | assumption | omega)) wM_X1_78 wI_X1_isBurnt wN_X1 wC_X1_isBurnt wV_X1_isBurnt hd_X1_isBurnt ⟨Nat.le_of_ble_eq_true rfl, Nat.le_of_ble_eq_true rfl⟩ rfl hc0 rfl rfl (Nat.le_of_ble_eq_true rfl) dX1_findJoined_88 ⟨(Nat.le_of_ble_eq_true rfl), (Nat.le_of_ble_eq_true rfl)⟩ (fun rv n2 σ2 hp => ?_)
      obtain ⟨rfl, rfl, rfl⟩ := hp
      refine V.eq (σ2 := σ) (n2 := n) (st2 := [.int (bI (decide (bt (sR sb N r) (j + 1) ≠ 0))), .int (bI (decide (bt (sR sb N r) j ≠ 0)))]) rfl rfl rfl rfl ?_
      refine r_icmp_ne (tgt := 113) C dX1_findJoined_91 (by decide) (fun c91 => ?_) (fun c91 => ?_)
      · have h91 : ¬ bt (sR sb N r) j = bt (sR sb N r) (j + 1) := fun z => c91 (by rw [z])
        refine r_iconst (v := nI 0) C dX1_findJoined_113 (by decide) ?_
        exact r_zret C (by decide) hr hlocks (Nat.le_of_ble_eq_true rfl) (Nat.le_of_ble_eq_true rfl) dX1_findJoined_114 (hpo _ _ _ ⟨bI_f (by first | (simp at c35; simp [jn, hq1, c30, c35]; done) | (simp [jn, hq1, c30]; done) | (rw [jn_p hq1 hsb]; simp [h66]; done) | (rw [jn_p hq1 hsb]; simp [h66, h72]; done) | (rcases h106 with ⟨g1, g2⟩ | ⟨g1, g2⟩ <;> (rw [jn_q hq1 hsb]; simp [← h91, g1, g2]; done)) | (rw [jn_q hq1 hsb]; simp [h91]; done)), rfl, rfl⟩)
      · have h91 := bI_dec hb1 hb2 c91
        refine r_iload C dX1_findJoined_94 0 rfl ?_
        refine r_iload C dX1_findJoined_96 1 rfl ?_
        refine r_if_eqB (tgt := 105) C dX1_findJoined_98 (by decide) (fun c98 => ?_) (fun c98 => ?_)
        · have h98 : bt (sR sb N r) j = 0 := by simpa using c98
          refine r_iconst (v := nI 1) C dX1_findJoined_105 (by decide) ?_
          refine r_icmp_ne (tgt := 113) C dX1_findJoined_106 (by decide) (fun c106 => ?_) (fun c106 => ?_)
          · have h106 : (bt (sR sb N r) j = 0 ∧ ¬ sz N (oR sb N r) (j + 1) = sz N (oR sb N r) j + 1) ∨ (¬ bt (sR sb N r) j = 0 ∧ ¬ sz N (oR sb N r) j = sz N (oR sb N r) (j + 1) + 1) := by first | exact Or.inl ⟨h98, fun z => c106 ((dif_1 _ (by omega) _ (by omega)).mpr z)⟩ | exact Or.inr ⟨h98, fun z => c106 ((dif_m _ (by omega) _ (by omega)).mpr z)⟩
            refine r_iconst (v := nI 0) C dX1_findJoined_113 (by decide) ?_
            exact r_zret C (by decide) hr hlocks (Nat.le_of_ble_eq_true rfl) (Nat.le_of_ble_eq_true rfl) dX1_findJoined_114 (hpo _ _ _ ⟨bI_f (by first | (simp at c35; simp [jn, hq1, c30, c35]; done) | (simp [jn, hq1, c30]; done) | (rw [jn_p hq1 hsb]; simp [h66]; done) | (rw [jn_p hq1 hsb]; simp [h66, h72]; done) | (rcases h106 with ⟨g1, g2⟩ | ⟨g1, g2⟩ <;> (rw [jn_q hq1 hsb]; simp [← h91, g1, g2]; done)) | (rw [jn_q hq1 hsb]; simp [h91]; done)), rfl, rfl⟩)
          · have h106 : (bt (sR sb N r) j = 0 ∧ sz N (oR sb N r) (j + 1) = sz N (oR sb N r) j + 1) ∨ (¬ bt (sR sb N r) j = 0 ∧ sz N (oR sb N r) j = sz N (oR sb N r) (j + 1) + 1) := by first | exact Or.inl ⟨h98, (dif_1 _ (by omega) _ (by omega)).mp c106⟩ | exact Or.inr ⟨h98, (dif_m _ (by omega) _ (by omega)).mp c106⟩
            refine r_iconst (v := nI 1) C dX1_findJoined_109 (by decide) ?_
            refine r_goto (tgt := 114) C dX1_findJoined_110 (by decide) ?_
            exact r_zret C (by decide) hr hlocks (Nat.le_of_ble_eq_true rfl) (Nat.le_of_ble_eq_true rfl) dX1_findJoined_114 (hpo _ _ _ ⟨bI_t (by first | (simp at c35; simp [jn, hq1, c30, c35]; done) | (simp [jn, hq1, c30]; done) | (rw [jn_p hq1 hsb]; simp [h66]; done) | (rw [jn_p hq1 hsb]; simp [h66, h72]; done) | (rcases h106 with ⟨g1, g2⟩ | ⟨g1, g2⟩ <;> (rw [jn_q hq1 hsb]; simp [← h91, g1, g2]; done)) | (rw [jn_q hq1 hsb]; simp [h91]; done)), rfl, rfl⟩)
        · have h98 : ¬ bt (sR sb N r) j = 0 := by simpa using c98
          refine r_iconst (v := (-1)) C dX1_findJoined_101 (by decide) ?_
          refine r_goto (tgt := 106) C dX1_findJoined_102 (by decide) ?_
          refine r_icmp_ne (tgt := 113) C dX1_findJoined_106 (by decide) (fun c106 => ?_) (fun c106 => ?_)
          · have h106 : (bt (sR sb N r) j = 0 ∧ ¬ sz N (oR sb N r) (j + 1) = sz N (oR sb N r) j + 1) ∨ (¬ bt (sR sb N r) j = 0 ∧ ¬ sz N (oR sb N r) j = sz N (oR sb N r) (j + 1) + 1) := by first | exact Or.inl ⟨h98, fun z => c106 ((dif_1 _ (by omega) _ (by omega)).mpr z)⟩ | exact Or.inr ⟨h98, fun z => c106 ((dif_m _ (by omega) _ (by omega)).mpr z)⟩
            refine r_iconst (v := nI 0) C dX1_findJoined_113 (by decide) ?_
            exact r_zret C (by decide) hr hlocks (Nat.le_of_ble_eq_true rfl) (Nat.le_of_ble_eq_true rfl) dX1_findJoined_114 (hpo _ _ _ ⟨bI_f (by first | (simp at c35; simp [jn, hq1, c30, c35]; done) | (simp [jn, hq1, c30]; done) | (rw [jn_p hq1 hsb]; simp [h66]; done) | (rw [jn_p hq1 hsb]; simp [h66, h72]; done) | (rcases h106 with ⟨g1, g2⟩ | ⟨g1, g2⟩ <;> (rw [jn_q hq1 hsb]; simp [← h91, g1, g2]; done)) | (rw [jn_q hq1 hsb]; simp [h91]; done)), rfl, rfl⟩)
          · have h106 : (bt (sR sb N r) j = 0 ∧ sz N (oR sb N r) (j + 1) = sz N (oR sb N r) j + 1) ∨ (¬ bt (sR sb N r) j = 0 ∧ sz N (oR sb N r) j = sz N (oR sb N r) (j + 1) + 1) := by first | exact Or.inl ⟨h98, (dif_1 _ (by omega) _ (by omega)).mp c106⟩ | exact Or.inr ⟨h98, (dif_m _ (by omega) _ (by omega)).mp c106⟩
            refine r_iconst (v := nI 1) C dX1_findJoined_109 (by decide) ?_
            refine r_goto (tgt := 114) C dX1_findJoined_110 (by decide) ?_
            exact r_zret C (by decide) hr hlocks (Nat.le_of_ble_eq_true rfl) (Nat.le_of_ble_eq_true rfl) dX1_findJoined_114 (hpo _ _ _ ⟨bI_t (by first | (simp at c35; simp [jn, hq1, c30, c35]; done) | (simp [jn, hq1, c30]; done) | (rw [jn_p hq1 hsb]; simp [h66]; done) | (rw [jn_p hq1 hsb]; simp [h66, h72]; done) | (rcases h106 with ⟨g1, g2⟩ | ⟨g1, g2⟩ <;> (rw [jn_q hq1 hsb]; simp [← h91, g1, g2]; done)) | (rw [jn_q hq1 hsb]; simp [h91]; done)), rfl, rfl⟩)
    · have hsb : sb = false := sbN_f c60 hL.1
      refine r_iload C dX1_findJoined_63 0 rfl ?_
      refine r_iconst (v := nI 1) C dX1_findJoined_65 (by decide) ?_
      refine r_icmp_eq (tgt := 75) C dX1_findJoined_66 (by decide) (fun c66 => ?_) (fun c66 => ?_)
      · have h66 := (dif_1 _ (by omega) _ (by omega)).mp c66
        refine r_iconst (v := nI 1) C dX1_findJoined_75 (by decide) ?_
        refine r_goto (tgt := 80) C dX1_findJoined_76 (by decide) ?_
        exact r_zret C (by decide) hr hlocks (Nat.le_of_ble_eq_true rfl) (Nat.le_of_ble_eq_true rfl) dX1_findJoined_80 (hpo _ _ _ ⟨bI_t (by first | (simp at c35; simp [jn, hq1, c30, c35]; done) | (simp [jn, hq1, c30]; done) | (rw [jn_p hq1 hsb]; simp [h66]; done) | (rw [jn_p hq1 hsb]; simp [h66, h72]; done) | (rcases h106 with ⟨g1, g2⟩ | ⟨g1, g2⟩ <;> (rw [jn_q hq1 hsb]; simp [← h91, g1, g2]; done)) | (rw [jn_q hq1 hsb]; simp [h91]; done)), rfl, rfl⟩)
      · have h66 : ¬ sz N (oR sb N r) (j + 1) = sz N (oR sb N r) j + 1 := fun z => c66 ((dif_1 _ (by omega) _ (by omega)).mpr z)
        refine r_iload C dX1_findJoined_69 0 rfl ?_
        refine r_iconst (v := (-1)) C dX1_findJoined_71 (by decide) ?_
        refine r_icmp_ne (tgt := 79) C dX1_findJoined_72 (by decide) (fun c72 => ?_) (fun c72 => ?_)
        · have h72 : ¬ sz N (oR sb N r) j = sz N (oR sb N r) (j + 1) + 1 := fun z => c72 ((dif_m _ (by omega) _ (by omega)).mpr z)
          refine r_iconst (v := nI 0) C dX1_findJoined_79 (by decide) ?_
          exact r_zret C (by decide) hr hlocks (Nat.le_of_ble_eq_true rfl) (Nat.le_of_ble_eq_true rfl) dX1_findJoined_80 (hpo _ _ _ ⟨bI_f (by first | (simp at c35; simp [jn, hq1, c30, c35]; done) | (simp [jn, hq1, c30]; done) | (rw [jn_p hq1 hsb]; simp [h66]; done) | (rw [jn_p hq1 hsb]; simp [h66, h72]; done) | (rcases h106 with ⟨g1, g2⟩ | ⟨g1, g2⟩ <;> (rw [jn_q hq1 hsb]; simp [← h91, g1, g2]; done)) | (rw [jn_q hq1 hsb]; simp [h91]; done)), rfl, rfl⟩)
        · have h72 := (dif_m _ (by omega) _ (by omega)).mp c72
          refine r_iconst (v := nI 1) C dX1_findJoined_75 (by decide) ?_
          refine r_goto (tgt := 80) C dX1_findJoined_76 (by decide) ?_
          exact r_zret C (by decide) hr hlocks (Nat.le_of_ble_eq_true rfl) (Nat.le_of_ble_eq_true rfl) dX1_findJoined_80 (hpo _ _ _ ⟨bI_t (by first | (simp at c35; simp [jn, hq1, c30, c35]; done) | (simp [jn, hq1, c30]; done) | (rw [jn_p hq1 hsb]; simp [h66]; done) | (rw [jn_p hq1 hsb]; simp [h66, h72]; done) | (rcases h106 with ⟨g1, g2⟩ | ⟨g1, g2⟩ <;> (rw [jn_q hq1 hsb]; simp [← h91, g1, g2]; done)) | (rw [jn_q hq1 hsb]; simp [h91]; done)), rfl, rfl⟩)
  · have hq1 : j + 1 = N := by omega
    refine r_iload_n C dX1_findJoined_25 rfl 1 rfl ?_
    refine r_aload_n C dX1_findJoined_26 rfl 2 rfl ?_
    refine r_get (Cn := RX1) (T := TX1) (N := 8) (v := .int (nI N)) C inlX1 hc0 rfl 0 (by decide) wF_X1_9 (fun _ h => h) rfl dX1_findJoined_27 ?_
    refine r_icmp_neN (tgt := 42) C dX1_findJoined_30 (by decide) (by omega) (by omega) (fun c30 => ?_) (fun c30 => ?_)
    · refine r_iconst (v := nI 0) C dX1_findJoined_42 (by decide) ?_
      exact r_zret C (by decide) hr hlocks (Nat.le_of_ble_eq_true rfl) (Nat.le_of_ble_eq_true rfl) dX1_findJoined_43 (hpo _ _ _ ⟨bI_f (by first | (simp at c35; simp [jn, hq1, c30, c35]; done) | (simp [jn, hq1, c30]; done) | (rw [jn_p hq1 hsb]; simp [h66]; done) | (rw [jn_p hq1 hsb]; simp [h66, h72]; done) | (rcases h106 with ⟨g1, g2⟩ | ⟨g1, g2⟩ <;> (rw [jn_q hq1 hsb]; simp [← h91, g1, g2]; done)) | (rw [jn_q hq1 hsb]; simp [h91]; done)), rfl, rfl⟩)
    · refine r_iload C dX1_findJoined_33 0 rfl ?_
      refine r_if_neB (tgt := 42) C dX1_findJoined_35 (by decide) (fun c35 => ?_) (fun c35 => ?_)
      · refine r_iconst (v := nI 0) C dX1_findJoined_42 (by decide) ?_
        exact r_zret C (by decide) hr hlocks (Nat.le_of_ble_eq_true rfl) (Nat.le_of_ble_eq_true rfl) dX1_findJoined_43 (hpo _ _ _ ⟨bI_f (by first | (simp at c35; simp [jn, hq1, c30, c35]; done) | (simp [jn, hq1, c30]; done) | (rw [jn_p hq1 hsb]; simp [h66]; done) | (rw [jn_p hq1 hsb]; simp [h66, h72]; done) | (rcases h106 with ⟨g1, g2⟩ | ⟨g1, g2⟩ <;> (rw [jn_q hq1 hsb]; simp [← h91, g1, g2]; done)) | (rw [jn_q hq1 hsb]; simp [h91]; done)), rfl, rfl⟩)
      · refine r_iconst (v := nI 1) C dX1_findJoined_38 (by decide) ?_
        refine r_goto (tgt := 43) C dX1_findJoined_39 (by decide) ?_
        exact r_zret C (by decide) hr hlocks (Nat.le_of_ble_eq_true rfl) (Nat.le_of_ble_eq_true rfl) dX1_findJoined_43 (hpo _ _ _ ⟨bI_t (by first | (simp at c35; simp [jn, hq1, c30, c35]; done) | (simp [jn, hq1, c30]; done) | (rw [jn_p hq1 hsb]; simp [h66]; done) | (rw [jn_p hq1 hsb]; simp [h66, h72]; done) | (rcases h106 with ⟨g1, g2⟩ | ⟨g1, g2⟩ <;> (rw [jn_q hq1 hsb]; simp [← h91, g1, g2]; done)) | (rw [jn_q hq1 hsb]; simp [h91]; done)), rfl, rfl⟩)

abbrev rm_X1_fillSizes : Room := { frames := 1, cells := 0, slots := 0, locals := 22 }
set_option maxRecDepth 100000 in
set_option maxHeartbeats 4000000 in
theorem c_X1_fillSizes {l : Launch} {G : gG} {n : Nat} {σ : gS} {la N cfl : Nat} {sb : Bool} {f1 : Nat → Int32} {f2 : Nat → Int32} {f3 : Nat → Int32} {f4 : Nat → Int32} {o : Nat} (hc0 : σ la = some (.inr (1, [.int (nI N), .int (nI (rR sb N)), .int (nI (sbN sb N)), .int (nI (sm sb N - 1)), .ref (la + 1), .ref (la + 2), .ref (la + 3), .ref (la + 4)]))) (hc1 : σ (la + 1) = some (aI G (fac N) f1)) (hc2 : σ (la + 2) = some (aI G (fac N * N) f2)) (hc3 : σ (la + 3) = some (aI G (rR sb N * N) f3)) (hc4 : σ (la + 4) = some (aI G (rR sb N) f4)) (hL : LOK sb N) (h1 : ∀ o, o < fac N → f1 o = nI (cd N o)) (ho : o < fac N) : GM l G yX1_fillSizes cX1_fillSizes 4 none rm_X1_fillSizes n σ [.ref la, .int (nI o)] (fun rv n2 σ2 => (none : Option Value) = rv ∧ n = n2 ∧ ∃ (g2 : Nat → Int32), (RW σ la [(.inr (1, [.int (nI N), .int (nI (rR sb N)), .int (nI (sbN sb N)), .int (nI (sm sb N - 1)), .ref (la + 1), .ref (la + 2), .ref (la + 3), .ref (la + 4)])), (aI G (fac N) f1), (aI G (fac N * N) g2), (aI G (rR sb N * N) f3), (aI G (rR sb N) f4)]) = σ2 ∧ (∀ j, j < N → g2 (o * N + j) = nI (sz N o j)) ∧ (∀ q, q < o * N → g2 q = f2 q)) := by
  refine GM.intro (by decide +kernel) (Nat.le_of_ble_eq_true rfl) (fun p e s m args below meth c C hr hlocks hname po hpo => ?_)
  have C : Cx p s m args c cX1_fillSizes 4 RX1 G := C
  have hb9 := hL.b
  have hcl := cd_lt hL.2.1 ho
  refine V.hp (σ2 := (RW σ la [(.inr (1, [.int (nI N), .int (nI (rR sb N)), .int (nI (sbN sb N)), .int (nI (sm sb N - 1)), .ref (la + 1), .ref (la + 2), .ref (la + 3), .ref (la + 4)])), (aI G (fac N) f1), (aI G (fac N * N) f2), (aI G (rR sb N * N) f3), (aI G (rR sb N) f4)])) (RW_cons hc0 (RW_cons hc1 (RW_cons hc2 (RW_cons hc3 (RW_cons hc4 (RW_nil _ _)))))).symm ?_
  refine r_aload_n C dX1_fillSizes_0 rfl 0 rfl ?_
  refine r_get (Cn := RX1) (T := TX1) (N := 8) (v := .ref (la + 1)) C inlX1 (RW_at0 rfl) rfl 4 (by decide) wF_X1_28 (fun _ h => h) rfl dX1_fillSizes_1 ?_
  refine r_iload_n C dX1_fillSizes_4 rfl 1 rfl ?_
  refine r_callSN (As := [.ref (la + 1), .int (nI o)]) C (c_X6_at_y (a := la + 1) (len := fac N) (f := f1) (i := o) (RW_at 1 rfl) (by first | assumption | omega) (by first | assumption | omega)) wZ_X1_60 wS_X6_at wN_X6 wC_X6_at hd_X6_at ⟨Nat.le_of_ble_eq_true rfl, Nat.le_of_ble_eq_true rfl⟩ rfl rfl (Nat.le_of_ble_eq_true rfl) dX1_fillSizes_5 ⟨(Nat.le_of_ble_eq_true rfl), (Nat.le_of_ble_eq_true rfl)⟩ (fun rv n2 σ2 hp => ?_)
  obtain ⟨rfl, rfl, rfl⟩ := hp
  refine V.eq (σ2 := (RW σ la [(.inr (1, [.int (nI N), .int (nI (rR sb N)), .int (nI (sbN sb N)), .int (nI (sm sb N - 1)), .ref (la + 1), .ref (la + 2), .ref (la + 3), .ref (la + 4)])), (aI G (fac N) f1), (aI G (fac N * N) f2), (aI G (rR sb N * N) f3), (aI G (rR sb N) f4)])) (n2 := n) (st2 := [.int (f1 o)]) rfl rfl rfl rfl ?_
  refine V.top (y := nI (cd N o)) (h1 _ ho) ?_
  refine r_istore_n (lv2 := [(2, .int (nI (cd N o))), (0, .ref la), (1, .int (nI o))]) C dX1_fillSizes_8 rfl (by decide) rfl ?_
  refine r_aload_n C dX1_fillSizes_9 rfl 1 rfl ?_
  refine r_get (Cn := RX1) (T := TX1) (N := 8) (v := .int (nI N)) C inlX1 (RW_at0 rfl) rfl 0 (by decide) wF_X1_9 (fun _ h => h) rfl dX1_fillSizes_10 ?_
  refine r_iconst (v := nI 1) C dX1_fillSizes_13 (by decide) ?_
  refine r_isubN C dX1_fillSizes_14 (by omega) ?_
  refine r_istore_n (lv2 := [(3, .int (nI (N - 1))), (2, .int (nI (cd N o))), (0, .ref la), (1, .int (nI o))]) C dX1_fillSizes_15 rfl (by decide) rfl ?_
  have L16 : ∀ (fu : Nat) (i : Nat) (w2 : Nat → Int32), (i ≤ N) → (∀ j, i ≤ j → j < N → w2 (o * N + j) = nI (sz N o j)) → (∀ q, q < o * N → w2 q = f2 q) → (i + 1) < fu → V p l e rm_X1_fillSizes s m args below meth c G 4 (MQ below (gQ G po) args s rm_X1_fillSizes.cells rm_X1_fillSizes.slots (gF G)) 0 0 n (RW σ la [(.inr (1, [.int (nI N), .int (nI (rR sb N)), .int (nI (sbN sb N)), .int (nI (sm sb N - 1)), .ref (la + 1), .ref (la + 2), .ref (la + 3), .ref (la + 4)])), (aI G (fac N) f1), (aI G (fac N * N) w2), (aI G (rR sb N * N) f3), (aI G (rR sb N) f4)]) 16 [(0, .ref la), (1, .int (nI o)), (2, .int (nI (cd N o / 10 ^ (N - i)))), (3, .int (hI i))] [] := by
    intro fu
    induction fu with
    | zero => intro i w2 hi hw2 hw0 hm; exact absurd hm (Nat.not_lt_zero _)
    | succ fu ih16 =>
      intro i w2 hi hw2 hw0 hm16
      refine r_iload_n C dX1_fillSizes_16 rfl 3 rfl ?_
      refine r_if_lt (tgt := 50) C dX1_fillSizes_17 (by decide) (fun c17 => ?_) (fun c17 => ?_)
      · have hi0 : i = 0 := hI_ng (by omega) c17
        exact r_vret C hr hlocks (Nat.le_of_ble_eq_true rfl) (Nat.le_of_ble_eq_true rfl) dX1_fillSizes_50 (hpo _ _ _ ⟨rfl, rfl, w2, rfl, fun j hj => hw2 j (by omega) hj, hw0⟩)
      · have hi1 : 1 ≤ i := hI_nn c17
        refine V.eq (lv2 := [(0, .ref la), (1, .int (nI o)), (2, .int (nI (cd N o / 10 ^ (N - i)))), (3, .int (nI (i - 1)))]) rfl rfl (by rw [(show hI i = nI (i - 1) from hI_s hi1)]) rfl ?_
        have hdl := Nat.div_le_self (cd N o) (10 ^ (N - i))
        refine r_aload_n C dX1_fillSizes_20 rfl 0 rfl ?_
        refine r_get (Cn := RX1) (T := TX1) (N := 8) (v := .ref (la + 2)) C inlX1 (RW_at0 rfl) rfl 5 (by decide) wF_X1_32 (fun _ h => h) rfl dX1_fillSizes_21 ?_
        refine r_iload_n C dX1_fillSizes_24 rfl 1 rfl ?_
        refine r_aload_n C dX1_fillSizes_25 rfl 0 rfl ?_
        refine r_get (Cn := RX1) (T := TX1) (N := 8) (v := .int (nI N)) C inlX1 (RW_at0 rfl) rfl 0 (by decide) wF_X1_9 (fun _ h => h) rfl dX1_fillSizes_26 ?_
        refine r_imulN C dX1_fillSizes_29 ?_
        refine r_iload_n C dX1_fillSizes_30 rfl 3 rfl ?_
        refine r_iaddN C dX1_fillSizes_31 ?_
        refine r_iload_n C dX1_fillSizes_32 rfl 2 rfl ?_
        refine r_bipush (v := nI 10) C dX1_fillSizes_33 (by decide) ?_
        refine r_iremN C dX1_fillSizes_35 (by omega) (by decide) (by decide) ?_
        refine r_callSN (As := [.ref (la + 2), .int (nI (o * N + (i - 1))), .int (nI ((cd N o / 10 ^ (N - i)) % 10))]) C (c_X6_put (a := la + 2) (len := (fac N * N)) (f := w2) (i := o * N + (i - 1)) (x := nI ((cd N o / 10 ^ (N - i)) % 10)) (RW_at 2 rfl) (ix_lt ho (by omega)) (by first | assumption | omega)) wZ_X1_56 wS_X6_put wN_X6 wC_X6_put hd_X6_put ⟨Nat.le_of_ble_eq_true rfl, Nat.le_of_ble_eq_true rfl⟩ rfl rfl (Nat.le_of_ble_eq_true rfl) dX1_fillSizes_36 ⟨(Nat.le_of_ble_eq_true rfl), (Nat.le_of_ble_eq_true rfl)⟩ (fun rv n2 σ2 hp => ?_)
        obtain ⟨rfl, rfl, rfl⟩ := hp
        refine V.eq (σ2 := (hU (RW σ la [(.inr (1, [.int (nI N), .int (nI (rR sb N)), .int (nI (sbN sb N)), .int (nI (sm sb N - 1)), .ref (la + 1), .ref (la + 2), .ref (la + 3), .ref (la + 4)])), (aI G (fac N) f1), (aI G (fac N * N) w2), (aI G (rR sb N * N) f3), (aI G (rR sb N) f4)]) (la + 2) (aI G (fac N * N) (upd w2 (o * N + (i - 1)) (nI ((cd N o / 10 ^ (N - i)) % 10)))))) (n2 := n) (st2 := []) rfl rfl rfl rfl ?_
        refine V.hp (σ2 := (RW σ la [(.inr (1, [.int (nI N), .int (nI (rR sb N)), .int (nI (sbN sb N)), .int (nI (sm sb N - 1)), .ref (la + 1), .ref (la + 2), .ref (la + 3), .ref (la + 4)])), (aI G (fac N) f1), (aI G (fac N * N) (upd w2 (o * N + (i - 1)) (nI ((cd N o / 10 ^ (N - i)) % 10)))), (aI G (rR sb N * N) f3), (aI G (rR sb N) f4)])) (RW_set 2 (Nat.le_of_ble_eq_true rfl) rfl) ?_
        refine r_iload_n C dX1_fillSizes_39 rfl 2 rfl ?_
        refine r_bipush (v := nI 10) C dX1_fillSizes_40 (by decide) ?_
        refine r_idivN C dX1_fillSizes_42 (by omega) (by decide) (by decide) ?_
        refine r_istore_n (lv2 := [(2, .int (nI ((cd N o / 10 ^ (N - i)) / 10))), (0, .ref la), (1, .int (nI o)), (3, .int (nI (i - 1)))]) C dX1_fillSizes_43 rfl (by decide) rfl ?_
        refine r_iinc (v := hI (i - 1)) (lv2 := [(3, .int (hI (i - 1))), (2, .int (nI ((cd N o / 10 ^ (N - i)) / 10))), (0, .ref la), (1, .int (nI o))]) C dX1_fillSizes_44 (k := 3) rfl rfl (by decide) rfl ?_
        refine r_goto (tgt := 16) C dX1_fillSizes_47 (by decide) ?_
        refine V.sub (lv2 := [(0, .ref la), (1, .int (nI o)), (2, .int (nI ((cd N o / 10 ^ (N - i)) / 10))), (3, .int (hI (i - 1)))]) [2, 3, 1, 0] rfl ?_
        refine V.eq (σ2 := (RW σ la [(.inr (1, [.int (nI N), .int (nI (rR sb N)), .int (nI (sbN sb N)), .int (nI (sm sb N - 1)), .ref (la + 1), .ref (la + 2), .ref (la + 3), .ref (la + 4)])), (aI G (fac N) f1), (aI G (fac N * N) (upd w2 (o * N + (i - 1)) (nI ((cd N o / 10 ^ (N - i)) % 10)))), (aI G (rR sb N * N) f3), (aI G (rR sb N) f4)])) (lv2 := [(0, .ref la), (1, .int (nI o)), (2, .int (nI (cd N o / 10 ^ (N - (i - 1))))), (3, .int (hI (i - 1)))]) (st2 := []) rfl rfl (by rw [(show nI ((cd N o / 10 ^ (N - i)) / 10) = nI (cd N o / 10 ^ (N - (i - 1))) from congrArg nI (dv_10 hi1 hi))]) rfl ?_
        exact ih16 (i - 1) (upd w2 (o * N + (i - 1)) (nI ((cd N o / 10 ^ (N - i)) % 10))) (by omega) (fun j hj hj2 => by rcases Nat.lt_or_ge j i with g | g; (rw [show j = i - 1 by omega, pk_us, ← cd_dig hL.2.1 ho (show i - 1 < N by omega), show N - 1 - (i - 1) = N - i by omega]); (rw [pk_un (by omega)]; exact hw2 j g hj2)) (fun q hq => by rw [pk_un (by omega)]; exact hw0 q hq) (by omega)
  refine V.sub (lv2 := [(0, .ref la), (1, .int (nI o)), (2, .int (nI (cd N o))), (3, .int (nI (N - 1)))]) [2, 3, 1, 0] rfl ?_
  refine V.eq (σ2 := (RW σ la [(.inr (1, [.int (nI N), .int (nI (rR sb N)), .int (nI (sbN sb N)), .int (nI (sm sb N - 1)), .ref (la + 1), .ref (la + 2), .ref (la + 3), .ref (la + 4)])), (aI G (fac N) f1), (aI G (fac N * N) f2), (aI G (rR sb N * N) f3), (aI G (rR sb N) f4)])) (lv2 := [(0, .ref la), (1, .int (nI o)), (2, .int (nI (cd N o / 10 ^ (N - N)))), (3, .int (hI N))]) (st2 := []) rfl rfl (by rw [(show nI (cd N o) = nI (cd N o / 10 ^ (N - N)) from by simp), (show nI (N - 1) = hI N from (hI_s (by omega)).symm)]) rfl ?_
  exact L16 _ N f2 (by omega) (fun j hj hj2 => absurd hj2 (by omega)) (fun _ _ => rfl) (Nat.lt_succ_self _)
