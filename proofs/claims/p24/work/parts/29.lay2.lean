def hI (a : Nat) : Int32 := nI a + Int32.ofInt (-1)
theorem hI_s {a : Nat} (h : 1 ≤ a) : hI a = nI (a - 1) := nI_m1 h
theorem hI_1 (a : Nat) : nI a - nI 1 = hI a := by
  rw [hI, Int32.sub_eq_add_neg]
  rfl
theorem hI_lt {a b : Nat} (ha : a < 2 ^ 31) (hb : b < 2 ^ 31) (h : ¬ hI b < nI a) : a < b := by
  cases b with
  | zero =>
    refine absurd (Int32.lt_iff_toInt_lt.mpr ?_) h
    rw [nI_toInt ha, show (hI 0).toInt = -1 by decide]
    omega
  | succ b =>
    rw [hI_s (Nat.succ_pos b)] at h
    rw [Int32.lt_iff_toInt_lt, nI_toInt ha, nI_toInt (by omega)] at h
    omega
theorem hI_le {a b : Nat} (ha : a < 2 ^ 31) (hb : b < 2 ^ 31) (h : hI b < nI a) : b ≤ a := by
  cases b with
  | zero => exact Nat.zero_le _
  | succ b =>
    rw [hI_s (Nat.succ_pos b)] at h
    have h2 := Int32.lt_iff_toInt_lt.mp h
    rw [nI_toInt ha, nI_toInt (by omega)] at h2
    omega
theorem k_ush : ∀ x, x < 1500 → ((nI x).toUInt32 >>> ((nI 1).toUInt32 &&& Int32.toUInt32 31)).toInt32 = nI (x / 2) := by decide +kernel
theorem ush_1 {x : Nat} (h : x < 1500) : ((nI x).toUInt32 >>> ((nI 1).toUInt32 &&& Int32.toUInt32 31)).toInt32 = nI (x / 2) := k_ush x h
theorem bs_w {i : Nat} (h : i < 20) : 2 ^ (20 - i) = 2 * 2 ^ (20 - (i + 1)) := by
  rw [show 20 - i = (20 - (i + 1)) + 1 by omega, Nat.pow_succ, Nat.mul_comm]
theorem nI_ltN {a b : Nat} (ha : a < 2 ^ 31) (hb : b < 2 ^ 31) : nI a < nI b ↔ a < b := by
  rw [Int32.lt_iff_toInt_lt, nI_toInt ha, nI_toInt hb]
  omega
theorem cd_leI {N a b : Nat} (hN : N ≤ 6) (hb : b < fac N) (h : a ≤ b) : nI (cd N a) ≤ nI (cd N b) := by
  have h1 := (cd_mono hN (b - a) a (by omega)).1
  rw [show a + (b - a) = b by omega] at h1
  have h2 := cd_lt hN hb
  rw [Int32.le_iff_toInt_le, nI_toInt (by omega), nI_toInt (by omega)]
  omega
theorem bs_a {N mid : Nat} {x : Int32} (hN : N ≤ 6) (h : nI (cd N mid) < x) (hm : mid < fac N) : ∀ q, q < mid + 1 → nI (cd N q) < x := fun q hq => Int32.lt_of_le_of_lt (cd_leI hN hm (by omega)) h
theorem bs_b {N mid : Nat} {x : Int32} (hN : N ≤ 6) (h1 : ¬ nI (cd N mid) = x) (h2 : x ≤ nI (cd N mid)) : ∀ q, mid ≤ q → q < fac N → x < nI (cd N q) := fun q hq hq2 => Int32.lt_of_lt_of_le (Int32.lt_of_le_of_ne h2 (fun z => h1 z.symm)) (cd_leI hN hq2 hq)
theorem nI_m1n {a : Nat} (h : a < 2 ^ 31) : ¬ nI a = -1 := by
  intro z
  have := congrArg Int32.toInt z
  rw [nI_toInt h, show (-1 : Int32).toInt = -1 by decide] at this
  omega
theorem rk_or {sb : Bool} {N o sd : Nat} (h : sd < sm sb N) : o * 2 ^ sbN sb N ||| sd = rk sb N o sd := by
  cases sb with
  | false =>
    rw [show sd = 0 by simp [sm] at h; exact h]
    simp [rk, sbN]
  | true =>
    simp only [sm, if_true] at h
    simp only [rk, sbN, if_true]
    rw [Nat.mul_comm, Nat.two_pow_add_eq_or_of_lt h]

abbrev rm_X1_orderOf_n : Room := { frames := 1, cells := 0, slots := 0, locals := 21 }
set_option maxRecDepth 100000 in
set_option maxHeartbeats 4000000 in
theorem c_X1_orderOf_n {l : Launch} {G : gG} {n : Nat} {σ : gS} {la N cfl : Nat} {sb : Bool} {f1 : Nat → Int32} {x : Int32} (hc0 : σ la = some (.inr (1, [.int (nI N), .int (nI (rR sb N)), .int (nI (sbN sb N)), .int (nI (sm sb N - 1)), .ref (la + 1), .ref (la + 2), .ref (la + 3), .ref (la + 4)]))) (hc1 : σ (la + 1) = some (aI G (fac N) f1)) (hL : LOK sb N) (h1 : ∀ o, o < fac N → f1 o = nI (cd N o)) (hx : ∀ o, o < fac N → nI (cd N o) ≠ x) : GM l G yX1_orderOf cX1_orderOf 7 (some .int) rm_X1_orderOf_n n σ [.ref la, .int x] (fun rv n2 σ2 => some (.int (-1)) = rv ∧ n = n2 ∧ σ = σ2) := by
  refine GM.intro (by decide +kernel) (Nat.le_of_ble_eq_true rfl) (fun p e s m args below meth c C hr hlocks hname po hpo => ?_)
  have C : Cx p s m args c cX1_orderOf 7 RX1 G := C
  have hb9 := hL.b
  refine r_iconst (v := nI 0) C dX1_orderOf_0 (by decide) ?_
  refine r_istore_n (lv2 := [(2, .int (nI 0)), (0, .ref la), (1, .int x)]) C dX1_orderOf_1 rfl (by decide) rfl ?_
  refine r_aload_n C dX1_orderOf_2 rfl 1 rfl ?_
  refine r_get (Cn := RX1) (T := TX1) (N := 8) (v := .ref (la + 1)) C inlX1 hc0 rfl 4 (by decide) wF_X1_28 (fun _ h => h) rfl dX1_orderOf_3 ?_
  refine r_alenI C hc1 dX1_orderOf_6 ?_
  refine r_iconst (v := nI 1) C dX1_orderOf_7 (by decide) ?_
  refine r_isubN C dX1_orderOf_8 (by omega) ?_
  refine r_istore_n (lv2 := [(3, .int (nI ((fac N) - 1))), (2, .int (nI 0)), (0, .ref la), (1, .int x)]) C dX1_orderOf_9 rfl (by decide) rfl ?_
  refine r_iconst (v := nI 0) C dX1_orderOf_10 (by decide) ?_
  refine r_istore (lv2 := [(4, .int (nI 0)), (3, .int (nI ((fac N) - 1))), (2, .int (nI 0)), (0, .ref la), (1, .int x)]) C dX1_orderOf_11 (by decide) rfl ?_
  have L13 : ∀ (fu : Nat) (i : Nat) (lo : Nat) (hh : Nat), (i ≤ 20) → (lo ≤ hh) → (hh ≤ fac N) → (hh - lo < 2 ^ (20 - i)) → (∀ q, q < lo → nI (cd N q) < x) → (∀ q, hh ≤ q → q < fac N → x < nI (cd N q)) → (21 - i) < fu → V p l e rm_X1_orderOf_n s m args below meth c G 7 (MQ below (gQ G po) args s rm_X1_orderOf_n.cells rm_X1_orderOf_n.slots (gF G)) 0 0 n σ 13 [(0, .ref la), (1, .int x), (2, .int (nI lo)), (3, .int (hI hh)), (4, .int (nI i))] [] := by
    intro fu
    induction fu with
    | zero => intro i lo hh hi hlo hhh hw hA hB hm; exact absurd hm (Nat.not_lt_zero _)
    | succ fu ih13 =>
      intro i lo hh hi hlo hhh hw hA hB hm13
      refine r_iload C dX1_orderOf_13 4 rfl ?_
      refine r_bipush (v := nI 20) C dX1_orderOf_15 (by decide) ?_
      refine r_icmp_geN (tgt := 77) C dX1_orderOf_17 (by decide) (by omega) (by decide) (fun c17 => ?_) (fun c17 => ?_)
      · have hle : hh ≤ lo := by rw [show 20 - i = 0 by omega] at hw; omega
        refine r_iconst (v := (-1)) C dX1_orderOf_77 (by decide) ?_
        exact r_iret C hr hlocks (Nat.le_of_ble_eq_true rfl) (Nat.le_of_ble_eq_true rfl) dX1_orderOf_78 (hpo _ _ _ ⟨by exact rfl, rfl, rfl⟩)
      · refine r_iload_n C dX1_orderOf_20 rfl 2 rfl ?_
        refine r_iload_n C dX1_orderOf_21 rfl 3 rfl ?_
        refine r_icmp_gt (tgt := 77) C dX1_orderOf_22 (by decide) (fun c22 => ?_) (fun c22 => ?_)
        · have hle : hh ≤ lo := hI_le (by omega) (by omega) c22
          refine r_iconst (v := (-1)) C dX1_orderOf_77 (by decide) ?_
          exact r_iret C hr hlocks (Nat.le_of_ble_eq_true rfl) (Nat.le_of_ble_eq_true rfl) dX1_orderOf_78 (hpo _ _ _ ⟨by exact rfl, rfl, rfl⟩)
        · have hlt : lo < hh := hI_lt (by omega) (by omega) c22
          have hmF : (lo + (hh - 1)) / 2 < fac N := by omega
          refine V.eq (lv2 := [(0, .ref la), (1, .int x), (2, .int (nI lo)), (3, .int (nI (hh - 1))), (4, .int (nI i))]) rfl rfl (by rw [(show hI hh = nI (hh - 1) from hI_s (by omega))]) rfl ?_
          refine r_iload_n C dX1_orderOf_25 rfl 2 rfl ?_
          refine r_iload_n C dX1_orderOf_26 rfl 3 rfl ?_
          refine r_iaddN C dX1_orderOf_27 ?_
          refine r_iconst (v := nI 1) C dX1_orderOf_28 (by decide) ?_
          refine r_iushr (v := nI ((lo + (hh - 1)) / 2)) C dX1_orderOf_29 (ush_1 (by omega)) ?_
          refine r_istore (lv2 := [(5, .int (nI ((lo + (hh - 1)) / 2))), (0, .ref la), (1, .int x), (2, .int (nI lo)), (3, .int (nI (hh - 1))), (4, .int (nI i))]) C dX1_orderOf_30 (by decide) rfl ?_
          refine r_aload_n C dX1_orderOf_32 rfl 1 rfl ?_
          refine r_get (Cn := RX1) (T := TX1) (N := 8) (v := .ref (la + 1)) C inlX1 hc0 rfl 4 (by decide) wF_X1_28 (fun _ h => h) rfl dX1_orderOf_33 ?_
          refine r_iload C dX1_orderOf_36 0 rfl ?_
          refine r_callSN (As := [.ref (la + 1), .int (nI ((lo + (hh - 1)) / 2))]) C (c_X6_at_y (a := la + 1) (len := fac N) (f := f1) (i := (lo + (hh - 1)) / 2) hc1 (hmF) (by first | assumption | omega)) wZ_X1_60 wS_X6_at wN_X6 wC_X6_at hd_X6_at ⟨Nat.le_of_ble_eq_true rfl, Nat.le_of_ble_eq_true rfl⟩ rfl rfl (Nat.le_of_ble_eq_true rfl) dX1_orderOf_38 ⟨(Nat.le_of_ble_eq_true rfl), (Nat.le_of_ble_eq_true rfl)⟩ (fun rv n2 σ2 hp => ?_)
          obtain ⟨rfl, rfl, rfl⟩ := hp
          refine V.eq (σ2 := σ) (n2 := n) (st2 := [.int (f1 ((lo + (hh - 1)) / 2))]) rfl rfl rfl rfl ?_
          refine V.top (y := nI (cd N ((lo + (hh - 1)) / 2))) (h1 _ hmF) ?_
          have hcb := cd_lt hL.2.1 hmF
          refine r_istore (lv2 := [(6, .int (nI (cd N ((lo + (hh - 1)) / 2)))), (5, .int (nI ((lo + (hh - 1)) / 2))), (0, .ref la), (1, .int x), (2, .int (nI lo)), (3, .int (nI (hh - 1))), (4, .int (nI i))]) C dX1_orderOf_41 (by decide) rfl ?_
          refine r_iload C dX1_orderOf_43 0 rfl ?_
          refine r_iload_n C dX1_orderOf_45 rfl 3 rfl ?_
          refine r_icmp_ne (tgt := 52) C dX1_orderOf_46 (by decide) (fun cz46 => ?_) (fun cz46 => ?_)
          · refine r_iload C dX1_orderOf_52 0 rfl ?_
            refine r_iload_n C dX1_orderOf_54 rfl 3 rfl ?_
            refine r_icmp_ge (tgt := 66) C dX1_orderOf_55 (by decide) (fun c55 => ?_) (fun c55 => ?_)
            · refine r_iload C dX1_orderOf_66 1 rfl ?_
              refine r_iconst (v := nI 1) C dX1_orderOf_68 (by decide) ?_
              refine r_isub C dX1_orderOf_69 ?_
              refine r_istore_n (lv2 := [(3, .int ((nI ((lo + (hh - 1)) / 2)) - (nI 1))), (6, .int (nI (cd N ((lo + (hh - 1)) / 2)))), (5, .int (nI ((lo + (hh - 1)) / 2))), (0, .ref la), (1, .int x), (2, .int (nI lo)), (4, .int (nI i))]) C dX1_orderOf_70 rfl (by decide) rfl ?_
              refine r_iinc (v := nI (i + 1)) (lv2 := [(4, .int (nI (i + 1))), (3, .int ((nI ((lo + (hh - 1)) / 2)) - (nI 1))), (6, .int (nI (cd N ((lo + (hh - 1)) / 2)))), (5, .int (nI ((lo + (hh - 1)) / 2))), (0, .ref la), (1, .int x), (2, .int (nI lo))]) C dX1_orderOf_71 (k := 6) rfl (nI_add _ 1) (by decide) rfl ?_
              refine r_goto (tgt := 13) C dX1_orderOf_74 (by decide) ?_
              refine V.sub (lv2 := [(0, .ref la), (1, .int x), (2, .int (nI lo)), (3, .int ((nI ((lo + (hh - 1)) / 2)) - (nI 1))), (4, .int (nI (i + 1)))]) [4, 5, 6, 1, 0] rfl ?_
              refine V.eq (σ2 := σ) (lv2 := [(0, .ref la), (1, .int x), (2, .int (nI lo)), (3, .int (hI ((lo + (hh - 1)) / 2))), (4, .int (nI (i + 1)))]) (st2 := []) rfl rfl (by rw [(show (nI ((lo + (hh - 1)) / 2)) - (nI 1) = hI ((lo + (hh - 1)) / 2) from hI_1 _)]) rfl ?_
              exact ih13 (i + 1) lo ((lo + (hh - 1)) / 2) (by omega) (by omega) (by omega) (by have h9 := bs_w c17; omega) (by first | exact hA | exact bs_a hL.2.1 (Int32.not_le.mp c55) hmF) (by first | exact hB | exact bs_b hL.2.1 cz46 c55) (by omega)
            · refine r_iload C dX1_orderOf_58 1 rfl ?_
              refine r_iconst (v := nI 1) C dX1_orderOf_60 (by decide) ?_
              refine r_iaddN C dX1_orderOf_61 ?_
              refine r_istore_n (lv2 := [(2, .int (nI (((lo + (hh - 1)) / 2) + 1))), (6, .int (nI (cd N ((lo + (hh - 1)) / 2)))), (5, .int (nI ((lo + (hh - 1)) / 2))), (0, .ref la), (1, .int x), (3, .int (nI (hh - 1))), (4, .int (nI i))]) C dX1_orderOf_62 rfl (by decide) rfl ?_
              refine r_goto (tgt := 71) C dX1_orderOf_63 (by decide) ?_
              refine r_iinc (v := nI (i + 1)) (lv2 := [(4, .int (nI (i + 1))), (2, .int (nI (((lo + (hh - 1)) / 2) + 1))), (6, .int (nI (cd N ((lo + (hh - 1)) / 2)))), (5, .int (nI ((lo + (hh - 1)) / 2))), (0, .ref la), (1, .int x), (3, .int (nI (hh - 1)))]) C dX1_orderOf_71 (k := 6) rfl (nI_add _ 1) (by decide) rfl ?_
              refine r_goto (tgt := 13) C dX1_orderOf_74 (by decide) ?_
              refine V.sub (lv2 := [(0, .ref la), (1, .int x), (2, .int (nI (((lo + (hh - 1)) / 2) + 1))), (3, .int (nI (hh - 1))), (4, .int (nI (i + 1)))]) [4, 5, 1, 6, 0] rfl ?_
              refine V.eq (σ2 := σ) (lv2 := [(0, .ref la), (1, .int x), (2, .int (nI ((lo + (hh - 1)) / 2 + 1))), (3, .int (hI hh)), (4, .int (nI (i + 1)))]) (st2 := []) rfl rfl (by rw [(show nI (((lo + (hh - 1)) / 2) + 1) = nI ((lo + (hh - 1)) / 2 + 1) from congrArg nI (show ((lo + (hh - 1)) / 2) + 1 = ((lo + (hh - 1)) / 2 + 1) by omega)), (show nI (hh - 1) = hI hh from (hI_s (by omega)).symm)]) rfl ?_
              exact ih13 (i + 1) ((lo + (hh - 1)) / 2 + 1) hh (by omega) (by omega) (by omega) (by have h9 := bs_w c17; omega) (by first | exact hA | exact bs_a hL.2.1 (Int32.not_le.mp c55) hmF) (by first | exact hB | exact bs_b hL.2.1 cz46 c55) (by omega)
          · exact absurd cz46 (hx _ hmF)
  refine V.sub (lv2 := [(0, .ref la), (1, .int x), (2, .int (nI 0)), (3, .int (nI ((fac N) - 1))), (4, .int (nI 0))]) [3, 4, 2, 1, 0] rfl ?_
  refine V.eq (σ2 := σ) (lv2 := [(0, .ref la), (1, .int x), (2, .int (nI 0)), (3, .int (hI (fac N))), (4, .int (nI 0))]) (st2 := []) rfl rfl (by rw [(show nI ((fac N) - 1) = hI (fac N) from (hI_s (by omega)).symm)]) rfl ?_
  exact L13 _ 0 0 (fac N) (by omega) (by omega) (by omega) (by rw [Nat.sub_zero]; omega) (fun q hq => absurd hq (Nat.not_lt_zero q)) (fun q hq hq2 => absurd hq2 (by omega)) (Nat.lt_succ_self _)

abbrev rm_X1_orderOf_y : Room := { frames := 1, cells := 0, slots := 0, locals := 21 }
set_option maxRecDepth 100000 in
set_option maxHeartbeats 4000000 in
theorem c_X1_orderOf_y {l : Launch} {G : gG} {n : Nat} {σ : gS} {la N cfl : Nat} {sb : Bool} {f1 : Nat → Int32} {o : Nat} {x : Int32} (hc0 : σ la = some (.inr (1, [.int (nI N), .int (nI (rR sb N)), .int (nI (sbN sb N)), .int (nI (sm sb N - 1)), .ref (la + 1), .ref (la + 2), .ref (la + 3), .ref (la + 4)]))) (hc1 : σ (la + 1) = some (aI G (fac N) f1)) (hL : LOK sb N) (h1 : ∀ o, o < fac N → f1 o = nI (cd N o)) (ho : o < fac N) (hx : nI (cd N o) = x) : GM l G yX1_orderOf cX1_orderOf 7 (some .int) rm_X1_orderOf_y n σ [.ref la, .int x] (fun rv n2 σ2 => some (.int (nI o)) = rv ∧ n = n2 ∧ σ = σ2) := by
  refine GM.intro (by decide +kernel) (Nat.le_of_ble_eq_true rfl) (fun p e s m args below meth c C hr hlocks hname po hpo => ?_)
  have C : Cx p s m args c cX1_orderOf 7 RX1 G := C
  have hb9 := hL.b
  refine r_iconst (v := nI 0) C dX1_orderOf_0 (by decide) ?_
  refine r_istore_n (lv2 := [(2, .int (nI 0)), (0, .ref la), (1, .int x)]) C dX1_orderOf_1 rfl (by decide) rfl ?_
  refine r_aload_n C dX1_orderOf_2 rfl 1 rfl ?_
  refine r_get (Cn := RX1) (T := TX1) (N := 8) (v := .ref (la + 1)) C inlX1 hc0 rfl 4 (by decide) wF_X1_28 (fun _ h => h) rfl dX1_orderOf_3 ?_
  refine r_alenI C hc1 dX1_orderOf_6 ?_
  refine r_iconst (v := nI 1) C dX1_orderOf_7 (by decide) ?_
  refine r_isubN C dX1_orderOf_8 (by omega) ?_
  refine r_istore_n (lv2 := [(3, .int (nI ((fac N) - 1))), (2, .int (nI 0)), (0, .ref la), (1, .int x)]) C dX1_orderOf_9 rfl (by decide) rfl ?_
  refine r_iconst (v := nI 0) C dX1_orderOf_10 (by decide) ?_
  refine r_istore (lv2 := [(4, .int (nI 0)), (3, .int (nI ((fac N) - 1))), (2, .int (nI 0)), (0, .ref la), (1, .int x)]) C dX1_orderOf_11 (by decide) rfl ?_
  have L13 : ∀ (fu : Nat) (i : Nat) (lo : Nat) (hh : Nat), (i ≤ 20) → (lo ≤ hh) → (hh ≤ fac N) → (hh - lo < 2 ^ (20 - i)) → (∀ q, q < lo → nI (cd N q) < x) → (∀ q, hh ≤ q → q < fac N → x < nI (cd N q)) → (21 - i) < fu → V p l e rm_X1_orderOf_y s m args below meth c G 7 (MQ below (gQ G po) args s rm_X1_orderOf_y.cells rm_X1_orderOf_y.slots (gF G)) 0 0 n σ 13 [(0, .ref la), (1, .int x), (2, .int (nI lo)), (3, .int (hI hh)), (4, .int (nI i))] [] := by
    intro fu
    induction fu with
    | zero => intro i lo hh hi hlo hhh hw hA hB hm; exact absurd hm (Nat.not_lt_zero _)
    | succ fu ih13 =>
      intro i lo hh hi hlo hhh hw hA hB hm13
      refine r_iload C dX1_orderOf_13 4 rfl ?_
      refine r_bipush (v := nI 20) C dX1_orderOf_15 (by decide) ?_
      refine r_icmp_geN (tgt := 77) C dX1_orderOf_17 (by decide) (by omega) (by decide) (fun c17 => ?_) (fun c17 => ?_)
      · have hle : hh ≤ lo := by rw [show 20 - i = 0 by omega] at hw; omega
        exact absurd hx (by rcases Nat.lt_or_ge o lo with g | g; exact Int32.ne_of_lt (hA o g); exact (Int32.ne_of_lt (hB o (by omega) ho)).symm)
      · refine r_iload_n C dX1_orderOf_20 rfl 2 rfl ?_
        refine r_iload_n C dX1_orderOf_21 rfl 3 rfl ?_
        refine r_icmp_gt (tgt := 77) C dX1_orderOf_22 (by decide) (fun c22 => ?_) (fun c22 => ?_)
        · have hle : hh ≤ lo := hI_le (by omega) (by omega) c22
          exact absurd hx (by rcases Nat.lt_or_ge o lo with g | g; exact Int32.ne_of_lt (hA o g); exact (Int32.ne_of_lt (hB o (by omega) ho)).symm)
        · have hlt : lo < hh := hI_lt (by omega) (by omega) c22
          have hmF : (lo + (hh - 1)) / 2 < fac N := by omega
          refine V.eq (lv2 := [(0, .ref la), (1, .int x), (2, .int (nI lo)), (3, .int (nI (hh - 1))), (4, .int (nI i))]) rfl rfl (by rw [(show hI hh = nI (hh - 1) from hI_s (by omega))]) rfl ?_
          refine r_iload_n C dX1_orderOf_25 rfl 2 rfl ?_
          refine r_iload_n C dX1_orderOf_26 rfl 3 rfl ?_
          refine r_iaddN C dX1_orderOf_27 ?_
          refine r_iconst (v := nI 1) C dX1_orderOf_28 (by decide) ?_
          refine r_iushr (v := nI ((lo + (hh - 1)) / 2)) C dX1_orderOf_29 (ush_1 (by omega)) ?_
          refine r_istore (lv2 := [(5, .int (nI ((lo + (hh - 1)) / 2))), (0, .ref la), (1, .int x), (2, .int (nI lo)), (3, .int (nI (hh - 1))), (4, .int (nI i))]) C dX1_orderOf_30 (by decide) rfl ?_
          refine r_aload_n C dX1_orderOf_32 rfl 1 rfl ?_
          refine r_get (Cn := RX1) (T := TX1) (N := 8) (v := .ref (la + 1)) C inlX1 hc0 rfl 4 (by decide) wF_X1_28 (fun _ h => h) rfl dX1_orderOf_33 ?_
          refine r_iload C dX1_orderOf_36 0 rfl ?_
          refine r_callSN (As := [.ref (la + 1), .int (nI ((lo + (hh - 1)) / 2))]) C (c_X6_at_y (a := la + 1) (len := fac N) (f := f1) (i := (lo + (hh - 1)) / 2) hc1 (hmF) (by first | assumption | omega)) wZ_X1_60 wS_X6_at wN_X6 wC_X6_at hd_X6_at ⟨Nat.le_of_ble_eq_true rfl, Nat.le_of_ble_eq_true rfl⟩ rfl rfl (Nat.le_of_ble_eq_true rfl) dX1_orderOf_38 ⟨(Nat.le_of_ble_eq_true rfl), (Nat.le_of_ble_eq_true rfl)⟩ (fun rv n2 σ2 hp => ?_)
          obtain ⟨rfl, rfl, rfl⟩ := hp
          refine V.eq (σ2 := σ) (n2 := n) (st2 := [.int (f1 ((lo + (hh - 1)) / 2))]) rfl rfl rfl rfl ?_
          refine V.top (y := nI (cd N ((lo + (hh - 1)) / 2))) (h1 _ hmF) ?_
          have hcb := cd_lt hL.2.1 hmF
          refine r_istore (lv2 := [(6, .int (nI (cd N ((lo + (hh - 1)) / 2)))), (5, .int (nI ((lo + (hh - 1)) / 2))), (0, .ref la), (1, .int x), (2, .int (nI lo)), (3, .int (nI (hh - 1))), (4, .int (nI i))]) C dX1_orderOf_41 (by decide) rfl ?_
          refine r_iload C dX1_orderOf_43 0 rfl ?_
          refine r_iload_n C dX1_orderOf_45 rfl 3 rfl ?_
          refine r_icmp_ne (tgt := 52) C dX1_orderOf_46 (by decide) (fun cz46 => ?_) (fun cz46 => ?_)
          · refine r_iload C dX1_orderOf_52 0 rfl ?_
            refine r_iload_n C dX1_orderOf_54 rfl 3 rfl ?_
            refine r_icmp_ge (tgt := 66) C dX1_orderOf_55 (by decide) (fun c55 => ?_) (fun c55 => ?_)
            · refine r_iload C dX1_orderOf_66 1 rfl ?_
              refine r_iconst (v := nI 1) C dX1_orderOf_68 (by decide) ?_
              refine r_isub C dX1_orderOf_69 ?_
              refine r_istore_n (lv2 := [(3, .int ((nI ((lo + (hh - 1)) / 2)) - (nI 1))), (6, .int (nI (cd N ((lo + (hh - 1)) / 2)))), (5, .int (nI ((lo + (hh - 1)) / 2))), (0, .ref la), (1, .int x), (2, .int (nI lo)), (4, .int (nI i))]) C dX1_orderOf_70 rfl (by decide) rfl ?_
              refine r_iinc (v := nI (i + 1)) (lv2 := [(4, .int (nI (i + 1))), (3, .int ((nI ((lo + (hh - 1)) / 2)) - (nI 1))), (6, .int (nI (cd N ((lo + (hh - 1)) / 2)))), (5, .int (nI ((lo + (hh - 1)) / 2))), (0, .ref la), (1, .int x), (2, .int (nI lo))]) C dX1_orderOf_71 (k := 6) rfl (nI_add _ 1) (by decide) rfl ?_
              refine r_goto (tgt := 13) C dX1_orderOf_74 (by decide) ?_
              refine V.sub (lv2 := [(0, .ref la), (1, .int x), (2, .int (nI lo)), (3, .int ((nI ((lo + (hh - 1)) / 2)) - (nI 1))), (4, .int (nI (i + 1)))]) [4, 5, 6, 1, 0] rfl ?_
              refine V.eq (σ2 := σ) (lv2 := [(0, .ref la), (1, .int x), (2, .int (nI lo)), (3, .int (hI ((lo + (hh - 1)) / 2))), (4, .int (nI (i + 1)))]) (st2 := []) rfl rfl (by rw [(show (nI ((lo + (hh - 1)) / 2)) - (nI 1) = hI ((lo + (hh - 1)) / 2) from hI_1 _)]) rfl ?_
              exact ih13 (i + 1) lo ((lo + (hh - 1)) / 2) (by omega) (by omega) (by omega) (by have h9 := bs_w c17; omega) (by first | exact hA | exact bs_a hL.2.1 (Int32.not_le.mp c55) hmF) (by first | exact hB | exact bs_b hL.2.1 cz46 c55) (by omega)
            · refine r_iload C dX1_orderOf_58 1 rfl ?_
              refine r_iconst (v := nI 1) C dX1_orderOf_60 (by decide) ?_
              refine r_iaddN C dX1_orderOf_61 ?_
              refine r_istore_n (lv2 := [(2, .int (nI (((lo + (hh - 1)) / 2) + 1))), (6, .int (nI (cd N ((lo + (hh - 1)) / 2)))), (5, .int (nI ((lo + (hh - 1)) / 2))), (0, .ref la), (1, .int x), (3, .int (nI (hh - 1))), (4, .int (nI i))]) C dX1_orderOf_62 rfl (by decide) rfl ?_
              refine r_goto (tgt := 71) C dX1_orderOf_63 (by decide) ?_
              refine r_iinc (v := nI (i + 1)) (lv2 := [(4, .int (nI (i + 1))), (2, .int (nI (((lo + (hh - 1)) / 2) + 1))), (6, .int (nI (cd N ((lo + (hh - 1)) / 2)))), (5, .int (nI ((lo + (hh - 1)) / 2))), (0, .ref la), (1, .int x), (3, .int (nI (hh - 1)))]) C dX1_orderOf_71 (k := 6) rfl (nI_add _ 1) (by decide) rfl ?_
              refine r_goto (tgt := 13) C dX1_orderOf_74 (by decide) ?_
              refine V.sub (lv2 := [(0, .ref la), (1, .int x), (2, .int (nI (((lo + (hh - 1)) / 2) + 1))), (3, .int (nI (hh - 1))), (4, .int (nI (i + 1)))]) [4, 5, 1, 6, 0] rfl ?_
              refine V.eq (σ2 := σ) (lv2 := [(0, .ref la), (1, .int x), (2, .int (nI ((lo + (hh - 1)) / 2 + 1))), (3, .int (hI hh)), (4, .int (nI (i + 1)))]) (st2 := []) rfl rfl (by rw [(show nI (((lo + (hh - 1)) / 2) + 1) = nI ((lo + (hh - 1)) / 2 + 1) from congrArg nI (show ((lo + (hh - 1)) / 2) + 1 = ((lo + (hh - 1)) / 2 + 1) by omega)), (show nI (hh - 1) = hI hh from (hI_s (by omega)).symm)]) rfl ?_
              exact ih13 (i + 1) ((lo + (hh - 1)) / 2 + 1) hh (by omega) (by omega) (by omega) (by have h9 := bs_w c17; omega) (by first | exact hA | exact bs_a hL.2.1 (Int32.not_le.mp c55) hmF) (by first | exact hB | exact bs_b hL.2.1 cz46 c55) (by omega)
          · refine r_iload C dX1_orderOf_49 1 rfl ?_
            exact r_iret C hr hlocks (Nat.le_of_ble_eq_true rfl) (Nat.le_of_ble_eq_true rfl) dX1_orderOf_51 (hpo _ _ _ ⟨congrArg (fun z => some (Value.int (nI z))) (cd_inj hL.2.1 ho hmF (nI_inj7 (by have := cd_lt hL.2.1 ho; omega) (by omega) (hx.trans cz46.symm))), rfl, rfl⟩)
  refine V.sub (lv2 := [(0, .ref la), (1, .int x), (2, .int (nI 0)), (3, .int (nI ((fac N) - 1))), (4, .int (nI 0))]) [3, 4, 2, 1, 0] rfl ?_
  refine V.eq (σ2 := σ) (lv2 := [(0, .ref la), (1, .int x), (2, .int (nI 0)), (3, .int (hI (fac N))), (4, .int (nI 0))]) (st2 := []) rfl rfl (by rw [(show nI ((fac N) - 1) = hI (fac N) from (hI_s (by omega)).symm)]) rfl ?_
  exact L13 _ 0 0 (fac N) (by omega) (by omega) (by omega) (by rw [Nat.sub_zero]; omega) (fun q hq => absurd hq (Nat.not_lt_zero q)) (fun q hq hq2 => absurd hq2 (by omega)) (Nat.lt_succ_self _)

abbrev rm_X1_rankOf_y : Room := { frames := 2, cells := 0, slots := 0, locals := 47 }
set_option maxRecDepth 100000 in
set_option maxHeartbeats 4000000 in
theorem c_X1_rankOf_y {l : Launch} {G : gG} {n : Nat} {σ : gS} {la N cfl : Nat} {sb : Bool} {f1 : Nat → Int32} {o sd : Nat} {x : Int32} (hc0 : σ la = some (.inr (1, [.int (nI N), .int (nI (rR sb N)), .int (nI (sbN sb N)), .int (nI (sm sb N - 1)), .ref (la + 1), .ref (la + 2), .ref (la + 3), .ref (la + 4)]))) (hc1 : σ (la + 1) = some (aI G (fac N) f1)) (hL : LOK sb N) (h1 : ∀ o, o < fac N → f1 o = nI (cd N o)) (ho : o < fac N) (hx : nI (cd N o) = x) (hs : sd < sm sb N) : GM l G yX1_rankOf cX1_rankOf 4 (some .int) rm_X1_rankOf_y n σ [.ref la, .int x, .int (nI sd)] (fun rv n2 σ2 => some (.int (nI (rk sb N o sd))) = rv ∧ n = n2 ∧ σ = σ2) := by
  refine GM.intro (by decide +kernel) (Nat.le_of_ble_eq_true rfl) (fun p e s m args below meth c C hr hlocks hname po hpo => ?_)
  have C : Cx p s m args c cX1_rankOf 4 RX1 G := C
  have hb9 := hL.b
  refine r_aload_n C dX1_rankOf_0 rfl 0 rfl ?_
  refine r_iload_n C dX1_rankOf_1 rfl 1 rfl ?_
  refine r_callV (As := [.int x]) C (c_X1_orderOf_y (la := la) (N := N) (cfl := cfl) (sb := sb) (f1 := f1) (o := o) (x := x) hc0 hc1 (by first | assumption | omega) (by first | assumption | omega) (by first | assumption | omega) (by first | assumption | omega)) wM_X1_68 wI_X1_orderOf wN_X1 wC_X1_orderOf wV_X1_orderOf hd_X1_orderOf ⟨Nat.le_of_ble_eq_true rfl, Nat.le_of_ble_eq_true rfl⟩ rfl hc0 rfl rfl (Nat.le_of_ble_eq_true rfl) dX1_rankOf_2 ⟨(Nat.le_of_ble_eq_true rfl), (Nat.le_of_ble_eq_true rfl)⟩ (fun rv n2 σ2 hp => ?_)
  obtain ⟨rfl, rfl, rfl⟩ := hp
  refine V.eq (σ2 := σ) (n2 := n) (st2 := [.int (nI o)]) rfl rfl rfl rfl ?_
  refine r_istore_n (lv2 := [(3, .int (nI o)), (0, .ref la), (1, .int x), (2, .int (nI sd))]) C dX1_rankOf_5 rfl (by decide) rfl ?_
  refine r_iload_n C dX1_rankOf_6 rfl 0 rfl ?_
  refine r_iconst (v := (-1)) C dX1_rankOf_7 (by decide) ?_
  refine r_icmp_eq (tgt := 23) C dX1_rankOf_8 (by decide) (fun c8 => ?_) (fun c8 => ?_)
  · exact absurd c8 (nI_m1n (by omega))
  · refine r_iload_n C dX1_rankOf_11 rfl 3 rfl ?_
    refine r_if_ltN C dX1_rankOf_12 (tgt := 23) (by decide) (by omega) ?_
    refine r_iload_n C dX1_rankOf_15 rfl 3 rfl ?_
    refine r_aload_n C dX1_rankOf_16 rfl 1 rfl ?_
    refine r_get (Cn := RX1) (T := TX1) (N := 8) (v := .int (nI (sm sb N - 1))) C inlX1 hc0 rfl 3 (by decide) wF_X1_18 (fun _ h => h) rfl dX1_rankOf_17 ?_
    refine r_icmp_leN (tgt := 25) C dX1_rankOf_20 (by decide) (by omega) (by omega) (fun c20 => ?_) (fun c20 => ?_)
    · refine r_iload_n C dX1_rankOf_25 rfl 0 rfl ?_
      refine r_aload_n C dX1_rankOf_26 rfl 1 rfl ?_
      refine r_get (Cn := RX1) (T := TX1) (N := 8) (v := .int (nI (sbN sb N))) C inlX1 hc0 rfl 2 (by decide) wF_X1_15 (fun _ h => h) rfl dX1_rankOf_27 ?_
      refine r_ishlN C dX1_rankOf_30 (by omega) ?_
      refine r_iload_n C dX1_rankOf_31 rfl 3 rfl ?_
      refine r_iorN C dX1_rankOf_32 ?_
      refine V.top (y := nI (rk sb N o sd)) (congrArg nI (rk_or hs)) ?_
      exact r_iret C hr hlocks (Nat.le_of_ble_eq_true rfl) (Nat.le_of_ble_eq_true rfl) dX1_rankOf_33 (hpo _ _ _ ⟨rfl, rfl, rfl⟩)
    · exact absurd c20 (by omega)

abbrev rm_X1_rankOf_n : Room := { frames := 2, cells := 0, slots := 0, locals := 47 }
set_option maxRecDepth 100000 in
set_option maxHeartbeats 4000000 in
theorem c_X1_rankOf_n {l : Launch} {G : gG} {n : Nat} {σ : gS} {la N cfl : Nat} {sb : Bool} {f1 : Nat → Int32} {x z : Int32} (hc0 : σ la = some (.inr (1, [.int (nI N), .int (nI (rR sb N)), .int (nI (sbN sb N)), .int (nI (sm sb N - 1)), .ref (la + 1), .ref (la + 2), .ref (la + 3), .ref (la + 4)]))) (hc1 : σ (la + 1) = some (aI G (fac N) f1)) (hL : LOK sb N) (h1 : ∀ o, o < fac N → f1 o = nI (cd N o)) (hx : ∀ o, o < fac N → nI (cd N o) ≠ x) : GM l G yX1_rankOf cX1_rankOf 4 (some .int) rm_X1_rankOf_n n σ [.ref la, .int x, .int z] (fun rv n2 σ2 => some (.int (-1)) = rv ∧ n = n2 ∧ σ = σ2) := by
  refine GM.intro (by decide +kernel) (Nat.le_of_ble_eq_true rfl) (fun p e s m args below meth c C hr hlocks hname po hpo => ?_)
  have C : Cx p s m args c cX1_rankOf 4 RX1 G := C
  have hb9 := hL.b
  refine r_aload_n C dX1_rankOf_0 rfl 0 rfl ?_
  refine r_iload_n C dX1_rankOf_1 rfl 1 rfl ?_
  refine r_callV (As := [.int x]) C (c_X1_orderOf_n (la := la) (N := N) (cfl := cfl) (sb := sb) (f1 := f1) (x := x) hc0 hc1 (by first | assumption | omega) (by first | assumption | omega) (by first | assumption | omega)) wM_X1_68 wI_X1_orderOf wN_X1 wC_X1_orderOf wV_X1_orderOf hd_X1_orderOf ⟨Nat.le_of_ble_eq_true rfl, Nat.le_of_ble_eq_true rfl⟩ rfl hc0 rfl rfl (Nat.le_of_ble_eq_true rfl) dX1_rankOf_2 ⟨(Nat.le_of_ble_eq_true rfl), (Nat.le_of_ble_eq_true rfl)⟩ (fun rv n2 σ2 hp => ?_)
  obtain ⟨rfl, rfl, rfl⟩ := hp
  refine V.eq (σ2 := σ) (n2 := n) (st2 := [.int (-1)]) rfl rfl rfl rfl ?_
  refine r_istore_n (lv2 := [(3, .int (-1)), (0, .ref la), (1, .int x), (2, .int z)]) C dX1_rankOf_5 rfl (by decide) rfl ?_
  refine r_iload_n C dX1_rankOf_6 rfl 0 rfl ?_
  refine r_iconst (v := (-1)) C dX1_rankOf_7 (by decide) ?_
  refine r_icmp_eq (tgt := 23) C dX1_rankOf_8 (by decide) (fun c8 => ?_) (fun c8 => ?_)
  · refine r_iconst (v := (-1)) C dX1_rankOf_23 (by decide) ?_
    exact r_iret C hr hlocks (Nat.le_of_ble_eq_true rfl) (Nat.le_of_ble_eq_true rfl) dX1_rankOf_24 (hpo _ _ _ ⟨by exact rfl, rfl, rfl⟩)
  · exact absurd rfl c8

abbrev rm_X1_rankOf_s : Room := { frames := 2, cells := 0, slots := 0, locals := 47 }
set_option maxRecDepth 100000 in
set_option maxHeartbeats 4000000 in
theorem c_X1_rankOf_s {l : Launch} {G : gG} {n : Nat} {σ : gS} {la N cfl : Nat} {sb : Bool} {f1 : Nat → Int32} {o : Nat} {x z : Int32} (hc0 : σ la = some (.inr (1, [.int (nI N), .int (nI (rR sb N)), .int (nI (sbN sb N)), .int (nI (sm sb N - 1)), .ref (la + 1), .ref (la + 2), .ref (la + 3), .ref (la + 4)]))) (hc1 : σ (la + 1) = some (aI G (fac N) f1)) (hL : LOK sb N) (h1 : ∀ o, o < fac N → f1 o = nI (cd N o)) (ho : o < fac N) (hx : nI (cd N o) = x) (hz : z < 0 ∨ nI (sm sb N - 1) < z) : GM l G yX1_rankOf cX1_rankOf 4 (some .int) rm_X1_rankOf_s n σ [.ref la, .int x, .int z] (fun rv n2 σ2 => some (.int (-1)) = rv ∧ n = n2 ∧ σ = σ2) := by
  refine GM.intro (by decide +kernel) (Nat.le_of_ble_eq_true rfl) (fun p e s m args below meth c C hr hlocks hname po hpo => ?_)
  have C : Cx p s m args c cX1_rankOf 4 RX1 G := C
  have hb9 := hL.b
  refine r_aload_n C dX1_rankOf_0 rfl 0 rfl ?_
  refine r_iload_n C dX1_rankOf_1 rfl 1 rfl ?_
  refine r_callV (As := [.int x]) C (c_X1_orderOf_y (la := la) (N := N) (cfl := cfl) (sb := sb) (f1 := f1) (o := o) (x := x) hc0 hc1 (by first | assumption | omega) (by first | assumption | omega) (by first | assumption | omega) (by first | assumption | omega)) wM_X1_68 wI_X1_orderOf wN_X1 wC_X1_orderOf wV_X1_orderOf hd_X1_orderOf ⟨Nat.le_of_ble_eq_true rfl, Nat.le_of_ble_eq_true rfl⟩ rfl hc0 rfl rfl (Nat.le_of_ble_eq_true rfl) dX1_rankOf_2 ⟨(Nat.le_of_ble_eq_true rfl), (Nat.le_of_ble_eq_true rfl)⟩ (fun rv n2 σ2 hp => ?_)
  obtain ⟨rfl, rfl, rfl⟩ := hp
  refine V.eq (σ2 := σ) (n2 := n) (st2 := [.int (nI o)]) rfl rfl rfl rfl ?_
  refine r_istore_n (lv2 := [(3, .int (nI o)), (0, .ref la), (1, .int x), (2, .int z)]) C dX1_rankOf_5 rfl (by decide) rfl ?_
  refine r_iload_n C dX1_rankOf_6 rfl 0 rfl ?_
  refine r_iconst (v := (-1)) C dX1_rankOf_7 (by decide) ?_
  refine r_icmp_eq (tgt := 23) C dX1_rankOf_8 (by decide) (fun c8 => ?_) (fun c8 => ?_)
  · exact absurd c8 (nI_m1n (by omega))
  · refine r_iload_n C dX1_rankOf_11 rfl 3 rfl ?_
    refine r_if_lt (tgt := 23) C dX1_rankOf_12 (by decide) (fun c12 => ?_) (fun c12 => ?_)
    · refine r_iconst (v := (-1)) C dX1_rankOf_23 (by decide) ?_
      exact r_iret C hr hlocks (Nat.le_of_ble_eq_true rfl) (Nat.le_of_ble_eq_true rfl) dX1_rankOf_24 (hpo _ _ _ ⟨by exact rfl, rfl, rfl⟩)
    · refine r_iload_n C dX1_rankOf_15 rfl 3 rfl ?_
      refine r_aload_n C dX1_rankOf_16 rfl 1 rfl ?_
      refine r_get (Cn := RX1) (T := TX1) (N := 8) (v := .int (nI (sm sb N - 1))) C inlX1 hc0 rfl 3 (by decide) wF_X1_18 (fun _ h => h) rfl dX1_rankOf_17 ?_
      refine r_icmp_le (tgt := 25) C dX1_rankOf_20 (by decide) (fun c20 => ?_) (fun c20 => ?_)
      · exact absurd c20 (by rcases hz with g | g; exact absurd g c12; exact Int32.not_le.mpr g)
      · skip
        refine r_iconst (v := (-1)) C dX1_rankOf_23 (by decide) ?_
        exact r_iret C hr hlocks (Nat.le_of_ble_eq_true rfl) (Nat.le_of_ble_eq_true rfl) dX1_rankOf_24 (hpo _ _ _ ⟨by exact rfl, rfl, rfl⟩)

abbrev rm_X1_codeBehind : Room := { frames := 1, cells := 0, slots := 0, locals := 21 }
set_option maxRecDepth 100000 in
set_option maxHeartbeats 4000000 in
theorem c_X1_codeBehind {l : Launch} {G : gG} {n : Nat} {σ : gS} {la N cfl : Nat} {sb : Bool} {f2 : Nat → Int32} {o k : Nat} (hc0 : σ la = some (.inr (1, [.int (nI N), .int (nI (rR sb N)), .int (nI (sbN sb N)), .int (nI (sm sb N - 1)), .ref (la + 1), .ref (la + 2), .ref (la + 3), .ref (la + 4)]))) (hc1 : σ (la + 2) = some (aI G (fac N * N) f2)) (hL : LOK sb N) (h2 : ∀ j, j < N → f2 (o * N + j) = nI (sz N o j)) (ho : o < fac N) (hk1 : 1 ≤ k) (hk : k ≤ N) : GM l G yX1_codeBehind cX1_codeBehind 6 (some .int) rm_X1_codeBehind n σ [.ref la, .int (nI o), .int (nI k)] (fun rv n2 σ2 => some (.int (nI (cd N (tnO N o k)))) = rv ∧ n = n2 ∧ σ = σ2) := by
  refine GM.intro (by decide +kernel) (Nat.le_of_ble_eq_true rfl) (fun p e s m args below meth c C hr hlocks hname po hpo => ?_)
  have C : Cx p s m args c cX1_codeBehind 6 RX1 G := C
  have hb9 := hL.b
  refine r_iconst (v := nI 0) C dX1_codeBehind_0 (by decide) ?_
  refine r_istore_n (lv2 := [(3, .int (nI 0)), (0, .ref la), (1, .int (nI o)), (2, .int (nI k))]) C dX1_codeBehind_1 rfl (by decide) rfl ?_
  refine r_iconst (v := nI 0) C dX1_codeBehind_2 (by decide) ?_
  refine r_istore (lv2 := [(4, .int (nI 0)), (3, .int (nI 0)), (0, .ref la), (1, .int (nI o)), (2, .int (nI k))]) C dX1_codeBehind_3 (by decide) rfl ?_
  have L5 : ∀ (fu : Nat) (i : Nat), (i ≤ N) → (N + 1 - i) < fu → V p l e rm_X1_codeBehind s m args below meth c G 6 (MQ below (gQ G po) args s rm_X1_codeBehind.cells rm_X1_codeBehind.slots (gF G)) 0 0 n σ 5 [(0, .ref la), (1, .int (nI o)), (2, .int (nI k)), (3, .int (nI (cdp N (tnO N o k) i))), (4, .int (nI i))] [] := by
    intro fu
    induction fu with
    | zero => intro i hi hm; exact absurd hm (Nat.not_lt_zero _)
    | succ fu ih5 =>
      intro i hi hm5
      refine r_iload C dX1_codeBehind_5 4 rfl ?_
      refine r_aload_n C dX1_codeBehind_7 rfl 0 rfl ?_
      refine r_get (Cn := RX1) (T := TX1) (N := 8) (v := .int (nI N)) C inlX1 hc0 rfl 0 (by decide) wF_X1_9 (fun _ h => h) rfl dX1_codeBehind_8 ?_
      refine r_icmp_geN (tgt := 61) C dX1_codeBehind_11 (by decide) (by omega) (by omega) (fun c11 => ?_) (fun c11 => ?_)
      · have hiN : i = N := by omega
        refine r_iload_n C dX1_codeBehind_61 rfl 3 rfl ?_
        exact r_iret C hr hlocks (Nat.le_of_ble_eq_true rfl) (Nat.le_of_ble_eq_true rfl) dX1_codeBehind_62 (hpo _ _ _ ⟨by rw [hiN]; rfl, rfl, rfl⟩)
      · have L31 : ∀ (w : Nat), (w < N) → (sz N (tnO N o k) i = sz N o w) → V p l e rm_X1_codeBehind s m args below meth c G 6 (MQ below (gQ G po) args s rm_X1_codeBehind.cells rm_X1_codeBehind.slots (gF G)) 0 0 n σ 31 [(0, .ref la), (1, .int (nI o)), (2, .int (nI k)), (3, .int (nI (cdp N (tnO N o k) i))), (4, .int (nI i))] [.int (nI w)] := by
          intro w hw hw2
          refine r_istore (lv2 := [(5, .int (nI w)), (0, .ref la), (1, .int (nI o)), (2, .int (nI k)), (3, .int (nI (cdp N (tnO N o k) i))), (4, .int (nI i))]) C dX1_codeBehind_31 (by decide) rfl ?_
          refine r_iload_n C dX1_codeBehind_33 rfl 4 rfl ?_
          refine r_bipush (v := nI 10) C dX1_codeBehind_34 (by decide) ?_
          refine r_imulN C dX1_codeBehind_36 ?_
          refine r_aload_n C dX1_codeBehind_37 rfl 1 rfl ?_
          refine r_get (Cn := RX1) (T := TX1) (N := 8) (v := .ref (la + 2)) C inlX1 hc0 rfl 5 (by decide) wF_X1_32 (fun _ h => h) rfl dX1_codeBehind_38 ?_
          refine r_iload_n C dX1_codeBehind_41 rfl 2 rfl ?_
          refine r_aload_n C dX1_codeBehind_42 rfl 1 rfl ?_
          refine r_get (Cn := RX1) (T := TX1) (N := 8) (v := .int (nI N)) C inlX1 hc0 rfl 0 (by decide) wF_X1_9 (fun _ h => h) rfl dX1_codeBehind_43 ?_
          refine r_imulN C dX1_codeBehind_46 ?_
          refine r_iload C dX1_codeBehind_47 0 rfl ?_
          refine r_iaddN C dX1_codeBehind_49 ?_
          refine r_callSN (As := [.ref (la + 2), .int (nI (o * N + w))]) C (c_X6_at_y (a := la + 2) (len := (fac N * N)) (f := f2) (i := o * N + w) hc1 (ix_lt ho hw) (by first | assumption | omega)) wZ_X1_60 wS_X6_at wN_X6 wC_X6_at hd_X6_at ⟨Nat.le_of_ble_eq_true rfl, Nat.le_of_ble_eq_true rfl⟩ rfl rfl (Nat.le_of_ble_eq_true rfl) dX1_codeBehind_50 ⟨(Nat.le_of_ble_eq_true rfl), (Nat.le_of_ble_eq_true rfl)⟩ (fun rv n2 σ2 hp => ?_)
          obtain ⟨rfl, rfl, rfl⟩ := hp
          refine V.eq (σ2 := σ) (n2 := n) (st2 := [.int (f2 (o * N + w)), .int (nI ((cdp N (tnO N o k) i) * 10))]) rfl rfl rfl rfl ?_
          refine V.top (y := nI (sz N o w)) (h2 _ hw) ?_
          refine r_iaddN C dX1_codeBehind_53 ?_
          refine V.top (y := nI (cdp N (tnO N o k) i * 10 + sz N o w)) (rfl) ?_
          refine r_istore_n (lv2 := [(3, .int (nI (cdp N (tnO N o k) i * 10 + sz N o w))), (5, .int (nI w)), (0, .ref la), (1, .int (nI o)), (2, .int (nI k)), (4, .int (nI i))]) C dX1_codeBehind_54 rfl (by decide) rfl ?_
          refine r_iinc (v := nI (i + 1)) (lv2 := [(4, .int (nI (i + 1))), (3, .int (nI (cdp N (tnO N o k) i * 10 + sz N o w))), (5, .int (nI w)), (0, .ref la), (1, .int (nI o)), (2, .int (nI k))]) C dX1_codeBehind_55 (k := 5) rfl (nI_add _ 1) (by decide) rfl ?_
          refine r_goto (tgt := 5) C dX1_codeBehind_58 (by decide) ?_
          refine V.sub (lv2 := [(0, .ref la), (1, .int (nI o)), (2, .int (nI k)), (3, .int (nI (cdp N (tnO N o k) i * 10 + sz N o w))), (4, .int (nI (i + 1)))]) [3, 4, 5, 1, 0] rfl ?_
          refine V.eq (σ2 := σ) (lv2 := [(0, .ref la), (1, .int (nI o)), (2, .int (nI k)), (3, .int (nI (cdp N (tnO N o k) (i + 1)))), (4, .int (nI (i + 1)))]) (st2 := []) rfl rfl (by rw [(show nI (cdp N (tnO N o k) i * 10 + sz N o w) = nI (cdp N (tnO N o k) (i + 1)) from congrArg nI (by rw [cdp, hw2, Nat.mul_comm]))]) rfl ?_
          exact ih5 (i + 1) (by omega) (by omega)
        refine r_iload C dX1_codeBehind_14 4 rfl ?_
        refine r_iload_n C dX1_codeBehind_16 rfl 2 rfl ?_
        refine r_icmp_geN (tgt := 29) C dX1_codeBehind_17 (by decide) (by omega) (by omega) (fun c17 => ?_) (fun c17 => ?_)
        · refine r_iload C dX1_codeBehind_29 4 rfl ?_
          exact L31 i (by omega) (by rw [tnO_sz hL.2.1 ho hk (by omega)]; first | rw [if_pos c17] | rw [if_neg (Nat.not_lt.mpr c17)])
        · refine r_iload_n C dX1_codeBehind_20 rfl 2 rfl ?_
          refine r_iconst (v := nI 1) C dX1_codeBehind_21 (by decide) ?_
          refine r_isubN C dX1_codeBehind_22 (by omega) ?_
          refine r_iload C dX1_codeBehind_23 4 rfl ?_
          refine r_isubN C dX1_codeBehind_25 (by omega) ?_
          refine r_goto (tgt := 31) C dX1_codeBehind_26 (by decide) ?_
          exact L31 ((k - 1) - i) (by omega) (by rw [tnO_sz hL.2.1 ho hk (by omega)]; first | rw [if_pos c17] | rw [if_neg (Nat.not_lt.mpr c17)])
  refine V.sub (lv2 := [(0, .ref la), (1, .int (nI o)), (2, .int (nI k)), (3, .int (nI 0)), (4, .int (nI 0))]) [2, 3, 4, 1, 0] rfl ?_
  refine V.eq (σ2 := σ) (lv2 := [(0, .ref la), (1, .int (nI o)), (2, .int (nI k)), (3, .int (nI (cdp N (tnO N o k) 0))), (4, .int (nI 0))]) (st2 := []) rfl rfl rfl rfl ?_
  exact L5 _ 0 (by omega) (Nat.lt_succ_self _)
