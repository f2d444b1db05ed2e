theorem Vld_R {kd N sr r : Nat} (h : shOK kd N sr) (hr : r < rR (sid kd) N) : Vld kd N sr (oR (sid kd) N r) (sR (sid kd) N r) := ⟨h, oR_lt hr, sR_lt⟩
theorem oR_nx {sb : Bool} {N r m : Nat} (hN : N ≤ 6) (h : m ≤ N) : oR sb N (nx sb N r m) = tnO N (oR sb N r) m := oR_rk (tnS_lt hN sR_lt h)
theorem sR_nx {sb : Bool} {N r m : Nat} (hN : N ≤ 6) (h : m ≤ N) : sR sb N (nx sb N r m) = tnS sb (sR sb N r) m := sR_rk (tnS_lt hN sR_lt h)
theorem srp_eq {kd N sr q : Nat} (hv : Vld kd N sr (oR (sid kd) N q) (sR (sid kd) N q)) (h : q = 0) : srp N (oR (sid kd) N q) (sR (sid kd) N q) N = true := by
  rw [srt_iff hv, h]
  unfold oR sR
  split <;> simp
theorem srp_ne {kd N sr q : Nat} (hv : Vld kd N sr (oR (sid kd) N q) (sR (sid kd) N q)) (h : q ≠ 0) : srp N (oR (sid kd) N q) (sR (sid kd) N q) N = false := by
  rw [srt_iff hv]
  cases e : (oR (sid kd) N q == 0 && sR (sid kd) N q == 0) with
  | false => rfl
  | true =>
    simp at e
    refine absurd ?_ h
    rw [rk_R (sid kd) N q, e.1, e.2, rk]
    split <;> simp

abbrev rm_X4_simpleWay : Room := { frames := 4, cells := 0, slots := 0, locals := 89 }
set_option maxRecDepth 100000 in
set_option maxHeartbeats 4000000 in
theorem c_X4_simpleWay {l : Launch} {G : gG} {n : Nat} {σ : gS} {va sa la : Nat} {kd N sr cfl : Nat} {sv : Value} {tk wk : Bool} {f2 : Nat → Int32} {f3 : Nat → Int32} {f5 : Nat → Int32} {r w : Nat} (hc0 : σ va = some (.inr (4, [.ref sa, .ref la, .ref (va + 1), .int (bI tk), .ref (va + 2), .int (bI wk)]))) (hc1 : σ sa = some (.inr (2, [.int (nI kd), .int (nI sr), .int (nI N), .ref la, .ref (sa + 1), sv]))) (hc2 : σ (sa + 1) = some (aI G (rR (sid kd) N) f5)) (hc3 : σ la = some (.inr (1, [.int (nI N), .int (nI (rR (sid kd) N)), .int (nI (sbN (sid kd) N)), .int (nI (sm (sid kd) N - 1)), .ref (la + 1), .ref (la + 2), .ref (la + 3), .ref (la + 4)]))) (hc4 : σ (la + 2) = some (aI G (fac N * N) f2)) (hc5 : σ (la + 3) = some (aI G (rR (sid kd) N * N) f3)) (hL : LOK (sid kd) N) (hso : shOK kd N sr) (h5 : ∀ r, r < rR (sid kd) N → f5 r = nI (psR kd sr N r)) (h2 : ∀ o, o < fac N → ∀ j, j < N → f2 (o * N + j) = nI (sz N o j)) (h3 : ∀ r, r < rR (sid kd) N → ∀ k, 1 ≤ k → k ≤ N → f3 (r * N + k - 1) = nI (nx (sid kd) N r k)) (hrk : r < rR (sid kd) N) (hw : w ≤ 2) : GM l G yX4_simpleWay cX4_simpleWay 9 (some .int) rm_X4_simpleWay n σ [.ref va, .int (nI r), .int (nI w)] (fun rv n2 σ2 => some (.int (smA kd N sr (oR (sid kd) N r) (sR (sid kd) N r) w)) = rv ∧ n = n2 ∧ σ = σ2) := by
  refine GM.intro (by decide +kernel) (Nat.le_of_ble_eq_true rfl) (fun p e s m args below meth c C hr hlocks hname po hpo => ?_)
  have C : Cx p s m args c cX4_simpleWay 9 RX4 G := C
  have hb9 := hL.b
  have hv := Vld_R hso hrk
  refine r_iload_n C dX4_simpleWay_0 rfl 1 rfl ?_
  refine r_istore_n (lv2 := [(3, .int (nI r)), (0, .ref va), (1, .int (nI r)), (2, .int (nI w))]) C dX4_simpleWay_1 rfl (by decide) rfl ?_
  refine r_iconst (v := nI 0) C dX4_simpleWay_2 (by decide) ?_
  refine r_istore (lv2 := [(4, .int (nI 0)), (3, .int (nI r)), (0, .ref va), (1, .int (nI r)), (2, .int (nI w))]) C dX4_simpleWay_3 (by decide) rfl ?_
  refine r_iconst (v := nI 0) C dX4_simpleWay_5 (by decide) ?_
  refine r_istore (lv2 := [(5, .int (nI 0)), (4, .int (nI 0)), (3, .int (nI r)), (0, .ref va), (1, .int (nI r)), (2, .int (nI w))]) C dX4_simpleWay_6 (by decide) rfl ?_
  refine r_iconst (v := nI 1) C dX4_simpleWay_8 (by decide) ?_
  refine r_istore (lv2 := [(6, .int (nI 1)), (5, .int (nI 0)), (4, .int (nI 0)), (3, .int (nI r)), (0, .ref va), (1, .int (nI r)), (2, .int (nI w))]) C dX4_simpleWay_9 (by decide) rfl ?_
  refine r_iconst (v := nI 0) C dX4_simpleWay_11 (by decide) ?_
  refine r_istore (lv2 := [(7, .int (nI 0)), (6, .int (nI 1)), (5, .int (nI 0)), (4, .int (nI 0)), (3, .int (nI r)), (0, .ref va), (1, .int (nI r)), (2, .int (nI w))]) C dX4_simpleWay_12 (by decide) rfl ?_
  have L14 : ∀ (fu : Nat) (q : Nat) (fu9 : Nat) (t : Nat) (wk9 : Nat) (b9 : Bool) (i : Nat), (q < rR (sid kd) N) → (Vld kd N sr (oR (sid kd) N q) (sR (sid kd) N q)) → (enough kd N (oR (sid kd) N q) (sR (sid kd) N q) fu9) → (i + fu9 = 22) → (t + (spw kd N sr fu9 (oR (sid kd) N q) (sR (sid kd) N q)).1 = (spw kd N sr 22 (oR (sid kd) N r) (sR (sid kd) N r)).1) → (wk9 + (spw kd N sr fu9 (oR (sid kd) N q) (sR (sid kd) N q)).2.1 = (spw kd N sr 22 (oR (sid kd) N r) (sR (sid kd) N r)).2.1) → ((b9 && (spw kd N sr fu9 (oR (sid kd) N q) (sR (sid kd) N q)).2.2) = (spw kd N sr 22 (oR (sid kd) N r) (sR (sid kd) N r)).2.2) → (fu9) < fu → V p l e rm_X4_simpleWay s m args below meth c G 9 (MQ below (gQ G po) args s rm_X4_simpleWay.cells rm_X4_simpleWay.slots (gF G)) 0 0 n σ 14 [(0, .ref va), (1, .int (nI r)), (2, .int (nI w)), (3, .int (nI q)), (4, .int (nI t)), (5, .int (nI wk9)), (6, .int (bI b9)), (7, .int (nI i))] [] := by
    intro fu
    induction fu with
    | zero => intro q fu9 t wk9 b9 i hq hv1 hen hfu ht hwk hbb hm; exact absurd hm (Nat.not_lt_zero _)
    | succ fu ih14 =>
      intro q fu9 t wk9 b9 i hq hv1 hen hfu ht hwk hbb hm14
      refine r_iload C dX4_simpleWay_14 7 rfl ?_
      refine r_bipush (v := nI 100) C dX4_simpleWay_16 (by decide) ?_
      refine r_icmp_geN (tgt := 78) C dX4_simpleWay_18 (by decide) (by omega) (by decide) (fun c18 => ?_) (fun c18 => ?_)
      · exact absurd c18 (by omega)
      · refine r_iload_n C dX4_simpleWay_21 rfl 3 rfl ?_
        refine r_if_eqN (tgt := 78) C dX4_simpleWay_22 (by decide) (by omega) (fun c22 => ?_) (fun c22 => ?_)
        · have hsr9 : srp N (oR (sid kd) N q) (sR (sid kd) N q) N = true := srp_eq hv1 c22
          rw [spw_t hsr9] at ht hwk hbb
          refine r_iload_n C dX4_simpleWay_78 rfl 2 rfl ?_
          refine r_iconst (v := nI 2) C dX4_simpleWay_79 (by decide) ?_
          refine r_icmp_neN (tgt := 86) C dX4_simpleWay_80 (by decide) (by omega) (by decide) (fun c80 => ?_) (fun c80 => ?_)
          · refine r_iload_n C dX4_simpleWay_86 rfl 2 rfl ?_
            refine r_iconst (v := nI 1) C dX4_simpleWay_87 (by decide) ?_
            refine r_icmp_neN (tgt := 96) C dX4_simpleWay_88 (by decide) (by omega) (by decide) (fun c88 => ?_) (fun c88 => ?_)
            · refine r_iload C dX4_simpleWay_96 4 rfl ?_
              exact r_iret C hr hlocks (Nat.le_of_ble_eq_true rfl) (Nat.le_of_ble_eq_true rfl) dX4_simpleWay_98 (hpo _ _ _ ⟨by first | (rw [show w = 0 by omega, smA]; rw [← ht]; rfl) | (rw [show w = 1 by omega, smA]; rw [← hwk]; rfl), rfl, rfl⟩)
            · refine r_iload C dX4_simpleWay_91 5 rfl ?_
              refine r_goto (tgt := 98) C dX4_simpleWay_93 (by decide) ?_
              exact r_iret C hr hlocks (Nat.le_of_ble_eq_true rfl) (Nat.le_of_ble_eq_true rfl) dX4_simpleWay_98 (hpo _ _ _ ⟨by first | (rw [show w = 0 by omega, smA]; rw [← ht]; rfl) | (rw [show w = 1 by omega, smA]; rw [← hwk]; rfl), rfl, rfl⟩)
          · refine r_iload C dX4_simpleWay_83 6 rfl ?_
            exact r_iret C hr hlocks (Nat.le_of_ble_eq_true rfl) (Nat.le_of_ble_eq_true rfl) dX4_simpleWay_85 (hpo _ _ _ ⟨by rw [c80]; show some (Value.int (bI (spw kd N sr 22 (oR (sid kd) N r) (sR (sid kd) N r)).2.2)) = some (Value.int (bI b9)); rw [← hbb, Bool.and_true], rfl, rfl⟩)
        · have hns : srp N (oR (sid kd) N q) (sR (sid kd) N q) N = false := srp_ne hv1 c22
          have hsm := smt_ok hv1 hns
          obtain ⟨w9, rfl, hen9⟩ := enough_s hv1 hns hen
          rw [spw_f hns] at ht hwk hbb
          refine r_aload_n C dX4_simpleWay_25 rfl 0 rfl ?_
          refine r_get (Cn := RX4) (T := TX4) (N := 6) (v := .ref la) C inlX4 hc0 rfl 1 (by decide) wF_X4_28 (fun _ h => h) rfl dX4_simpleWay_26 ?_
          refine r_iload_n C dX4_simpleWay_29 rfl 3 rfl ?_
          refine r_callV (As := [.int (nI q)]) C (c_X1_simpleTurn (la := la) (N := N) (cfl := cfl) (sb := (sid kd)) (f2 := f2) (r := q) hc3 hc4 (by first | assumption | omega) (by first | assumption | omega) (hq) (hns)) wM_X4_96 wI_X1_simpleTurn wN_X1 wC_X1_simpleTurn wV_X1_simpleTurn hd_X1_simpleTurn ⟨Nat.le_of_ble_eq_true rfl, Nat.le_of_ble_eq_true rfl⟩ rfl hc3 rfl rfl (Nat.le_of_ble_eq_true rfl) dX4_simpleWay_30 ⟨(Nat.le_of_ble_eq_true rfl), (Nat.le_of_ble_eq_true rfl)⟩ (fun rv n2 σ2 hp => ?_)
          obtain ⟨rfl, rfl, rfl⟩ := hp
          refine V.eq (σ2 := σ) (n2 := n) (st2 := [.int (nI (smt (sid kd) N (oR (sid kd) N q) (sR (sid kd) N q)))]) rfl rfl rfl rfl ?_
          refine r_istore (lv2 := [(8, .int (nI (smt (sid kd) N (oR (sid kd) N q) (sR (sid kd) N q)))), (0, .ref va), (1, .int (nI r)), (2, .int (nI w)), (3, .int (nI q)), (4, .int (nI t)), (5, .int (nI wk9)), (6, .int (bI b9)), (7, .int (nI i))]) C dX4_simpleWay_33 (by decide) rfl ?_
          refine r_aload_n C dX4_simpleWay_35 rfl 1 rfl ?_
          refine r_get (Cn := RX4) (T := TX4) (N := 6) (v := .ref sa) C inlX4 hc0 rfl 0 (by decide) wF_X4_18 (fun _ h => h) rfl dX4_simpleWay_36 ?_
          refine r_iload_n C dX4_simpleWay_39 rfl 4 rfl ?_
          refine r_iload C dX4_simpleWay_40 0 rfl ?_
          refine r_callV (As := [.int (nI q), .int (nI (smt (sid kd) N (oR (sid kd) N q) (sR (sid kd) N q)))]) C (c_X2_allows (sa := sa) (la := la) (kd := kd) (N := N) (sr := sr) (sv := sv) (f5 := f5) (r := q) (k := smt (sid kd) N (oR (sid kd) N q) (sR (sid kd) N q)) hc1 hc2 (by first | assumption | omega) (by first | assumption | omega) (hq) (by omega)) wM_X4_68 wI_X2_allows wN_X2 wC_X2_allows wV_X2_allows hd_X2_allows ⟨Nat.le_of_ble_eq_true rfl, Nat.le_of_ble_eq_true rfl⟩ rfl hc1 rfl rfl (Nat.le_of_ble_eq_true rfl) dX4_simpleWay_42 ⟨(Nat.le_of_ble_eq_true rfl), (Nat.le_of_ble_eq_true rfl)⟩ (fun rv n2 σ2 hp => ?_)
          obtain ⟨rfl, rfl, rfl⟩ := hp
          refine V.eq (σ2 := σ) (n2 := n) (st2 := [.int (bI (okR kd sr N q (smt (sid kd) N (oR (sid kd) N q) (sR (sid kd) N q))))]) rfl rfl rfl rfl ?_
          have L51 : ∀ (b8 : Bool), (b8 = (b9 && al kd sr N (oR (sid kd) N q) (sR (sid kd) N q) (smt (sid kd) N (oR (sid kd) N q) (sR (sid kd) N q)))) → V p l e rm_X4_simpleWay s m args below meth c G 9 (MQ below (gQ G po) args s rm_X4_simpleWay.cells rm_X4_simpleWay.slots (gF G)) 0 0 n σ 51 [(0, .ref va), (1, .int (nI r)), (2, .int (nI w)), (3, .int (nI q)), (4, .int (nI t)), (5, .int (nI wk9)), (6, .int (bI b8)), (7, .int (nI i)), (8, .int (nI (smt (sid kd) N (oR (sid kd) N q) (sR (sid kd) N q))))] [] := by
            intro b8 hb8
            refine r_iinc (v := nI (t + 1)) (lv2 := [(4, .int (nI (t + 1))), (0, .ref va), (1, .int (nI r)), (2, .int (nI w)), (3, .int (nI q)), (5, .int (nI wk9)), (6, .int (bI b8)), (7, .int (nI i)), (8, .int (nI (smt (sid kd) N (oR (sid kd) N q) (sR (sid kd) N q))))]) C dX4_simpleWay_51 (k := 4) rfl (nI_add _ 1) (by decide) rfl ?_
            refine r_iload C dX4_simpleWay_54 5 rfl ?_
            refine r_iload C dX4_simpleWay_56 8 rfl ?_
            refine r_iaddN C dX4_simpleWay_58 ?_
            refine r_istore (lv2 := [(5, .int (nI (wk9 + (smt (sid kd) N (oR (sid kd) N q) (sR (sid kd) N q))))), (4, .int (nI (t + 1))), (0, .ref va), (1, .int (nI r)), (2, .int (nI w)), (3, .int (nI q)), (6, .int (bI b8)), (7, .int (nI i)), (8, .int (nI (smt (sid kd) N (oR (sid kd) N q) (sR (sid kd) N q))))]) C dX4_simpleWay_59 (by decide) rfl ?_
            refine r_aload_n C dX4_simpleWay_61 rfl 2 rfl ?_
            refine r_get (Cn := RX4) (T := TX4) (N := 6) (v := .ref la) C inlX4 hc0 rfl 1 (by decide) wF_X4_28 (fun _ h => h) rfl dX4_simpleWay_62 ?_
            refine r_iload_n C dX4_simpleWay_65 rfl 5 rfl ?_
            refine r_iload C dX4_simpleWay_66 8 rfl ?_
            refine r_callV (As := [.int (nI q), .int (nI (smt (sid kd) N (oR (sid kd) N q) (sR (sid kd) N q)))]) C (c_X1_behind (la := la) (N := N) (cfl := cfl) (sb := (sid kd)) (f3 := f3) (r := q) (k := smt (sid kd) N (oR (sid kd) N q) (sR (sid kd) N q)) hc3 hc5 (by first | assumption | omega) (by first | assumption | omega) (hq) (hsm.1.1) (hsm.1.2)) wM_X4_62 wI_X1_behind wN_X1 wC_X1_behind wV_X1_behind hd_X1_behind ⟨Nat.le_of_ble_eq_true rfl, Nat.le_of_ble_eq_true rfl⟩ rfl hc3 rfl rfl (Nat.le_of_ble_eq_true rfl) dX4_simpleWay_68 ⟨(Nat.le_of_ble_eq_true rfl), (Nat.le_of_ble_eq_true rfl)⟩ (fun rv n2 σ2 hp => ?_)
            obtain ⟨rfl, rfl, rfl⟩ := hp
            refine V.eq (σ2 := σ) (n2 := n) (st2 := [.int (nI (nx (sid kd) N q (smt (sid kd) N (oR (sid kd) N q) (sR (sid kd) N q))))]) rfl rfl rfl rfl ?_
            refine r_istore_n (lv2 := [(3, .int (nI (nx (sid kd) N q (smt (sid kd) N (oR (sid kd) N q) (sR (sid kd) N q))))), (5, .int (nI (wk9 + (smt (sid kd) N (oR (sid kd) N q) (sR (sid kd) N q))))), (4, .int (nI (t + 1))), (0, .ref va), (1, .int (nI r)), (2, .int (nI w)), (6, .int (bI b8)), (7, .int (nI i)), (8, .int (nI (smt (sid kd) N (oR (sid kd) N q) (sR (sid kd) N q))))]) C dX4_simpleWay_71 rfl (by decide) rfl ?_
            refine r_iinc (v := nI (i + 1)) (lv2 := [(7, .int (nI (i + 1))), (3, .int (nI (nx (sid kd) N q (smt (sid kd) N (oR (sid kd) N q) (sR (sid kd) N q))))), (5, .int (nI (wk9 + (smt (sid kd) N (oR (sid kd) N q) (sR (sid kd) N q))))), (4, .int (nI (t + 1))), (0, .ref va), (1, .int (nI r)), (2, .int (nI w)), (6, .int (bI b8)), (8, .int (nI (smt (sid kd) N (oR (sid kd) N q) (sR (sid kd) N q))))]) C dX4_simpleWay_72 (k := 7) rfl (nI_add _ 1) (by decide) rfl ?_
            refine r_goto (tgt := 14) C dX4_simpleWay_75 (by decide) ?_
            refine V.sub (lv2 := [(0, .ref va), (1, .int (nI r)), (2, .int (nI w)), (3, .int (nI (nx (sid kd) N q (smt (sid kd) N (oR (sid kd) N q) (sR (sid kd) N q))))), (4, .int (nI (t + 1))), (5, .int (nI (wk9 + (smt (sid kd) N (oR (sid kd) N q) (sR (sid kd) N q))))), (6, .int (bI b8)), (7, .int (nI (i + 1)))]) [4, 5, 6, 1, 3, 2, 7, 0] rfl ?_
            exact ih14 (nx (sid kd) N q (smt (sid kd) N (oR (sid kd) N q) (sR (sid kd) N q))) w9 (t + 1) (wk9 + (smt (sid kd) N (oR (sid kd) N q) (sR (sid kd) N q))) b8 (i + 1) (nx_lt hL.2.1 hq hsm.1.2) (Vld_R hso (nx_lt hL.2.1 hq hsm.1.2)) (by rw [oR_nx hL.2.1 hsm.1.2, sR_nx hL.2.1 hsm.1.2]; exact hen9) (by omega) (by rw [oR_nx hL.2.1 hsm.1.2, sR_nx hL.2.1 hsm.1.2, ← ht, Nat.add_assoc, Nat.add_comm 1]; rfl) (by rw [oR_nx hL.2.1 hsm.1.2, sR_nx hL.2.1 hsm.1.2, ← hwk, Nat.add_assoc, Nat.add_comm (smt (sid kd) N (oR (sid kd) N q) (sR (sid kd) N q))]; rfl) (by rw [oR_nx hL.2.1 hsm.1.2, sR_nx hL.2.1 hsm.1.2, ← hbb, hb8, Bool.and_assoc]; rfl) (by omega)
          refine r_if_neB (tgt := 51) C dX4_simpleWay_45 (by decide) (fun c45 => ?_) (fun c45 => ?_)
          · refine V.sub (lv2 := [(0, .ref va), (1, .int (nI r)), (2, .int (nI w)), (3, .int (nI q)), (4, .int (nI t)), (5, .int (nI wk9)), (6, .int (bI b9)), (7, .int (nI i)), (8, .int (nI (smt (sid kd) N (oR (sid kd) N q) (sR (sid kd) N q))))]) [1, 2, 3, 4, 5, 6, 7, 8, 0] rfl ?_
            exact L51 b9 (by first | (rw [show al kd sr N (oR (sid kd) N q) (sR (sid kd) N q) (smt (sid kd) N (oR (sid kd) N q) (sR (sid kd) N q)) = true from okR_al c45, Bool.and_true]) | (rw [show al kd sr N (oR (sid kd) N q) (sR (sid kd) N q) (smt (sid kd) N (oR (sid kd) N q) (sR (sid kd) N q)) = false from okR_na c45 hsm.1, Bool.and_false]))
          · refine r_iconst (v := nI 0) C dX4_simpleWay_48 (by decide) ?_
            refine r_istore (lv2 := [(6, .int (nI 0)), (8, .int (nI (smt (sid kd) N (oR (sid kd) N q) (sR (sid kd) N q)))), (0, .ref va), (1, .int (nI r)), (2, .int (nI w)), (3, .int (nI q)), (4, .int (nI t)), (5, .int (nI wk9)), (7, .int (nI i))]) C dX4_simpleWay_49 (by decide) rfl ?_
            refine V.sub (lv2 := [(0, .ref va), (1, .int (nI r)), (2, .int (nI w)), (3, .int (nI q)), (4, .int (nI t)), (5, .int (nI wk9)), (6, .int (nI 0)), (7, .int (nI i)), (8, .int (nI (smt (sid kd) N (oR (sid kd) N q) (sR (sid kd) N q))))]) [2, 3, 4, 5, 6, 7, 0, 8, 1] rfl ?_
            refine V.eq (σ2 := σ) (lv2 := [(0, .ref va), (1, .int (nI r)), (2, .int (nI w)), (3, .int (nI q)), (4, .int (nI t)), (5, .int (nI wk9)), (6, .int (bI false)), (7, .int (nI i)), (8, .int (nI (smt (sid kd) N (oR (sid kd) N q) (sR (sid kd) N q))))]) (st2 := []) rfl rfl rfl rfl ?_
            exact L51 false (by first | (rw [show al kd sr N (oR (sid kd) N q) (sR (sid kd) N q) (smt (sid kd) N (oR (sid kd) N q) (sR (sid kd) N q)) = true from okR_al c45, Bool.and_true]) | (rw [show al kd sr N (oR (sid kd) N q) (sR (sid kd) N q) (smt (sid kd) N (oR (sid kd) N q) (sR (sid kd) N q)) = false from okR_na c45 hsm.1, Bool.and_false]))
  refine V.sub (lv2 := [(0, .ref va), (1, .int (nI r)), (2, .int (nI w)), (3, .int (nI r)), (4, .int (nI 0)), (5, .int (nI 0)), (6, .int (nI 1)), (7, .int (nI 0))]) [5, 6, 7, 4, 3, 2, 1, 0] rfl ?_
  refine V.eq (σ2 := σ) (lv2 := [(0, .ref va), (1, .int (nI r)), (2, .int (nI w)), (3, .int (nI r)), (4, .int (nI 0)), (5, .int (nI 0)), (6, .int (bI true)), (7, .int (nI 0))]) (st2 := []) rfl rfl rfl rfl ?_
  exact L14 _ r 22 0 0 true 0 (hrk) (hv) (enough_22 hv) (by omega) (by omega) (by omega) (Bool.true_and _) (Nat.lt_succ_self _)
