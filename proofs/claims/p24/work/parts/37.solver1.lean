theorem okR_n {kd sr N r k : Nat} (h : okR kd sr N r k = false) (h2 : 1 ≤ k ∧ k ≤ N) : ¬ aR1 kd sr N r k = true := by
  have := okR_na h h2
  rw [aR1, this]
  decide

abbrev rm_X4_countSorting_0 : Room := { frames := 2, cells := 0, slots := 0, locals := 42 }
set_option maxRecDepth 100000 in
set_option maxHeartbeats 4000000 in
theorem c_X4_countSorting_0 {l : Launch} {G : gG} {n : Nat} {σ : gS} {sa la : Nat} {kd N sr : Nat} {sv : Value} {f3 : Nat → Int32} {f4 : Nat → Int32} {f5 : Nat → Int32} {r cfl : Nat} (hc0 : σ sa = some (.inr (2, [.int (nI kd), .int (nI sr), .int (nI N), .ref la, .ref (sa + 1), sv]))) (hc1 : σ (sa + 1) = some (aI G (rR (sid kd) N) f5)) (hc2 : σ la = some (.inr (1, [.int (nI N), .int (nI (rR (sid kd) N)), .int (nI (sbN (sid kd) N)), .int (nI (sm (sid kd) N - 1)), .ref (la + 1), .ref (la + 2), .ref (la + 3), .ref (la + 4)]))) (hc3 : σ (la + 3) = some (aI G (rR (sid kd) N * N) f3)) (hc4 : σ (la + 4) = some (aI G (rR (sid kd) N) f4)) (hL : LOK (sid kd) N) (h5 : ∀ r, r < rR (sid kd) N → f5 r = nI (psR kd sr N r)) (h3 : ∀ r, r < rR (sid kd) N → ∀ k, 1 ≤ k → k ≤ N → f3 (r * N + k - 1) = nI (nx (sid kd) N r k)) (h4 : ∀ r, r < rR (sid kd) N → f4 r = nI (jw (sid kd) N r)) (hrk : r < rR (sid kd) N) : GM l G yX4_countSorting cX4_countSorting 5 (some .int) rm_X4_countSorting_0 n σ [.ref sa, .int (nI r), .int (nI 0)] (fun rv n2 σ2 => some (.int (nI (wy kd sr N 0 r))) = rv ∧ n = n2 ∧ σ = σ2) := by
  refine GM.intro (by decide +kernel) (Nat.le_of_ble_eq_true rfl) (fun p e s m args below meth c C hr hlocks hname po hpo => ?_)
  have C : Cx p s m args c cX4_countSorting 5 RX4 G := C
  have hb9 := hL.b
  have hg6 : gp (sid kd) N (oR (sid kd) N r) (sR (sid kd) N r) ≤ 6 := gpR_le kd hL.2.1 r
  refine r_aload_n C dX4_countSorting_0 rfl 0 rfl ?_
  refine r_get (Cn := RX2) (T := TX2) (N := 6) (v := .ref la) C inlX2 hc0 rfl 3 (by decide) wF_X4_22 (fun _ h => h) rfl dX4_countSorting_1 ?_
  refine r_iload_n C dX4_countSorting_4 rfl 1 rfl ?_
  refine r_callV (As := [.int (nI r)]) C (c_X1_gaps (la := la) (N := N) (cfl := cfl) (sb := (sid kd)) (f4 := f4) (r := r) hc2 hc4 (by first | assumption | omega) (by first | assumption | omega) (by first | assumption | omega)) wM_X4_89 wI_X1_gaps wN_X1 wC_X1_gaps wV_X1_gaps hd_X1_gaps ⟨Nat.le_of_ble_eq_true rfl, Nat.le_of_ble_eq_true rfl⟩ rfl hc2 rfl rfl (Nat.le_of_ble_eq_true rfl) dX4_countSorting_5 ⟨(Nat.le_of_ble_eq_true rfl), (Nat.le_of_ble_eq_true rfl)⟩ (fun rv n2 σ2 hp => ?_)
  obtain ⟨rfl, rfl, rfl⟩ := hp
  refine V.eq (σ2 := σ) (n2 := n) (st2 := [.int (nI (gp (sid kd) N (oR (sid kd) N r) (sR (sid kd) N r)))]) rfl rfl rfl rfl ?_
  refine r_iload_n C dX4_countSorting_8 rfl 2 rfl ?_
  refine r_icmp_leN (tgt := 14) C dX4_countSorting_9 (by decide) (by omega) (by decide) (fun c9 => ?_) (fun c9 => ?_)
  · have hr0 := gp0_o hL.2.1 hrk (Nat.le_zero.mp c9)
    refine r_iload_n C dX4_countSorting_14 rfl 2 rfl ?_
    refine r_if_gtN (tgt := 20) C dX4_countSorting_15 (by decide) (by decide) (fun c15 => ?_) (fun c15 => ?_)
    · exact absurd c15 (by decide)
    · refine r_iconst (v := nI 1) C dX4_countSorting_18 (by decide) ?_
      exact r_iret C hr hlocks (Nat.le_of_ble_eq_true rfl) (Nat.le_of_ble_eq_true rfl) dX4_countSorting_19 (hpo _ _ _ ⟨by rw [hr0]; rfl, rfl, rfl⟩)
  · have hw0 := wy_gap (sr := sr) hL.2.1 0 r hrk c9
    refine r_iconst (v := nI 0) C dX4_countSorting_12 (by decide) ?_
    exact r_iret C hr hlocks (Nat.le_of_ble_eq_true rfl) (Nat.le_of_ble_eq_true rfl) dX4_countSorting_13 (hpo _ _ _ ⟨by rw [hw0], rfl, rfl⟩)

abbrev rm_X4_countSorting_1 : Room := { frames := 3, cells := 0, slots := 0, locals := 66 }
set_option maxRecDepth 100000 in
set_option maxHeartbeats 4000000 in
theorem c_X4_countSorting_1 {l : Launch} {G : gG} {n : Nat} {σ : gS} {sa la : Nat} {kd N sr : Nat} {sv : Value} {f3 : Nat → Int32} {f4 : Nat → Int32} {f5 : Nat → Int32} {r cfl : Nat} (hc0 : σ sa = some (.inr (2, [.int (nI kd), .int (nI sr), .int (nI N), .ref la, .ref (sa + 1), sv]))) (hc1 : σ (sa + 1) = some (aI G (rR (sid kd) N) f5)) (hc2 : σ la = some (.inr (1, [.int (nI N), .int (nI (rR (sid kd) N)), .int (nI (sbN (sid kd) N)), .int (nI (sm (sid kd) N - 1)), .ref (la + 1), .ref (la + 2), .ref (la + 3), .ref (la + 4)]))) (hc3 : σ (la + 3) = some (aI G (rR (sid kd) N * N) f3)) (hc4 : σ (la + 4) = some (aI G (rR (sid kd) N) f4)) (hL : LOK (sid kd) N) (h5 : ∀ r, r < rR (sid kd) N → f5 r = nI (psR kd sr N r)) (h3 : ∀ r, r < rR (sid kd) N → ∀ k, 1 ≤ k → k ≤ N → f3 (r * N + k - 1) = nI (nx (sid kd) N r k)) (h4 : ∀ r, r < rR (sid kd) N → f4 r = nI (jw (sid kd) N r)) (hrk : r < rR (sid kd) N) : GM l G yX4_countSorting cX4_countSorting 5 (some .int) rm_X4_countSorting_1 n σ [.ref sa, .int (nI r), .int (nI 1)] (fun rv n2 σ2 => some (.int (nI (wy kd sr N 1 r))) = rv ∧ n = n2 ∧ σ = σ2) := by
  refine GM.intro (by decide +kernel) (Nat.le_of_ble_eq_true rfl) (fun p e s m args below meth c C hr hlocks hname po hpo => ?_)
  have C : Cx p s m args c cX4_countSorting 5 RX4 G := C
  have hb9 := hL.b
  have hg6 : gp (sid kd) N (oR (sid kd) N r) (sR (sid kd) N r) ≤ 6 := gpR_le kd hL.2.1 r
  refine r_aload_n C dX4_countSorting_0 rfl 0 rfl ?_
  refine r_get (Cn := RX2) (T := TX2) (N := 6) (v := .ref la) C inlX2 hc0 rfl 3 (by decide) wF_X4_22 (fun _ h => h) rfl dX4_countSorting_1 ?_
  refine r_iload_n C dX4_countSorting_4 rfl 1 rfl ?_
  refine r_callV (As := [.int (nI r)]) C (c_X1_gaps (la := la) (N := N) (cfl := cfl) (sb := (sid kd)) (f4 := f4) (r := r) hc2 hc4 (by first | assumption | omega) (by first | assumption | omega) (by first | assumption | omega)) wM_X4_89 wI_X1_gaps wN_X1 wC_X1_gaps wV_X1_gaps hd_X1_gaps ⟨Nat.le_of_ble_eq_true rfl, Nat.le_of_ble_eq_true rfl⟩ rfl hc2 rfl rfl (Nat.le_of_ble_eq_true rfl) dX4_countSorting_5 ⟨(Nat.le_of_ble_eq_true rfl), (Nat.le_of_ble_eq_true rfl)⟩ (fun rv n2 σ2 hp => ?_)
  obtain ⟨rfl, rfl, rfl⟩ := hp
  refine V.eq (σ2 := σ) (n2 := n) (st2 := [.int (nI (gp (sid kd) N (oR (sid kd) N r) (sR (sid kd) N r)))]) rfl rfl rfl rfl ?_
  refine r_iload_n C dX4_countSorting_8 rfl 2 rfl ?_
  refine r_icmp_leN (tgt := 14) C dX4_countSorting_9 (by decide) (by omega) (by decide) (fun c9 => ?_) (fun c9 => ?_)
  · refine r_iload_n C dX4_countSorting_14 rfl 2 rfl ?_
    refine r_if_gtN (tgt := 20) C dX4_countSorting_15 (by decide) (by decide) (fun c15 => ?_) (fun c15 => ?_)
    · refine r_iconst (v := nI 0) C dX4_countSorting_20 (by decide) ?_
      refine r_istore_n (lv2 := [(3, .int (nI 0)), (0, .ref sa), (1, .int (nI r)), (2, .int (nI 1))]) C dX4_countSorting_21 rfl (by decide) rfl ?_
      refine r_iconst (v := nI 1) C dX4_countSorting_22 (by decide) ?_
      refine r_istore (lv2 := [(4, .int (nI 1)), (3, .int (nI 0)), (0, .ref sa), (1, .int (nI r)), (2, .int (nI 1))]) C dX4_countSorting_23 (by decide) rfl ?_
      have L25 : ∀ (fu : Nat) (i : Nat), (i ≤ N) → (N + 1 - i) < fu → V p l e rm_X4_countSorting_1 s m args below meth c G 5 (MQ below (gQ G po) args s rm_X4_countSorting_1.cells rm_X4_countSorting_1.slots (gF G)) 0 0 n σ 25 [(0, .ref sa), (1, .int (nI r)), (2, .int (nI 1)), (3, .int (nI (wyp kd sr N 0 r i))), (4, .int (nI (i + 1)))] [] := by
        intro fu
        induction fu with
        | zero => intro i hi hm; exact absurd hm (Nat.not_lt_zero _)
        | succ fu ih25 =>
          intro i hi hm25
          refine r_iload C dX4_countSorting_25 4 rfl ?_
          refine r_aload_n C dX4_countSorting_27 rfl 0 rfl ?_
          refine r_get (Cn := RX2) (T := TX2) (N := 6) (v := .int (nI N)) C inlX2 hc0 rfl 2 (by decide) wF_X4_65 (fun _ h => h) rfl dX4_countSorting_28 ?_
          refine r_icmp_gtN (tgt := 70) C dX4_countSorting_31 (by decide) (by omega) (by omega) (fun c31 => ?_) (fun c31 => ?_)
          · have hiN : i = N := by omega
            refine r_iload_n C dX4_countSorting_70 rfl 3 rfl ?_
            exact r_iret C hr hlocks (Nat.le_of_ble_eq_true rfl) (Nat.le_of_ble_eq_true rfl) dX4_countSorting_71 (hpo _ _ _ ⟨by rw [hiN, wy_s], rfl, rfl⟩)
          · refine r_aload_n C dX4_countSorting_34 rfl 0 rfl ?_
            refine r_iload_n C dX4_countSorting_35 rfl 1 rfl ?_
            refine r_iload C dX4_countSorting_36 4 rfl ?_
            refine r_callV (As := [.int (nI r), .int (nI (i + 1))]) C (c_X2_allows (sa := sa) (la := la) (kd := kd) (N := N) (sr := sr) (sv := sv) (f5 := f5) (r := r) (k := i + 1) hc0 hc1 (by first | assumption | omega) (by first | assumption | omega) (by first | assumption | omega) (by omega)) wM_X4_68 wI_X2_allows wN_X2 wC_X2_allows wV_X2_allows hd_X2_allows ⟨Nat.le_of_ble_eq_true rfl, Nat.le_of_ble_eq_true rfl⟩ rfl hc0 rfl rfl (Nat.le_of_ble_eq_true rfl) dX4_countSorting_38 ⟨(Nat.le_of_ble_eq_true rfl), (Nat.le_of_ble_eq_true rfl)⟩ (fun rv n2 σ2 hp => ?_)
            obtain ⟨rfl, rfl, rfl⟩ := hp
            refine V.eq (σ2 := σ) (n2 := n) (st2 := [.int (bI (okR kd sr N r (i + 1)))]) rfl rfl rfl rfl ?_
            refine r_if_eqB (tgt := 64) C dX4_countSorting_41 (by decide) (fun c41 => ?_) (fun c41 => ?_)
            · refine r_iinc (v := nI (i + 2)) (lv2 := [(4, .int (nI (i + 2))), (0, .ref sa), (1, .int (nI r)), (2, .int (nI 1)), (3, .int (nI (wyp kd sr N 0 r i)))]) C dX4_countSorting_64 (k := 4) rfl (nI_add _ 1) (by decide) rfl ?_
              refine r_goto (tgt := 25) C dX4_countSorting_67 (by decide) ?_
              refine V.sub (lv2 := [(0, .ref sa), (1, .int (nI r)), (2, .int (nI 1)), (3, .int (nI (wyp kd sr N 0 r i))), (4, .int (nI (i + 2)))]) [1, 2, 3, 4, 0] rfl ?_
              refine V.eq (σ2 := σ) (lv2 := [(0, .ref sa), (1, .int (nI r)), (2, .int (nI 1)), (3, .int (nI (wyp kd sr N 0 r (i + 1)))), (4, .int (nI ((i + 1) + 1)))]) (st2 := []) rfl rfl (by rw [(show nI (wyp kd sr N 0 r i) = nI (wyp kd sr N 0 r (i + 1)) from by first | (rw [wyp, if_pos (show aR1 kd sr N r (i + 1) = true from okR_al c41)]; done) | (rw [wyp, if_neg (okR_n c41 (by omega))]; rfl)), (show nI (i + 2) = nI ((i + 1) + 1) from rfl)]) rfl ?_
              exact ih25 (i + 1) (by omega) (by omega)
            · refine r_iload_n C dX4_countSorting_44 rfl 3 rfl ?_
              refine r_aload_n C dX4_countSorting_45 rfl 0 rfl ?_
              refine r_aload_n C dX4_countSorting_46 rfl 0 rfl ?_
              refine r_get (Cn := RX2) (T := TX2) (N := 6) (v := .ref la) C inlX2 hc0 rfl 3 (by decide) wF_X4_22 (fun _ h => h) rfl dX4_countSorting_47 ?_
              refine r_iload_n C dX4_countSorting_50 rfl 1 rfl ?_
              refine r_iload C dX4_countSorting_51 4 rfl ?_
              refine r_callV (As := [.int (nI r), .int (nI (i + 1))]) C (c_X1_behind (la := la) (N := N) (cfl := cfl) (sb := (sid kd)) (f3 := f3) (r := r) (k := i + 1) hc2 hc3 (by first | assumption | omega) (by first | assumption | omega) (by first | assumption | omega) (by first | assumption | omega) (by first | assumption | omega)) wM_X4_62 wI_X1_behind wN_X1 wC_X1_behind wV_X1_behind hd_X1_behind ⟨Nat.le_of_ble_eq_true rfl, Nat.le_of_ble_eq_true rfl⟩ rfl hc2 rfl rfl (Nat.le_of_ble_eq_true rfl) dX4_countSorting_53 ⟨(Nat.le_of_ble_eq_true rfl), (Nat.le_of_ble_eq_true rfl)⟩ (fun rv n2 σ2 hp => ?_)
              obtain ⟨rfl, rfl, rfl⟩ := hp
              refine V.eq (σ2 := σ) (n2 := n) (st2 := [.int (nI (nx (sid kd) N r (i + 1))), .ref sa, .int (nI (wyp kd sr N 0 r i))]) rfl rfl rfl rfl ?_
              refine r_iload_n C dX4_countSorting_56 rfl 2 rfl ?_
              refine r_iconst (v := nI 1) C dX4_countSorting_57 (by decide) ?_
              refine r_isubE (v := nI 0) C dX4_countSorting_58 (by decide) ?_
              refine r_callS (As := [.ref sa, .int (nI (nx (sid kd) N r (i + 1))), .int (nI 0)]) C (c_X4_countSorting_0 (sa := sa) (la := la) (kd := kd) (N := N) (sr := sr) (sv := sv) (f3 := f3) (f4 := f4) (f5 := f5) (r := nx (sid kd) N r (i + 1)) (cfl := cfl) hc0 hc1 hc2 hc3 hc4 (by first | assumption | omega) (by first | assumption | omega) (by first | assumption | omega) (by first | assumption | omega) (nx_lt hL.2.1 hrk (by omega))) wM_X4_85 wS_X4_countSorting wN_X4 wC_X4_countSorting hd_X4_countSorting ⟨Nat.le_of_ble_eq_true rfl, Nat.le_of_ble_eq_true rfl⟩ rfl rfl (Nat.le_of_ble_eq_true rfl) dX4_countSorting_59 ⟨(Nat.le_of_ble_eq_true rfl), (Nat.le_of_ble_eq_true rfl)⟩ (fun rv n2 σ2 hp => ?_)
              obtain ⟨rfl, rfl, rfl⟩ := hp
              refine V.eq (σ2 := σ) (n2 := n) (st2 := [.int (nI (wy kd sr N 0 (nx (sid kd) N r (i + 1)))), .int (nI (wyp kd sr N 0 r i))]) rfl rfl rfl rfl ?_
              refine r_iaddN C dX4_countSorting_62 ?_
              refine r_istore_n (lv2 := [(3, .int (nI (wyp kd sr N 0 r i + (wy kd sr N 0 (nx (sid kd) N r (i + 1)))))), (0, .ref sa), (1, .int (nI r)), (2, .int (nI 1)), (4, .int (nI (i + 1)))]) C dX4_countSorting_63 rfl (by decide) rfl ?_
              refine r_iinc (v := nI (i + 2)) (lv2 := [(4, .int (nI (i + 2))), (3, .int (nI (wyp kd sr N 0 r i + (wy kd sr N 0 (nx (sid kd) N r (i + 1)))))), (0, .ref sa), (1, .int (nI r)), (2, .int (nI 1))]) C dX4_countSorting_64 (k := 4) rfl (nI_add _ 1) (by decide) rfl ?_
              refine r_goto (tgt := 25) C dX4_countSorting_67 (by decide) ?_
              refine V.sub (lv2 := [(0, .ref sa), (1, .int (nI r)), (2, .int (nI 1)), (3, .int (nI (wyp kd sr N 0 r i + (wy kd sr N 0 (nx (sid kd) N r (i + 1)))))), (4, .int (nI (i + 2)))]) [2, 3, 4, 1, 0] rfl ?_
              refine V.eq (σ2 := σ) (lv2 := [(0, .ref sa), (1, .int (nI r)), (2, .int (nI 1)), (3, .int (nI (wyp kd sr N 0 r (i + 1)))), (4, .int (nI ((i + 1) + 1)))]) (st2 := []) rfl rfl (by rw [(show nI (wyp kd sr N 0 r i + (wy kd sr N 0 (nx (sid kd) N r (i + 1)))) = nI (wyp kd sr N 0 r (i + 1)) from by first | (rw [wyp, if_pos (show aR1 kd sr N r (i + 1) = true from okR_al c41)]; done) | (rw [wyp, if_neg (okR_n c41 (by omega))]; rfl)), (show nI (i + 2) = nI ((i + 1) + 1) from rfl)]) rfl ?_
              exact ih25 (i + 1) (by omega) (by omega)
      refine V.sub (lv2 := [(0, .ref sa), (1, .int (nI r)), (2, .int (nI 1)), (3, .int (nI 0)), (4, .int (nI 1))]) [2, 3, 4, 1, 0] rfl ?_
      refine V.eq (σ2 := σ) (lv2 := [(0, .ref sa), (1, .int (nI r)), (2, .int (nI 1)), (3, .int (nI (wyp kd sr N 0 r 0))), (4, .int (nI (0 + 1)))]) (st2 := []) rfl rfl rfl rfl ?_
      exact L25 _ 0 (by omega) (Nat.lt_succ_self _)
    · exact absurd c15 (by decide)
  · have hw0 := wy_gap (sr := sr) hL.2.1 1 r hrk c9
    refine r_iconst (v := nI 0) C dX4_countSorting_12 (by decide) ?_
    exact r_iret C hr hlocks (Nat.le_of_ble_eq_true rfl) (Nat.le_of_ble_eq_true rfl) dX4_countSorting_13 (hpo _ _ _ ⟨by rw [hw0], rfl, rfl⟩)

abbrev rm_X4_countSorting_2 : Room := { frames := 4, cells := 0, slots := 0, locals := 90 }
set_option maxRecDepth 100000 in
set_option maxHeartbeats 4000000 in
theorem c_X4_countSorting_2 {l : Launch} {G : gG} {n : Nat} {σ : gS} {sa la : Nat} {kd N sr : Nat} {sv : Value} {f3 : Nat → Int32} {f4 : Nat → Int32} {f5 : Nat → Int32} {r cfl : Nat} (hc0 : σ sa = some (.inr (2, [.int (nI kd), .int (nI sr), .int (nI N), .ref la, .ref (sa + 1), sv]))) (hc1 : σ (sa + 1) = some (aI G (rR (sid kd) N) f5)) (hc2 : σ la = some (.inr (1, [.int (nI N), .int (nI (rR (sid kd) N)), .int (nI (sbN (sid kd) N)), .int (nI (sm (sid kd) N - 1)), .ref (la + 1), .ref (la + 2), .ref (la + 3), .ref (la + 4)]))) (hc3 : σ (la + 3) = some (aI G (rR (sid kd) N * N) f3)) (hc4 : σ (la + 4) = some (aI G (rR (sid kd) N) f4)) (hL : LOK (sid kd) N) (h5 : ∀ r, r < rR (sid kd) N → f5 r = nI (psR kd sr N r)) (h3 : ∀ r, r < rR (sid kd) N → ∀ k, 1 ≤ k → k ≤ N → f3 (r * N + k - 1) = nI (nx (sid kd) N r k)) (h4 : ∀ r, r < rR (sid kd) N → f4 r = nI (jw (sid kd) N r)) (hrk : r < rR (sid kd) N) : GM l G yX4_countSorting cX4_countSorting 5 (some .int) rm_X4_countSorting_2 n σ [.ref sa, .int (nI r), .int (nI 2)] (fun rv n2 σ2 => some (.int (nI (wy kd sr N 2 r))) = rv ∧ n = n2 ∧ σ = σ2) := by
  refine GM.intro (by decide +kernel) (Nat.le_of_ble_eq_true rfl) (fun p e s m args below meth c C hr hlocks hname po hpo => ?_)
  have C : Cx p s m args c cX4_countSorting 5 RX4 G := C
  have hb9 := hL.b
  have hg6 : gp (sid kd) N (oR (sid kd) N r) (sR (sid kd) N r) ≤ 6 := gpR_le kd hL.2.1 r
  refine r_aload_n C dX4_countSorting_0 rfl 0 rfl ?_
  refine r_get (Cn := RX2) (T := TX2) (N := 6) (v := .ref la) C inlX2 hc0 rfl 3 (by decide) wF_X4_22 (fun _ h => h) rfl dX4_countSorting_1 ?_
  refine r_iload_n C dX4_countSorting_4 rfl 1 rfl ?_
  refine r_callV (As := [.int (nI r)]) C (c_X1_gaps (la := la) (N := N) (cfl := cfl) (sb := (sid kd)) (f4 := f4) (r := r) hc2 hc4 (by first | assumption | omega) (by first | assumption | omega) (by first | assumption | omega)) wM_X4_89 wI_X1_gaps wN_X1 wC_X1_gaps wV_X1_gaps hd_X1_gaps ⟨Nat.le_of_ble_eq_true rfl, Nat.le_of_ble_eq_true rfl⟩ rfl hc2 rfl rfl (Nat.le_of_ble_eq_true rfl) dX4_countSorting_5 ⟨(Nat.le_of_ble_eq_true rfl), (Nat.le_of_ble_eq_true rfl)⟩ (fun rv n2 σ2 hp => ?_)
  obtain ⟨rfl, rfl, rfl⟩ := hp
  refine V.eq (σ2 := σ) (n2 := n) (st2 := [.int (nI (gp (sid kd) N (oR (sid kd) N r) (sR (sid kd) N r)))]) rfl rfl rfl rfl ?_
  refine r_iload_n C dX4_countSorting_8 rfl 2 rfl ?_
  refine r_icmp_leN (tgt := 14) C dX4_countSorting_9 (by decide) (by omega) (by decide) (fun c9 => ?_) (fun c9 => ?_)
  · refine r_iload_n C dX4_countSorting_14 rfl 2 rfl ?_
    refine r_if_gtN (tgt := 20) C dX4_countSorting_15 (by decide) (by decide) (fun c15 => ?_) (fun c15 => ?_)
    · refine r_iconst (v := nI 0) C dX4_countSorting_20 (by decide) ?_
      refine r_istore_n (lv2 := [(3, .int (nI 0)), (0, .ref sa), (1, .int (nI r)), (2, .int (nI 2))]) C dX4_countSorting_21 rfl (by decide) rfl ?_
      refine r_iconst (v := nI 1) C dX4_countSorting_22 (by decide) ?_
      refine r_istore (lv2 := [(4, .int (nI 1)), (3, .int (nI 0)), (0, .ref sa), (1, .int (nI r)), (2, .int (nI 2))]) C dX4_countSorting_23 (by decide) rfl ?_
      have L25 : ∀ (fu : Nat) (i : Nat), (i ≤ N) → (N + 1 - i) < fu → V p l e rm_X4_countSorting_2 s m args below meth c G 5 (MQ below (gQ G po) args s rm_X4_countSorting_2.cells rm_X4_countSorting_2.slots (gF G)) 0 0 n σ 25 [(0, .ref sa), (1, .int (nI r)), (2, .int (nI 2)), (3, .int (nI (wyp kd sr N 1 r i))), (4, .int (nI (i + 1)))] [] := by
        intro fu
        induction fu with
        | zero => intro i hi hm; exact absurd hm (Nat.not_lt_zero _)
        | succ fu ih25 =>
          intro i hi hm25
          refine r_iload C dX4_countSorting_25 4 rfl ?_
          refine r_aload_n C dX4_countSorting_27 rfl 0 rfl ?_
          refine r_get (Cn := RX2) (T := TX2) (N := 6) (v := .int (nI N)) C inlX2 hc0 rfl 2 (by decide) wF_X4_65 (fun _ h => h) rfl dX4_countSorting_28 ?_
          refine r_icmp_gtN (tgt := 70) C dX4_countSorting_31 (by decide) (by omega) (by omega) (fun c31 => ?_) (fun c31 => ?_)
          · have hiN : i = N := by omega
            refine r_iload_n C dX4_countSorting_70 rfl 3 rfl ?_
            exact r_iret C hr hlocks (Nat.le_of_ble_eq_true rfl) (Nat.le_of_ble_eq_true rfl) dX4_countSorting_71 (hpo _ _ _ ⟨by rw [hiN, wy_s], rfl, rfl⟩)
          · refine r_aload_n C dX4_countSorting_34 rfl 0 rfl ?_
            refine r_iload_n C dX4_countSorting_35 rfl 1 rfl ?_
            refine r_iload C dX4_countSorting_36 4 rfl ?_
            refine r_callV (As := [.int (nI r), .int (nI (i + 1))]) C (c_X2_allows (sa := sa) (la := la) (kd := kd) (N := N) (sr := sr) (sv := sv) (f5 := f5) (r := r) (k := i + 1) hc0 hc1 (by first | assumption | omega) (by first | assumption | omega) (by first | assumption | omega) (by omega)) wM_X4_68 wI_X2_allows wN_X2 wC_X2_allows wV_X2_allows hd_X2_allows ⟨Nat.le_of_ble_eq_true rfl, Nat.le_of_ble_eq_true rfl⟩ rfl hc0 rfl rfl (Nat.le_of_ble_eq_true rfl) dX4_countSorting_38 ⟨(Nat.le_of_ble_eq_true rfl), (Nat.le_of_ble_eq_true rfl)⟩ (fun rv n2 σ2 hp => ?_)
            obtain ⟨rfl, rfl, rfl⟩ := hp
            refine V.eq (σ2 := σ) (n2 := n) (st2 := [.int (bI (okR kd sr N r (i + 1)))]) rfl rfl rfl rfl ?_
            refine r_if_eqB (tgt := 64) C dX4_countSorting_41 (by decide) (fun c41 => ?_) (fun c41 => ?_)
            · refine r_iinc (v := nI (i + 2)) (lv2 := [(4, .int (nI (i + 2))), (0, .ref sa), (1, .int (nI r)), (2, .int (nI 2)), (3, .int (nI (wyp kd sr N 1 r i)))]) C dX4_countSorting_64 (k := 4) rfl (nI_add _ 1) (by decide) rfl ?_
              refine r_goto (tgt := 25) C dX4_countSorting_67 (by decide) ?_
              refine V.sub (lv2 := [(0, .ref sa), (1, .int (nI r)), (2, .int (nI 2)), (3, .int (nI (wyp kd sr N 1 r i))), (4, .int (nI (i + 2)))]) [1, 2, 3, 4, 0] rfl ?_
              refine V.eq (σ2 := σ) (lv2 := [(0, .ref sa), (1, .int (nI r)), (2, .int (nI 2)), (3, .int (nI (wyp kd sr N 1 r (i + 1)))), (4, .int (nI ((i + 1) + 1)))]) (st2 := []) rfl rfl (by rw [(show nI (wyp kd sr N 1 r i) = nI (wyp kd sr N 1 r (i + 1)) from by first | (rw [wyp, if_pos (show aR1 kd sr N r (i + 1) = true from okR_al c41)]; done) | (rw [wyp, if_neg (okR_n c41 (by omega))]; rfl)), (show nI (i + 2) = nI ((i + 1) + 1) from rfl)]) rfl ?_
              exact ih25 (i + 1) (by omega) (by omega)
            · refine r_iload_n C dX4_countSorting_44 rfl 3 rfl ?_
              refine r_aload_n C dX4_countSorting_45 rfl 0 rfl ?_
              refine r_aload_n C dX4_countSorting_46 rfl 0 rfl ?_
              refine r_get (Cn := RX2) (T := TX2) (N := 6) (v := .ref la) C inlX2 hc0 rfl 3 (by decide) wF_X4_22 (fun _ h => h) rfl dX4_countSorting_47 ?_
              refine r_iload_n C dX4_countSorting_50 rfl 1 rfl ?_
              refine r_iload C dX4_countSorting_51 4 rfl ?_
              refine r_callV (As := [.int (nI r), .int (nI (i + 1))]) C (c_X1_behind (la := la) (N := N) (cfl := cfl) (sb := (sid kd)) (f3 := f3) (r := r) (k := i + 1) hc2 hc3 (by first | assumption | omega) (by first | assumption | omega) (by first | assumption | omega) (by first | assumption | omega) (by first | assumption | omega)) wM_X4_62 wI_X1_behind wN_X1 wC_X1_behind wV_X1_behind hd_X1_behind ⟨Nat.le_of_ble_eq_true rfl, Nat.le_of_ble_eq_true rfl⟩ rfl hc2 rfl rfl (Nat.le_of_ble_eq_true rfl) dX4_countSorting_53 ⟨(Nat.le_of_ble_eq_true rfl), (Nat.le_of_ble_eq_true rfl)⟩ (fun rv n2 σ2 hp => ?_)
              obtain ⟨rfl, rfl, rfl⟩ := hp
              refine V.eq (σ2 := σ) (n2 := n) (st2 := [.int (nI (nx (sid kd) N r (i + 1))), .ref sa, .int (nI (wyp kd sr N 1 r i))]) rfl rfl rfl rfl ?_
              refine r_iload_n C dX4_countSorting_56 rfl 2 rfl ?_
              refine r_iconst (v := nI 1) C dX4_countSorting_57 (by decide) ?_
              refine r_isubE (v := nI 1) C dX4_countSorting_58 (by decide) ?_
              refine r_callS (As := [.ref sa, .int (nI (nx (sid kd) N r (i + 1))), .int (nI 1)]) C (c_X4_countSorting_1 (sa := sa) (la := la) (kd := kd) (N := N) (sr := sr) (sv := sv) (f3 := f3) (f4 := f4) (f5 := f5) (r := nx (sid kd) N r (i + 1)) (cfl := cfl) hc0 hc1 hc2 hc3 hc4 (by first | assumption | omega) (by first | assumption | omega) (by first | assumption | omega) (by first | assumption | omega) (nx_lt hL.2.1 hrk (by omega))) wM_X4_85 wS_X4_countSorting wN_X4 wC_X4_countSorting hd_X4_countSorting ⟨Nat.le_of_ble_eq_true rfl, Nat.le_of_ble_eq_true rfl⟩ rfl rfl (Nat.le_of_ble_eq_true rfl) dX4_countSorting_59 ⟨(Nat.le_of_ble_eq_true rfl), (Nat.le_of_ble_eq_true rfl)⟩ (fun rv n2 σ2 hp => ?_)
              obtain ⟨rfl, rfl, rfl⟩ := hp
              refine V.eq (σ2 := σ) (n2 := n) (st2 := [.int (nI (wy kd sr N 1 (nx (sid kd) N r (i + 1)))), .int (nI (wyp kd sr N 1 r i))]) rfl rfl rfl rfl ?_
              refine r_iaddN C dX4_countSorting_62 ?_
              refine r_istore_n (lv2 := [(3, .int (nI (wyp kd sr N 1 r i + (wy kd sr N 1 (nx (sid kd) N r (i + 1)))))), (0, .ref sa), (1, .int (nI r)), (2, .int (nI 2)), (4, .int (nI (i + 1)))]) C dX4_countSorting_63 rfl (by decide) rfl ?_
              refine r_iinc (v := nI (i + 2)) (lv2 := [(4, .int (nI (i + 2))), (3, .int (nI (wyp kd sr N 1 r i + (wy kd sr N 1 (nx (sid kd) N r (i + 1)))))), (0, .ref sa), (1, .int (nI r)), (2, .int (nI 2))]) C dX4_countSorting_64 (k := 4) rfl (nI_add _ 1) (by decide) rfl ?_
              refine r_goto (tgt := 25) C dX4_countSorting_67 (by decide) ?_
              refine V.sub (lv2 := [(0, .ref sa), (1, .int (nI r)), (2, .int (nI 2)), (3, .int (nI (wyp kd sr N 1 r i + (wy kd sr N 1 (nx (sid kd) N r (i + 1)))))), (4, .int (nI (i + 2)))]) [2, 3, 4, 1, 0] rfl ?_
              refine V.eq (σ2 := σ) (lv2 := [(0, .ref sa), (1, .int (nI r)), (2, .int (nI 2)), (3, .int (nI (wyp kd sr N 1 r (i + 1)))), (4, .int (nI ((i + 1) + 1)))]) (st2 := []) rfl rfl (by rw [(show nI (wyp kd sr N 1 r i + (wy kd sr N 1 (nx (sid kd) N r (i + 1)))) = nI (wyp kd sr N 1 r (i + 1)) from by first | (rw [wyp, if_pos (show aR1 kd sr N r (i + 1) = true from okR_al c41)]; done) | (rw [wyp, if_neg (okR_n c41 (by omega))]; rfl)), (show nI (i + 2) = nI ((i + 1) + 1) from rfl)]) rfl ?_
              exact ih25 (i + 1) (by omega) (by omega)
      refine V.sub (lv2 := [(0, .ref sa), (1, .int (nI r)), (2, .int (nI 2)), (3, .int (nI 0)), (4, .int (nI 1))]) [2, 3, 4, 1, 0] rfl ?_
      refine V.eq (σ2 := σ) (lv2 := [(0, .ref sa), (1, .int (nI r)), (2, .int (nI 2)), (3, .int (nI (wyp kd sr N 1 r 0))), (4, .int (nI (0 + 1)))]) (st2 := []) rfl rfl rfl rfl ?_
      exact L25 _ 0 (by omega) (Nat.lt_succ_self _)
    · exact absurd c15 (by decide)
  · have hw0 := wy_gap (sr := sr) hL.2.1 2 r hrk c9
    refine r_iconst (v := nI 0) C dX4_countSorting_12 (by decide) ?_
    exact r_iret C hr hlocks (Nat.le_of_ble_eq_true rfl) (Nat.le_of_ble_eq_true rfl) dX4_countSorting_13 (hpo _ _ _ ⟨by rw [hw0], rfl, rfl⟩)

abbrev rm_X4_countSorting_3 : Room := { frames := 5, cells := 0, slots := 0, locals := 114 }
set_option maxRecDepth 100000 in
set_option maxHeartbeats 4000000 in
theorem c_X4_countSorting_3 {l : Launch} {G : gG} {n : Nat} {σ : gS} {sa la : Nat} {kd N sr : Nat} {sv : Value} {f3 : Nat → Int32} {f4 : Nat → Int32} {f5 : Nat → Int32} {r cfl : Nat} (hc0 : σ sa = some (.inr (2, [.int (nI kd), .int (nI sr), .int (nI N), .ref la, .ref (sa + 1), sv]))) (hc1 : σ (sa + 1) = some (aI G (rR (sid kd) N) f5)) (hc2 : σ la = some (.inr (1, [.int (nI N), .int (nI (rR (sid kd) N)), .int (nI (sbN (sid kd) N)), .int (nI (sm (sid kd) N - 1)), .ref (la + 1), .ref (la + 2), .ref (la + 3), .ref (la + 4)]))) (hc3 : σ (la + 3) = some (aI G (rR (sid kd) N * N) f3)) (hc4 : σ (la + 4) = some (aI G (rR (sid kd) N) f4)) (hL : LOK (sid kd) N) (h5 : ∀ r, r < rR (sid kd) N → f5 r = nI (psR kd sr N r)) (h3 : ∀ r, r < rR (sid kd) N → ∀ k, 1 ≤ k → k ≤ N → f3 (r * N + k - 1) = nI (nx (sid kd) N r k)) (h4 : ∀ r, r < rR (sid kd) N → f4 r = nI (jw (sid kd) N r)) (hrk : r < rR (sid kd) N) : GM l G yX4_countSorting cX4_countSorting 5 (some .int) rm_X4_countSorting_3 n σ [.ref sa, .int (nI r), .int (nI 3)] (fun rv n2 σ2 => some (.int (nI (wy kd sr N 3 r))) = rv ∧ n = n2 ∧ σ = σ2) := by
  refine GM.intro (by decide +kernel) (Nat.le_of_ble_eq_true rfl) (fun p e s m args below meth c C hr hlocks hname po hpo => ?_)
  have C : Cx p s m args c cX4_countSorting 5 RX4 G := C
  have hb9 := hL.b
  have hg6 : gp (sid kd) N (oR (sid kd) N r) (sR (sid kd) N r) ≤ 6 := gpR_le kd hL.2.1 r
  refine r_aload_n C dX4_countSorting_0 rfl 0 rfl ?_
  refine r_get (Cn := RX2) (T := TX2) (N := 6) (v := .ref la) C inlX2 hc0 rfl 3 (by decide) wF_X4_22 (fun _ h => h) rfl dX4_countSorting_1 ?_
  refine r_iload_n C dX4_countSorting_4 rfl 1 rfl ?_
  refine r_callV (As := [.int (nI r)]) C (c_X1_gaps (la := la) (N := N) (cfl := cfl) (sb := (sid kd)) (f4 := f4) (r := r) hc2 hc4 (by first | assumption | omega) (by first | assumption | omega) (by first | assumption | omega)) wM_X4_89 wI_X1_gaps wN_X1 wC_X1_gaps wV_X1_gaps hd_X1_gaps ⟨Nat.le_of_ble_eq_true rfl, Nat.le_of_ble_eq_true rfl⟩ rfl hc2 rfl rfl (Nat.le_of_ble_eq_true rfl) dX4_countSorting_5 ⟨(Nat.le_of_ble_eq_true rfl), (Nat.le_of_ble_eq_true rfl)⟩ (fun rv n2 σ2 hp => ?_)
  obtain ⟨rfl, rfl, rfl⟩ := hp
  refine V.eq (σ2 := σ) (n2 := n) (st2 := [.int (nI (gp (sid kd) N (oR (sid kd) N r) (sR (sid kd) N r)))]) rfl rfl rfl rfl ?_
  refine r_iload_n C dX4_countSorting_8 rfl 2 rfl ?_
  refine r_icmp_leN (tgt := 14) C dX4_countSorting_9 (by decide) (by omega) (by decide) (fun c9 => ?_) (fun c9 => ?_)
  · refine r_iload_n C dX4_countSorting_14 rfl 2 rfl ?_
    refine r_if_gtN (tgt := 20) C dX4_countSorting_15 (by decide) (by decide) (fun c15 => ?_) (fun c15 => ?_)
    · refine r_iconst (v := nI 0) C dX4_countSorting_20 (by decide) ?_
      refine r_istore_n (lv2 := [(3, .int (nI 0)), (0, .ref sa), (1, .int (nI r)), (2, .int (nI 3))]) C dX4_countSorting_21 rfl (by decide) rfl ?_
      refine r_iconst (v := nI 1) C dX4_countSorting_22 (by decide) ?_
      refine r_istore (lv2 := [(4, .int (nI 1)), (3, .int (nI 0)), (0, .ref sa), (1, .int (nI r)), (2, .int (nI 3))]) C dX4_countSorting_23 (by decide) rfl ?_
      have L25 : ∀ (fu : Nat) (i : Nat), (i ≤ N) → (N + 1 - i) < fu → V p l e rm_X4_countSorting_3 s m args below meth c G 5 (MQ below (gQ G po) args s rm_X4_countSorting_3.cells rm_X4_countSorting_3.slots (gF G)) 0 0 n σ 25 [(0, .ref sa), (1, .int (nI r)), (2, .int (nI 3)), (3, .int (nI (wyp kd sr N 2 r i))), (4, .int (nI (i + 1)))] [] := by
        intro fu
        induction fu with
        | zero => intro i hi hm; exact absurd hm (Nat.not_lt_zero _)
        | succ fu ih25 =>
          intro i hi hm25
          refine r_iload C dX4_countSorting_25 4 rfl ?_
          refine r_aload_n C dX4_countSorting_27 rfl 0 rfl ?_
          refine r_get (Cn := RX2) (T := TX2) (N := 6) (v := .int (nI N)) C inlX2 hc0 rfl 2 (by decide) wF_X4_65 (fun _ h => h) rfl dX4_countSorting_28 ?_
          refine r_icmp_gtN (tgt := 70) C dX4_countSorting_31 (by decide) (by omega) (by omega) (fun c31 => ?_) (fun c31 => ?_)
          · have hiN : i = N := by omega
            refine r_iload_n C dX4_countSorting_70 rfl 3 rfl ?_
            exact r_iret C hr hlocks (Nat.le_of_ble_eq_true rfl) (Nat.le_of_ble_eq_true rfl) dX4_countSorting_71 (hpo _ _ _ ⟨by rw [hiN, wy_s], rfl, rfl⟩)
          · refine r_aload_n C dX4_countSorting_34 rfl 0 rfl ?_
            refine r_iload_n C dX4_countSorting_35 rfl 1 rfl ?_
            refine r_iload C dX4_countSorting_36 4 rfl ?_
            refine r_callV (As := [.int (nI r), .int (nI (i + 1))]) C (c_X2_allows (sa := sa) (la := la) (kd := kd) (N := N) (sr := sr) (sv := sv) (f5 := f5) (r := r) (k := i + 1) hc0 hc1 (by first | assumption | omega) (by first | assumption | omega) (by first | assumption | omega) (by omega)) wM_X4_68 wI_X2_allows wN_X2 wC_X2_allows wV_X2_allows hd_X2_allows ⟨Nat.le_of_ble_eq_true rfl, Nat.le_of_ble_eq_true rfl⟩ rfl hc0 rfl rfl (Nat.le_of_ble_eq_true rfl) dX4_countSorting_38 ⟨(Nat.le_of_ble_eq_true rfl), (Nat.le_of_ble_eq_true rfl)⟩ (fun rv n2 σ2 hp => ?_)
            obtain ⟨rfl, rfl, rfl⟩ := hp
            refine V.eq (σ2 := σ) (n2 := n) (st2 := [.int (bI (okR kd sr N r (i + 1)))]) rfl rfl rfl rfl ?_
            refine r_if_eqB (tgt := 64) C dX4_countSorting_41 (by decide) (fun c41 => ?_) (fun c41 => ?_)
            · refine r_iinc (v := nI (i + 2)) (lv2 := [(4, .int (nI (i + 2))), (0, .ref sa), (1, .int (nI r)), (2, .int (nI 3)), (3, .int (nI (wyp kd sr N 2 r i)))]) C dX4_countSorting_64 (k := 4) rfl (nI_add _ 1) (by decide) rfl ?_
              refine r_goto (tgt := 25) C dX4_countSorting_67 (by decide) ?_
              refine V.sub (lv2 := [(0, .ref sa), (1, .int (nI r)), (2, .int (nI 3)), (3, .int (nI (wyp kd sr N 2 r i))), (4, .int (nI (i + 2)))]) [1, 2, 3, 4, 0] rfl ?_
              refine V.eq (σ2 := σ) (lv2 := [(0, .ref sa), (1, .int (nI r)), (2, .int (nI 3)), (3, .int (nI (wyp kd sr N 2 r (i + 1)))), (4, .int (nI ((i + 1) + 1)))]) (st2 := []) rfl rfl (by rw [(show nI (wyp kd sr N 2 r i) = nI (wyp kd sr N 2 r (i + 1)) from by first | (rw [wyp, if_pos (show aR1 kd sr N r (i + 1) = true from okR_al c41)]; done) | (rw [wyp, if_neg (okR_n c41 (by omega))]; rfl)), (show nI (i + 2) = nI ((i + 1) + 1) from rfl)]) rfl ?_
              exact ih25 (i + 1) (by omega) (by omega)
            · refine r_iload_n C dX4_countSorting_44 rfl 3 rfl ?_
              refine r_aload_n C dX4_countSorting_45 rfl 0 rfl ?_
              refine r_aload_n C dX4_countSorting_46 rfl 0 rfl ?_
              refine r_get (Cn := RX2) (T := TX2) (N := 6) (v := .ref la) C inlX2 hc0 rfl 3 (by decide) wF_X4_22 (fun _ h => h) rfl dX4_countSorting_47 ?_
              refine r_iload_n C dX4_countSorting_50 rfl 1 rfl ?_
              refine r_iload C dX4_countSorting_51 4 rfl ?_
              refine r_callV (As := [.int (nI r), .int (nI (i + 1))]) C (c_X1_behind (la := la) (N := N) (cfl := cfl) (sb := (sid kd)) (f3 := f3) (r := r) (k := i + 1) hc2 hc3 (by first | assumption | omega) (by first | assumption | omega) (by first | assumption | omega) (by first | assumption | omega) (by first | assumption | omega)) wM_X4_62 wI_X1_behind wN_X1 wC_X1_behind wV_X1_behind hd_X1_behind ⟨Nat.le_of_ble_eq_true rfl, Nat.le_of_ble_eq_true rfl⟩ rfl hc2 rfl rfl (Nat.le_of_ble_eq_true rfl) dX4_countSorting_53 ⟨(Nat.le_of_ble_eq_true rfl), (Nat.le_of_ble_eq_true rfl)⟩ (fun rv n2 σ2 hp => ?_)
              obtain ⟨rfl, rfl, rfl⟩ := hp
              refine V.eq (σ2 := σ) (n2 := n) (st2 := [.int (nI (nx (sid kd) N r (i + 1))), .ref sa, .int (nI (wyp kd sr N 2 r i))]) rfl rfl rfl rfl ?_
              refine r_iload_n C dX4_countSorting_56 rfl 2 rfl ?_
              refine r_iconst (v := nI 1) C dX4_countSorting_57 (by decide) ?_
              refine r_isubE (v := nI 2) C dX4_countSorting_58 (by decide) ?_
              refine r_callS (As := [.ref sa, .int (nI (nx (sid kd) N r (i + 1))), .int (nI 2)]) C (c_X4_countSorting_2 (sa := sa) (la := la) (kd := kd) (N := N) (sr := sr) (sv := sv) (f3 := f3) (f4 := f4) (f5 := f5) (r := nx (sid kd) N r (i + 1)) (cfl := cfl) hc0 hc1 hc2 hc3 hc4 (by first | assumption | omega) (by first | assumption | omega) (by first | assumption | omega) (by first | assumption | omega) (nx_lt hL.2.1 hrk (by omega))) wM_X4_85 wS_X4_countSorting wN_X4 wC_X4_countSorting hd_X4_countSorting ⟨Nat.le_of_ble_eq_true rfl, Nat.le_of_ble_eq_true rfl⟩ rfl rfl (Nat.le_of_ble_eq_true rfl) dX4_countSorting_59 ⟨(Nat.le_of_ble_eq_true rfl), (Nat.le_of_ble_eq_true rfl)⟩ (fun rv n2 σ2 hp => ?_)
              obtain ⟨rfl, rfl, rfl⟩ := hp
              refine V.eq (σ2 := σ) (n2 := n) (st2 := [.int (nI (wy kd sr N 2 (nx (sid kd) N r (i + 1)))), .int (nI (wyp kd sr N 2 r i))]) rfl rfl rfl rfl ?_
              refine r_iaddN C dX4_countSorting_62 ?_
              refine r_istore_n (lv2 := [(3, .int (nI (wyp kd sr N 2 r i + (wy kd sr N 2 (nx (sid kd) N r (i + 1)))))), (0, .ref sa), (1, .int (nI r)), (2, .int (nI 3)), (4, .int (nI (i + 1)))]) C dX4_countSorting_63 rfl (by decide) rfl ?_
              refine r_iinc (v := nI (i + 2)) (lv2 := [(4, .int (nI (i + 2))), (3, .int (nI (wyp kd sr N 2 r i + (wy kd sr N 2 (nx (sid kd) N r (i + 1)))))), (0, .ref sa), (1, .int (nI r)), (2, .int (nI 3))]) C dX4_countSorting_64 (k := 4) rfl (nI_add _ 1) (by decide) rfl ?_
              refine r_goto (tgt := 25) C dX4_countSorting_67 (by decide) ?_
              refine V.sub (lv2 := [(0, .ref sa), (1, .int (nI r)), (2, .int (nI 3)), (3, .int (nI (wyp kd sr N 2 r i + (wy kd sr N 2 (nx (sid kd) N r (i + 1)))))), (4, .int (nI (i + 2)))]) [2, 3, 4, 1, 0] rfl ?_
              refine V.eq (σ2 := σ) (lv2 := [(0, .ref sa), (1, .int (nI r)), (2, .int (nI 3)), (3, .int (nI (wyp kd sr N 2 r (i + 1)))), (4, .int (nI ((i + 1) + 1)))]) (st2 := []) rfl rfl (by rw [(show nI (wyp kd sr N 2 r i + (wy kd sr N 2 (nx (sid kd) N r (i + 1)))) = nI (wyp kd sr N 2 r (i + 1)) from by first | (rw [wyp, if_pos (show aR1 kd sr N r (i + 1) = true from okR_al c41)]; done) | (rw [wyp, if_neg (okR_n c41 (by omega))]; rfl)), (show nI (i + 2) = nI ((i + 1) + 1) from rfl)]) rfl ?_
              exact ih25 (i + 1) (by omega) (by omega)
      refine V.sub (lv2 := [(0, .ref sa), (1, .int (nI r)), (2, .int (nI 3)), (3, .int (nI 0)), (4, .int (nI 1))]) [2, 3, 4, 1, 0] rfl ?_
      refine V.eq (σ2 := σ) (lv2 := [(0, .ref sa), (1, .int (nI r)), (2, .int (nI 3)), (3, .int (nI (wyp kd sr N 2 r 0))), (4, .int (nI (0 + 1)))]) (st2 := []) rfl rfl rfl rfl ?_
      exact L25 _ 0 (by omega) (Nat.lt_succ_self _)
    · exact absurd c15 (by decide)
  · have hw0 := wy_gap (sr := sr) hL.2.1 3 r hrk c9
    refine r_iconst (v := nI 0) C dX4_countSorting_12 (by decide) ?_
    exact r_iret C hr hlocks (Nat.le_of_ble_eq_true rfl) (Nat.le_of_ble_eq_true rfl) dX4_countSorting_13 (hpo _ _ _ ⟨by rw [hw0], rfl, rfl⟩)

abbrev rm_X4_countSorting_4 : Room := { frames := 6, cells := 0, slots := 0, locals := 138 }
set_option maxRecDepth 100000 in
set_option maxHeartbeats 4000000 in
theorem c_X4_countSorting_4 {l : Launch} {G : gG} {n : Nat} {σ : gS} {sa la : Nat} {kd N sr : Nat} {sv : Value} {f3 : Nat → Int32} {f4 : Nat → Int32} {f5 : Nat → Int32} {r cfl : Nat} (hc0 : σ sa = some (.inr (2, [.int (nI kd), .int (nI sr), .int (nI N), .ref la, .ref (sa + 1), sv]))) (hc1 : σ (sa + 1) = some (aI G (rR (sid kd) N) f5)) (hc2 : σ la = some (.inr (1, [.int (nI N), .int (nI (rR (sid kd) N)), .int (nI (sbN (sid kd) N)), .int (nI (sm (sid kd) N - 1)), .ref (la + 1), .ref (la + 2), .ref (la + 3), .ref (la + 4)]))) (hc3 : σ (la + 3) = some (aI G (rR (sid kd) N * N) f3)) (hc4 : σ (la + 4) = some (aI G (rR (sid kd) N) f4)) (hL : LOK (sid kd) N) (h5 : ∀ r, r < rR (sid kd) N → f5 r = nI (psR kd sr N r)) (h3 : ∀ r, r < rR (sid kd) N → ∀ k, 1 ≤ k → k ≤ N → f3 (r * N + k - 1) = nI (nx (sid kd) N r k)) (h4 : ∀ r, r < rR (sid kd) N → f4 r = nI (jw (sid kd) N r)) (hrk : r < rR (sid kd) N) : GM l G yX4_countSorting cX4_countSorting 5 (some .int) rm_X4_countSorting_4 n σ [.ref sa, .int (nI r), .int (nI 4)] (fun rv n2 σ2 => some (.int (nI (wy kd sr N 4 r))) = rv ∧ n = n2 ∧ σ = σ2) := by
  refine GM.intro (by decide +kernel) (Nat.le_of_ble_eq_true rfl) (fun p e s m args below meth c C hr hlocks hname po hpo => ?_)
  have C : Cx p s m args c cX4_countSorting 5 RX4 G := C
  have hb9 := hL.b
  have hg6 : gp (sid kd) N (oR (sid kd) N r) (sR (sid kd) N r) ≤ 6 := gpR_le kd hL.2.1 r
  refine r_aload_n C dX4_countSorting_0 rfl 0 rfl ?_
  refine r_get (Cn := RX2) (T := TX2) (N := 6) (v := .ref la) C inlX2 hc0 rfl 3 (by decide) wF_X4_22 (fun _ h => h) rfl dX4_countSorting_1 ?_
  refine r_iload_n C dX4_countSorting_4 rfl 1 rfl ?_
  refine r_callV (As := [.int (nI r)]) C (c_X1_gaps (la := la) (N := N) (cfl := cfl) (sb := (sid kd)) (f4 := f4) (r := r) hc2 hc4 (by first | assumption | omega) (by first | assumption | omega) (by first | assumption | omega)) wM_X4_89 wI_X1_gaps wN_X1 wC_X1_gaps wV_X1_gaps hd_X1_gaps ⟨Nat.le_of_ble_eq_true rfl, Nat.le_of_ble_eq_true rfl⟩ rfl hc2 rfl rfl (Nat.le_of_ble_eq_true rfl) dX4_countSorting_5 ⟨(Nat.le_of_ble_eq_true rfl), (Nat.le_of_ble_eq_true rfl)⟩ (fun rv n2 σ2 hp => ?_)
  obtain ⟨rfl, rfl, rfl⟩ := hp
  refine V.eq (σ2 := σ) (n2 := n) (st2 := [.int (nI (gp (sid kd) N (oR (sid kd) N r) (sR (sid kd) N r)))]) rfl rfl rfl rfl ?_
  refine r_iload_n C dX4_countSorting_8 rfl 2 rfl ?_
  refine r_icmp_leN (tgt := 14) C dX4_countSorting_9 (by decide) (by omega) (by decide) (fun c9 => ?_) (fun c9 => ?_)
  · refine r_iload_n C dX4_countSorting_14 rfl 2 rfl ?_
    refine r_if_gtN (tgt := 20) C dX4_countSorting_15 (by decide) (by decide) (fun c15 => ?_) (fun c15 => ?_)
    · refine r_iconst (v := nI 0) C dX4_countSorting_20 (by decide) ?_
      refine r_istore_n (lv2 := [(3, .int (nI 0)), (0, .ref sa), (1, .int (nI r)), (2, .int (nI 4))]) C dX4_countSorting_21 rfl (by decide) rfl ?_
      refine r_iconst (v := nI 1) C dX4_countSorting_22 (by decide) ?_
      refine r_istore (lv2 := [(4, .int (nI 1)), (3, .int (nI 0)), (0, .ref sa), (1, .int (nI r)), (2, .int (nI 4))]) C dX4_countSorting_23 (by decide) rfl ?_
      have L25 : ∀ (fu : Nat) (i : Nat), (i ≤ N) → (N + 1 - i) < fu → V p l e rm_X4_countSorting_4 s m args below meth c G 5 (MQ below (gQ G po) args s rm_X4_countSorting_4.cells rm_X4_countSorting_4.slots (gF G)) 0 0 n σ 25 [(0, .ref sa), (1, .int (nI r)), (2, .int (nI 4)), (3, .int (nI (wyp kd sr N 3 r i))), (4, .int (nI (i + 1)))] [] := by
        intro fu
        induction fu with
        | zero => intro i hi hm; exact absurd hm (Nat.not_lt_zero _)
        | succ fu ih25 =>
          intro i hi hm25
          refine r_iload C dX4_countSorting_25 4 rfl ?_
          refine r_aload_n C dX4_countSorting_27 rfl 0 rfl ?_
          refine r_get (Cn := RX2) (T := TX2) (N := 6) (v := .int (nI N)) C inlX2 hc0 rfl 2 (by decide) wF_X4_65 (fun _ h => h) rfl dX4_countSorting_28 ?_
          refine r_icmp_gtN (tgt := 70) C dX4_countSorting_31 (by decide) (by omega) (by omega) (fun c31 => ?_) (fun c31 => ?_)
          · have hiN : i = N := by omega
            refine r_iload_n C dX4_countSorting_70 rfl 3 rfl ?_
            exact r_iret C hr hlocks (Nat.le_of_ble_eq_true rfl) (Nat.le_of_ble_eq_true rfl) dX4_countSorting_71 (hpo _ _ _ ⟨by rw [hiN, wy_s], rfl, rfl⟩)
          · refine r_aload_n C dX4_countSorting_34 rfl 0 rfl ?_
            refine r_iload_n C dX4_countSorting_35 rfl 1 rfl ?_
            refine r_iload C dX4_countSorting_36 4 rfl ?_
            refine r_callV (As := [.int (nI r), .int (nI (i + 1))]) C (c_X2_allows (sa := sa) (la := la) (kd := kd) (N := N) (sr := sr) (sv := sv) (f5 := f5) (r := r) (k := i + 1) hc0 hc1 (by first | assumption | omega) (by first | assumption | omega) (by first | assumption | omega) (by omega)) wM_X4_68 wI_X2_allows wN_X2 wC_X2_allows wV_X2_allows hd_X2_allows ⟨Nat.le_of_ble_eq_true rfl, Nat.le_of_ble_eq_true rfl⟩ rfl hc0 rfl rfl (Nat.le_of_ble_eq_true rfl) dX4_countSorting_38 ⟨(Nat.le_of_ble_eq_true rfl), (Nat.le_of_ble_eq_true rfl)⟩ (fun rv n2 σ2 hp => ?_)
            obtain ⟨rfl, rfl, rfl⟩ := hp
            refine V.eq (σ2 := σ) (n2 := n) (st2 := [.int (bI (okR kd sr N r (i + 1)))]) rfl rfl rfl rfl ?_
            refine r_if_eqB (tgt := 64) C dX4_countSorting_41 (by decide) (fun c41 => ?_) (fun c41 => ?_)
            · refine r_iinc (v := nI (i + 2)) (lv2 := [(4, .int (nI (i + 2))), (0, .ref sa), (1, .int (nI r)), (2, .int (nI 4)), (3, .int (nI (wyp kd sr N 3 r i)))]) C dX4_countSorting_64 (k := 4) rfl (nI_add _ 1) (by decide) rfl ?_
              refine r_goto (tgt := 25) C dX4_countSorting_67 (by decide) ?_
              refine V.sub (lv2 := [(0, .ref sa), (1, .int (nI r)), (2, .int (nI 4)), (3, .int (nI (wyp kd sr N 3 r i))), (4, .int (nI (i + 2)))]) [1, 2, 3, 4, 0] rfl ?_
              refine V.eq (σ2 := σ) (lv2 := [(0, .ref sa), (1, .int (nI r)), (2, .int (nI 4)), (3, .int (nI (wyp kd sr N 3 r (i + 1)))), (4, .int (nI ((i + 1) + 1)))]) (st2 := []) rfl rfl (by rw [(show nI (wyp kd sr N 3 r i) = nI (wyp kd sr N 3 r (i + 1)) from by first | (rw [wyp, if_pos (show aR1 kd sr N r (i + 1) = true from okR_al c41)]; done) | (rw [wyp, if_neg (okR_n c41 (by omega))]; rfl)), (show nI (i + 2) = nI ((i + 1) + 1) from rfl)]) rfl ?_
              exact ih25 (i + 1) (by omega) (by omega)
            · refine r_iload_n C dX4_countSorting_44 rfl 3 rfl ?_
              refine r_aload_n C dX4_countSorting_45 rfl 0 rfl ?_
              refine r_aload_n C dX4_countSorting_46 rfl 0 rfl ?_
              refine r_get (Cn := RX2) (T := TX2) (N := 6) (v := .ref la) C inlX2 hc0 rfl 3 (by decide) wF_X4_22 (fun _ h => h) rfl dX4_countSorting_47 ?_
              refine r_iload_n C dX4_countSorting_50 rfl 1 rfl ?_
              refine r_iload C dX4_countSorting_51 4 rfl ?_
              refine r_callV (As := [.int (nI r), .int (nI (i + 1))]) C (c_X1_behind (la := la) (N := N) (cfl := cfl) (sb := (sid kd)) (f3 := f3) (r := r) (k := i + 1) hc2 hc3 (by first | assumption | omega) (by first | assumption | omega) (by first | assumption | omega) (by first | assumption | omega) (by first | assumption | omega)) wM_X4_62 wI_X1_behind wN_X1 wC_X1_behind wV_X1_behind hd_X1_behind ⟨Nat.le_of_ble_eq_true rfl, Nat.le_of_ble_eq_true rfl⟩ rfl hc2 rfl rfl (Nat.le_of_ble_eq_true rfl) dX4_countSorting_53 ⟨(Nat.le_of_ble_eq_true rfl), (Nat.le_of_ble_eq_true rfl)⟩ (fun rv n2 σ2 hp => ?_)
              obtain ⟨rfl, rfl, rfl⟩ := hp
              refine V.eq (σ2 := σ) (n2 := n) (st2 := [.int (nI (nx (sid kd) N r (i + 1))), .ref sa, .int (nI (wyp kd sr N 3 r i))]) rfl rfl rfl rfl ?_
              refine r_iload_n C dX4_countSorting_56 rfl 2 rfl ?_
              refine r_iconst (v := nI 1) C dX4_countSorting_57 (by decide) ?_
              refine r_isubE (v := nI 3) C dX4_countSorting_58 (by decide) ?_
              refine r_callS (As := [.ref sa, .int (nI (nx (sid kd) N r (i + 1))), .int (nI 3)]) C (c_X4_countSorting_3 (sa := sa) (la := la) (kd := kd) (N := N) (sr := sr) (sv := sv) (f3 := f3) (f4 := f4) (f5 := f5) (r := nx (sid kd) N r (i + 1)) (cfl := cfl) hc0 hc1 hc2 hc3 hc4 (by first | assumption | omega) (by first | assumption | omega) (by first | assumption | omega) (by first | assumption | omega) (nx_lt hL.2.1 hrk (by omega))) wM_X4_85 wS_X4_countSorting wN_X4 wC_X4_countSorting hd_X4_countSorting ⟨Nat.le_of_ble_eq_true rfl, Nat.le_of_ble_eq_true rfl⟩ rfl rfl (Nat.le_of_ble_eq_true rfl) dX4_countSorting_59 ⟨(Nat.le_of_ble_eq_true rfl), (Nat.le_of_ble_eq_true rfl)⟩ (fun rv n2 σ2 hp => ?_)
              obtain ⟨rfl, rfl, rfl⟩ := hp
              refine V.eq (σ2 := σ) (n2 := n) (st2 := [.int (nI (wy kd sr N 3 (nx (sid kd) N r (i + 1)))), .int (nI (wyp kd sr N 3 r i))]) rfl rfl rfl rfl ?_
              refine r_iaddN C dX4_countSorting_62 ?_
              refine r_istore_n (lv2 := [(3, .int (nI (wyp kd sr N 3 r i + (wy kd sr N 3 (nx (sid kd) N r (i + 1)))))), (0, .ref sa), (1, .int (nI r)), (2, .int (nI 4)), (4, .int (nI (i + 1)))]) C dX4_countSorting_63 rfl (by decide) rfl ?_
              refine r_iinc (v := nI (i + 2)) (lv2 := [(4, .int (nI (i + 2))), (3, .int (nI (wyp kd sr N 3 r i + (wy kd sr N 3 (nx (sid kd) N r (i + 1)))))), (0, .ref sa), (1, .int (nI r)), (2, .int (nI 4))]) C dX4_countSorting_64 (k := 4) rfl (nI_add _ 1) (by decide) rfl ?_
              refine r_goto (tgt := 25) C dX4_countSorting_67 (by decide) ?_
              refine V.sub (lv2 := [(0, .ref sa), (1, .int (nI r)), (2, .int (nI 4)), (3, .int (nI (wyp kd sr N 3 r i + (wy kd sr N 3 (nx (sid kd) N r (i + 1)))))), (4, .int (nI (i + 2)))]) [2, 3, 4, 1, 0] rfl ?_
              refine V.eq (σ2 := σ) (lv2 := [(0, .ref sa), (1, .int (nI r)), (2, .int (nI 4)), (3, .int (nI (wyp kd sr N 3 r (i + 1)))), (4, .int (nI ((i + 1) + 1)))]) (st2 := []) rfl rfl (by rw [(show nI (wyp kd sr N 3 r i + (wy kd sr N 3 (nx (sid kd) N r (i + 1)))) = nI (wyp kd sr N 3 r (i + 1)) from by first | (rw [wyp, if_pos (show aR1 kd sr N r (i + 1) = true from okR_al c41)]; done) | (rw [wyp, if_neg (okR_n c41 (by omega))]; rfl)), (show nI (i + 2) = nI ((i + 1) + 1) from rfl)]) rfl ?_
              exact ih25 (i + 1) (by omega) (by omega)
      refine V.sub (lv2 := [(0, .ref sa), (1, .int (nI r)), (2, .int (nI 4)), (3, .int (nI 0)), (4, .int (nI 1))]) [2, 3, 4, 1, 0] rfl ?_
      refine V.eq (σ2 := σ) (lv2 := [(0, .ref sa), (1, .int (nI r)), (2, .int (nI 4)), (3, .int (nI (wyp kd sr N 3 r 0))), (4, .int (nI (0 + 1)))]) (st2 := []) rfl rfl rfl rfl ?_
      exact L25 _ 0 (by omega) (Nat.lt_succ_self _)
    · exact absurd c15 (by decide)
  · have hw0 := wy_gap (sr := sr) hL.2.1 4 r hrk c9
    refine r_iconst (v := nI 0) C dX4_countSorting_12 (by decide) ?_
    exact r_iret C hr hlocks (Nat.le_of_ble_eq_true rfl) (Nat.le_of_ble_eq_true rfl) dX4_countSorting_13 (hpo _ _ _ ⟨by rw [hw0], rfl, rfl⟩)

abbrev rm_X4_countSorting_5 : Room := { frames := 7, cells := 0, slots := 0, locals := 162 }
set_option maxRecDepth 100000 in
set_option maxHeartbeats 4000000 in
theorem c_X4_countSorting_5 {l : Launch} {G : gG} {n : Nat} {σ : gS} {sa la : Nat} {kd N sr : Nat} {sv : Value} {f3 : Nat → Int32} {f4 : Nat → Int32} {f5 : Nat → Int32} {r cfl : Nat} (hc0 : σ sa = some (.inr (2, [.int (nI kd), .int (nI sr), .int (nI N), .ref la, .ref (sa + 1), sv]))) (hc1 : σ (sa + 1) = some (aI G (rR (sid kd) N) f5)) (hc2 : σ la = some (.inr (1, [.int (nI N), .int (nI (rR (sid kd) N)), .int (nI (sbN (sid kd) N)), .int (nI (sm (sid kd) N - 1)), .ref (la + 1), .ref (la + 2), .ref (la + 3), .ref (la + 4)]))) (hc3 : σ (la + 3) = some (aI G (rR (sid kd) N * N) f3)) (hc4 : σ (la + 4) = some (aI G (rR (sid kd) N) f4)) (hL : LOK (sid kd) N) (h5 : ∀ r, r < rR (sid kd) N → f5 r = nI (psR kd sr N r)) (h3 : ∀ r, r < rR (sid kd) N → ∀ k, 1 ≤ k → k ≤ N → f3 (r * N + k - 1) = nI (nx (sid kd) N r k)) (h4 : ∀ r, r < rR (sid kd) N → f4 r = nI (jw (sid kd) N r)) (hrk : r < rR (sid kd) N) : GM l G yX4_countSorting cX4_countSorting 5 (some .int) rm_X4_countSorting_5 n σ [.ref sa, .int (nI r), .int (nI 5)] (fun rv n2 σ2 => some (.int (nI (wy kd sr N 5 r))) = rv ∧ n = n2 ∧ σ = σ2) := by
  refine GM.intro (by decide +kernel) (Nat.le_of_ble_eq_true rfl) (fun p e s m args below meth c C hr hlocks hname po hpo => ?_)
  have C : Cx p s m args c cX4_countSorting 5 RX4 G := C
  have hb9 := hL.b
  have hg6 : gp (sid kd) N (oR (sid kd) N r) (sR (sid kd) N r) ≤ 6 := gpR_le kd hL.2.1 r
  refine r_aload_n C dX4_countSorting_0 rfl 0 rfl ?_
  refine r_get (Cn := RX2) (T := TX2) (N := 6) (v := .ref la) C inlX2 hc0 rfl 3 (by decide) wF_X4_22 (fun _ h => h) rfl dX4_countSorting_1 ?_
  refine r_iload_n C dX4_countSorting_4 rfl 1 rfl ?_
  refine r_callV (As := [.int (nI r)]) C (c_X1_gaps (la := la) (N := N) (cfl := cfl) (sb := (sid kd)) (f4 := f4) (r := r) hc2 hc4 (by first | assumption | omega) (by first | assumption | omega) (by first | assumption | omega)) wM_X4_89 wI_X1_gaps wN_X1 wC_X1_gaps wV_X1_gaps hd_X1_gaps ⟨Nat.le_of_ble_eq_true rfl, Nat.le_of_ble_eq_true rfl⟩ rfl hc2 rfl rfl (Nat.le_of_ble_eq_true rfl) dX4_countSorting_5 ⟨(Nat.le_of_ble_eq_true rfl), (Nat.le_of_ble_eq_true rfl)⟩ (fun rv n2 σ2 hp => ?_)
  obtain ⟨rfl, rfl, rfl⟩ := hp
  refine V.eq (σ2 := σ) (n2 := n) (st2 := [.int (nI (gp (sid kd) N (oR (sid kd) N r) (sR (sid kd) N r)))]) rfl rfl rfl rfl ?_
  refine r_iload_n C dX4_countSorting_8 rfl 2 rfl ?_
  refine r_icmp_leN (tgt := 14) C dX4_countSorting_9 (by decide) (by omega) (by decide) (fun c9 => ?_) (fun c9 => ?_)
  · refine r_iload_n C dX4_countSorting_14 rfl 2 rfl ?_
    refine r_if_gtN (tgt := 20) C dX4_countSorting_15 (by decide) (by decide) (fun c15 => ?_) (fun c15 => ?_)
    · refine r_iconst (v := nI 0) C dX4_countSorting_20 (by decide) ?_
      refine r_istore_n (lv2 := [(3, .int (nI 0)), (0, .ref sa), (1, .int (nI r)), (2, .int (nI 5))]) C dX4_countSorting_21 rfl (by decide) rfl ?_
      refine r_iconst (v := nI 1) C dX4_countSorting_22 (by decide) ?_
      refine r_istore (lv2 := [(4, .int (nI 1)), (3, .int (nI 0)), (0, .ref sa), (1, .int (nI r)), (2, .int (nI 5))]) C dX4_countSorting_23 (by decide) rfl ?_
      have L25 : ∀ (fu : Nat) (i : Nat), (i ≤ N) → (N + 1 - i) < fu → V p l e rm_X4_countSorting_5 s m args below meth c G 5 (MQ below (gQ G po) args s rm_X4_countSorting_5.cells rm_X4_countSorting_5.slots (gF G)) 0 0 n σ 25 [(0, .ref sa), (1, .int (nI r)), (2, .int (nI 5)), (3, .int (nI (wyp kd sr N 4 r i))), (4, .int (nI (i + 1)))] [] := by
        intro fu
        induction fu with
        | zero => intro i hi hm; exact absurd hm (Nat.not_lt_zero _)
        | succ fu ih25 =>
          intro i hi hm25
          refine r_iload C dX4_countSorting_25 4 rfl ?_
          refine r_aload_n C dX4_countSorting_27 rfl 0 rfl ?_
          refine r_get (Cn := RX2) (T := TX2) (N := 6) (v := .int (nI N)) C inlX2 hc0 rfl 2 (by decide) wF_X4_65 (fun _ h => h) rfl dX4_countSorting_28 ?_
          refine r_icmp_gtN (tgt := 70) C dX4_countSorting_31 (by decide) (by omega) (by omega) (fun c31 => ?_) (fun c31 => ?_)
          · have hiN : i = N := by omega
            refine r_iload_n C dX4_countSorting_70 rfl 3 rfl ?_
            exact r_iret C hr hlocks (Nat.le_of_ble_eq_true rfl) (Nat.le_of_ble_eq_true rfl) dX4_countSorting_71 (hpo _ _ _ ⟨by rw [hiN, wy_s], rfl, rfl⟩)
          · refine r_aload_n C dX4_countSorting_34 rfl 0 rfl ?_
            refine r_iload_n C dX4_countSorting_35 rfl 1 rfl ?_
            refine r_iload C dX4_countSorting_36 4 rfl ?_
            refine r_callV (As := [.int (nI r), .int (nI (i + 1))]) C (c_X2_allows (sa := sa) (la := la) (kd := kd) (N := N) (sr := sr) (sv := sv) (f5 := f5) (r := r) (k := i + 1) hc0 hc1 (by first | assumption | omega) (by first | assumption | omega) (by first | assumption | omega) (by omega)) wM_X4_68 wI_X2_allows wN_X2 wC_X2_allows wV_X2_allows hd_X2_allows ⟨Nat.le_of_ble_eq_true rfl, Nat.le_of_ble_eq_true rfl⟩ rfl hc0 rfl rfl (Nat.le_of_ble_eq_true rfl) dX4_countSorting_38 ⟨(Nat.le_of_ble_eq_true rfl), (Nat.le_of_ble_eq_true rfl)⟩ (fun rv n2 σ2 hp => ?_)
            obtain ⟨rfl, rfl, rfl⟩ := hp
            refine V.eq (σ2 := σ) (n2 := n) (st2 := [.int (bI (okR kd sr N r (i + 1)))]) rfl rfl rfl rfl ?_
            refine r_if_eqB (tgt := 64) C dX4_countSorting_41 (by decide) (fun c41 => ?_) (fun c41 => ?_)
            · refine r_iinc (v := nI (i + 2)) (lv2 := [(4, .int (nI (i + 2))), (0, .ref sa), (1, .int (nI r)), (2, .int (nI 5)), (3, .int (nI (wyp kd sr N 4 r i)))]) C dX4_countSorting_64 (k := 4) rfl (nI_add _ 1) (by decide) rfl ?_
              refine r_goto (tgt := 25) C dX4_countSorting_67 (by decide) ?_
              refine V.sub (lv2 := [(0, .ref sa), (1, .int (nI r)), (2, .int (nI 5)), (3, .int (nI (wyp kd sr N 4 r i))), (4, .int (nI (i + 2)))]) [1, 2, 3, 4, 0] rfl ?_
              refine V.eq (σ2 := σ) (lv2 := [(0, .ref sa), (1, .int (nI r)), (2, .int (nI 5)), (3, .int (nI (wyp kd sr N 4 r (i + 1)))), (4, .int (nI ((i + 1) + 1)))]) (st2 := []) rfl rfl (by rw [(show nI (wyp kd sr N 4 r i) = nI (wyp kd sr N 4 r (i + 1)) from by first | (rw [wyp, if_pos (show aR1 kd sr N r (i + 1) = true from okR_al c41)]; done) | (rw [wyp, if_neg (okR_n c41 (by omega))]; rfl)), (show nI (i + 2) = nI ((i + 1) + 1) from rfl)]) rfl ?_
              exact ih25 (i + 1) (by omega) (by omega)
            · refine r_iload_n C dX4_countSorting_44 rfl 3 rfl ?_
              refine r_aload_n C dX4_countSorting_45 rfl 0 rfl ?_
              refine r_aload_n C dX4_countSorting_46 rfl 0 rfl ?_
              refine r_get (Cn := RX2) (T := TX2) (N := 6) (v := .ref la) C inlX2 hc0 rfl 3 (by decide) wF_X4_22 (fun _ h => h) rfl dX4_countSorting_47 ?_
              refine r_iload_n C dX4_countSorting_50 rfl 1 rfl ?_
              refine r_iload C dX4_countSorting_51 4 rfl ?_
              refine r_callV (As := [.int (nI r), .int (nI (i + 1))]) C (c_X1_behind (la := la) (N := N) (cfl := cfl) (sb := (sid kd)) (f3 := f3) (r := r) (k := i + 1) hc2 hc3 (by first | assumption | omega) (by first | assumption | omega) (by first | assumption | omega) (by first | assumption | omega) (by first | assumption | omega)) wM_X4_62 wI_X1_behind wN_X1 wC_X1_behind wV_X1_behind hd_X1_behind ⟨Nat.le_of_ble_eq_true rfl, Nat.le_of_ble_eq_true rfl⟩ rfl hc2 rfl rfl (Nat.le_of_ble_eq_true rfl) dX4_countSorting_53 ⟨(Nat.le_of_ble_eq_true rfl), (Nat.le_of_ble_eq_true rfl)⟩ (fun rv n2 σ2 hp => ?_)
              obtain ⟨rfl, rfl, rfl⟩ := hp
              refine V.eq (σ2 := σ) (n2 := n) (st2 := [.int (nI (nx (sid kd) N r (i + 1))), .ref sa, .int (nI (wyp kd sr N 4 r i))]) rfl rfl rfl rfl ?_
              refine r_iload_n C dX4_countSorting_56 rfl 2 rfl ?_
              refine r_iconst (v := nI 1) C dX4_countSorting_57 (by decide) ?_
              refine r_isubE (v := nI 4) C dX4_countSorting_58 (by decide) ?_
              refine r_callS (As := [.ref sa, .int (nI (nx (sid kd) N r (i + 1))), .int (nI 4)]) C (c_X4_countSorting_4 (sa := sa) (la := la) (kd := kd) (N := N) (sr := sr) (sv := sv) (f3 := f3) (f4 := f4) (f5 := f5) (r := nx (sid kd) N r (i + 1)) (cfl := cfl) hc0 hc1 hc2 hc3 hc4 (by first | assumption | omega) (by first | assumption | omega) (by first | assumption | omega) (by first | assumption | omega) (nx_lt hL.2.1 hrk (by omega))) wM_X4_85 wS_X4_countSorting wN_X4 wC_X4_countSorting hd_X4_countSorting ⟨Nat.le_of_ble_eq_true rfl, Nat.le_of_ble_eq_true rfl⟩ rfl rfl (Nat.le_of_ble_eq_true rfl) dX4_countSorting_59 ⟨(Nat.le_of_ble_eq_true rfl), (Nat.le_of_ble_eq_true rfl)⟩ (fun rv n2 σ2 hp => ?_)
              obtain ⟨rfl, rfl, rfl⟩ := hp
              refine V.eq (σ2 := σ) (n2 := n) (st2 := [.int (nI (wy kd sr N 4 (nx (sid kd) N r (i + 1)))), .int (nI (wyp kd sr N 4 r i))]) rfl rfl rfl rfl ?_
              refine r_iaddN C dX4_countSorting_62 ?_
              refine r_istore_n (lv2 := [(3, .int (nI (wyp kd sr N 4 r i + (wy kd sr N 4 (nx (sid kd) N r (i + 1)))))), (0, .ref sa), (1, .int (nI r)), (2, .int (nI 5)), (4, .int (nI (i + 1)))]) C dX4_countSorting_63 rfl (by decide) rfl ?_
              refine r_iinc (v := nI (i + 2)) (lv2 := [(4, .int (nI (i + 2))), (3, .int (nI (wyp kd sr N 4 r i + (wy kd sr N 4 (nx (sid kd) N r (i + 1)))))), (0, .ref sa), (1, .int (nI r)), (2, .int (nI 5))]) C dX4_countSorting_64 (k := 4) rfl (nI_add _ 1) (by decide) rfl ?_
              refine r_goto (tgt := 25) C dX4_countSorting_67 (by decide) ?_
              refine V.sub (lv2 := [(0, .ref sa), (1, .int (nI r)), (2, .int (nI 5)), (3, .int (nI (wyp kd sr N 4 r i + (wy kd sr N 4 (nx (sid kd) N r (i + 1)))))), (4, .int (nI (i + 2)))]) [2, 3, 4, 1, 0] rfl ?_
              refine V.eq (σ2 := σ) (lv2 := [(0, .ref sa), (1, .int (nI r)), (2, .int (nI 5)), (3, .int (nI (wyp kd sr N 4 r (i + 1)))), (4, .int (nI ((i + 1) + 1)))]) (st2 := []) rfl rfl (by rw [(show nI (wyp kd sr N 4 r i + (wy kd sr N 4 (nx (sid kd) N r (i + 1)))) = nI (wyp kd sr N 4 r (i + 1)) from by first | (rw [wyp, if_pos (show aR1 kd sr N r (i + 1) = true from okR_al c41)]; done) | (rw [wyp, if_neg (okR_n c41 (by omega))]; rfl)), (show nI (i + 2) = nI ((i + 1) + 1) from rfl)]) rfl ?_
              exact ih25 (i + 1) (by omega) (by omega)
      refine V.sub (lv2 := [(0, .ref sa), (1, .int (nI r)), (2, .int (nI 5)), (3, .int (nI 0)), (4, .int (nI 1))]) [2, 3, 4, 1, 0] rfl ?_
      refine V.eq (σ2 := σ) (lv2 := [(0, .ref sa), (1, .int (nI r)), (2, .int (nI 5)), (3, .int (nI (wyp kd sr N 4 r 0))), (4, .int (nI (0 + 1)))]) (st2 := []) rfl rfl rfl rfl ?_
      exact L25 _ 0 (by omega) (Nat.lt_succ_self _)
    · exact absurd c15 (by decide)
  · have hw0 := wy_gap (sr := sr) hL.2.1 5 r hrk c9
    refine r_iconst (v := nI 0) C dX4_countSorting_12 (by decide) ?_
    exact r_iret C hr hlocks (Nat.le_of_ble_eq_true rfl) (Nat.le_of_ble_eq_true rfl) dX4_countSorting_13 (hpo _ _ _ ⟨by rw [hw0], rfl, rfl⟩)

abbrev rm_X4_sortingRows_0 : Room := { frames := 3, cells := 0, slots := 0, locals := 66 }
set_option maxRecDepth 100000 in
set_option maxHeartbeats 4000000 in
theorem c_X4_sortingRows_0 {l : Launch} {G : gG} {n : Nat} {σ : gS} {va sa la : Nat} {kd N sr cfl : Nat} {sv : Value} {tk wk : Bool} {f3 : Nat → Int32} {f4 : Nat → Int32} {f5 : Nat → Int32} {r : Nat} (hc0 : σ va = some (.inr (4, [.ref sa, .ref la, .ref (va + 1), .int (bI tk), .ref (va + 2), .int (bI wk)]))) (hc1 : σ sa = some (.inr (2, [.int (nI kd), .int (nI sr), .int (nI N), .ref la, .ref (sa + 1), sv]))) (hc2 : σ (sa + 1) = some (aI G (rR (sid kd) N) f5)) (hc3 : σ la = some (.inr (1, [.int (nI N), .int (nI (rR (sid kd) N)), .int (nI (sbN (sid kd) N)), .int (nI (sm (sid kd) N - 1)), .ref (la + 1), .ref (la + 2), .ref (la + 3), .ref (la + 4)]))) (hc4 : σ (la + 3) = some (aI G (rR (sid kd) N * N) f3)) (hc5 : σ (la + 4) = some (aI G (rR (sid kd) N) f4)) (hL : LOK (sid kd) N) (h5 : ∀ r, r < rR (sid kd) N → f5 r = nI (psR kd sr N r)) (h3 : ∀ r, r < rR (sid kd) N → ∀ k, 1 ≤ k → k ≤ N → f3 (r * N + k - 1) = nI (nx (sid kd) N r k)) (h4 : ∀ r, r < rR (sid kd) N → f4 r = nI (jw (sid kd) N r)) (hrk : r < rR (sid kd) N) : GM l G yX4_sortingRows cX4_sortingRows 3 (some .int) rm_X4_sortingRows_0 n σ [.ref va, .int (nI r), .int (nI 0)] (fun rv n2 σ2 => some (.int (nI (wy kd sr N 0 r))) = rv ∧ n = n2 ∧ σ = σ2) := by
  refine GM.intro (by decide +kernel) (Nat.le_of_ble_eq_true rfl) (fun p e s m args below meth c C hr hlocks hname po hpo => ?_)
  have C : Cx p s m args c cX4_sortingRows 3 RX4 G := C
  have hb9 := hL.b
  refine r_aload_n C dX4_sortingRows_0 rfl 0 rfl ?_
  refine r_get (Cn := RX4) (T := TX4) (N := 6) (v := .ref sa) C inlX4 hc0 rfl 0 (by decide) wF_X4_18 (fun _ h => h) rfl dX4_sortingRows_1 ?_
  refine r_iload_n C dX4_sortingRows_4 rfl 1 rfl ?_
  refine r_iload_n C dX4_sortingRows_5 rfl 2 rfl ?_
  refine r_callS (As := [.ref sa, .int (nI r), .int (nI 0)]) C (c_X4_countSorting_0 (sa := sa) (la := la) (kd := kd) (N := N) (sr := sr) (sv := sv) (f3 := f3) (f4 := f4) (f5 := f5) (r := r) (cfl := cfl) hc1 hc2 hc3 hc4 hc5 (by first | assumption | omega) (by first | assumption | omega) (by first | assumption | omega) (by first | assumption | omega) (by first | assumption | omega)) wM_X4_85 wS_X4_countSorting wN_X4 wC_X4_countSorting hd_X4_countSorting ⟨Nat.le_of_ble_eq_true rfl, Nat.le_of_ble_eq_true rfl⟩ rfl rfl (Nat.le_of_ble_eq_true rfl) dX4_sortingRows_6 ⟨(Nat.le_of_ble_eq_true rfl), (Nat.le_of_ble_eq_true rfl)⟩ (fun rv n2 σ2 hp => ?_)
  obtain ⟨rfl, rfl, rfl⟩ := hp
  refine V.eq (σ2 := σ) (n2 := n) (st2 := [.int (nI (wy kd sr N 0 r))]) rfl rfl rfl rfl ?_
  exact r_iret C hr hlocks (Nat.le_of_ble_eq_true rfl) (Nat.le_of_ble_eq_true rfl) dX4_sortingRows_9 (hpo _ _ _ ⟨rfl, rfl, rfl⟩)

abbrev rm_X4_sortingRows_1 : Room := { frames := 4, cells := 0, slots := 0, locals := 90 }
set_option maxRecDepth 100000 in
set_option maxHeartbeats 4000000 in
theorem c_X4_sortingRows_1 {l : Launch} {G : gG} {n : Nat} {σ : gS} {va sa la : Nat} {kd N sr cfl : Nat} {sv : Value} {tk wk : Bool} {f3 : Nat → Int32} {f4 : Nat → Int32} {f5 : Nat → Int32} {r : Nat} (hc0 : σ va = some (.inr (4, [.ref sa, .ref la, .ref (va + 1), .int (bI tk), .ref (va + 2), .int (bI wk)]))) (hc1 : σ sa = some (.inr (2, [.int (nI kd), .int (nI sr), .int (nI N), .ref la, .ref (sa + 1), sv]))) (hc2 : σ (sa + 1) = some (aI G (rR (sid kd) N) f5)) (hc3 : σ la = some (.inr (1, [.int (nI N), .int (nI (rR (sid kd) N)), .int (nI (sbN (sid kd) N)), .int (nI (sm (sid kd) N - 1)), .ref (la + 1), .ref (la + 2), .ref (la + 3), .ref (la + 4)]))) (hc4 : σ (la + 3) = some (aI G (rR (sid kd) N * N) f3)) (hc5 : σ (la + 4) = some (aI G (rR (sid kd) N) f4)) (hL : LOK (sid kd) N) (h5 : ∀ r, r < rR (sid kd) N → f5 r = nI (psR kd sr N r)) (h3 : ∀ r, r < rR (sid kd) N → ∀ k, 1 ≤ k → k ≤ N → f3 (r * N + k - 1) = nI (nx (sid kd) N r k)) (h4 : ∀ r, r < rR (sid kd) N → f4 r = nI (jw (sid kd) N r)) (hrk : r < rR (sid kd) N) : GM l G yX4_sortingRows cX4_sortingRows 3 (some .int) rm_X4_sortingRows_1 n σ [.ref va, .int (nI r), .int (nI 1)] (fun rv n2 σ2 => some (.int (nI (wy kd sr N 1 r))) = rv ∧ n = n2 ∧ σ = σ2) := by
  refine GM.intro (by decide +kernel) (Nat.le_of_ble_eq_true rfl) (fun p e s m args below meth c C hr hlocks hname po hpo => ?_)
  have C : Cx p s m args c cX4_sortingRows 3 RX4 G := C
  have hb9 := hL.b
  refine r_aload_n C dX4_sortingRows_0 rfl 0 rfl ?_
  refine r_get (Cn := RX4) (T := TX4) (N := 6) (v := .ref sa) C inlX4 hc0 rfl 0 (by decide) wF_X4_18 (fun _ h => h) rfl dX4_sortingRows_1 ?_
  refine r_iload_n C dX4_sortingRows_4 rfl 1 rfl ?_
  refine r_iload_n C dX4_sortingRows_5 rfl 2 rfl ?_
  refine r_callS (As := [.ref sa, .int (nI r), .int (nI 1)]) C (c_X4_countSorting_1 (sa := sa) (la := la) (kd := kd) (N := N) (sr := sr) (sv := sv) (f3 := f3) (f4 := f4) (f5 := f5) (r := r) (cfl := cfl) hc1 hc2 hc3 hc4 hc5 (by first | assumption | omega) (by first | assumption | omega) (by first | assumption | omega) (by first | assumption | omega) (by first | assumption | omega)) wM_X4_85 wS_X4_countSorting wN_X4 wC_X4_countSorting hd_X4_countSorting ⟨Nat.le_of_ble_eq_true rfl, Nat.le_of_ble_eq_true rfl⟩ rfl rfl (Nat.le_of_ble_eq_true rfl) dX4_sortingRows_6 ⟨(Nat.le_of_ble_eq_true rfl), (Nat.le_of_ble_eq_true rfl)⟩ (fun rv n2 σ2 hp => ?_)
  obtain ⟨rfl, rfl, rfl⟩ := hp
  refine V.eq (σ2 := σ) (n2 := n) (st2 := [.int (nI (wy kd sr N 1 r))]) rfl rfl rfl rfl ?_
  exact r_iret C hr hlocks (Nat.le_of_ble_eq_true rfl) (Nat.le_of_ble_eq_true rfl) dX4_sortingRows_9 (hpo _ _ _ ⟨rfl, rfl, rfl⟩)

abbrev rm_X4_sortingRows_2 : Room := { frames := 5, cells := 0, slots := 0, locals := 114 }
set_option maxRecDepth 100000 in
set_option maxHeartbeats 4000000 in
theorem c_X4_sortingRows_2 {l : Launch} {G : gG} {n : Nat} {σ : gS} {va sa la : Nat} {kd N sr cfl : Nat} {sv : Value} {tk wk : Bool} {f3 : Nat → Int32} {f4 : Nat → Int32} {f5 : Nat → Int32} {r : Nat} (hc0 : σ va = some (.inr (4, [.ref sa, .ref la, .ref (va + 1), .int (bI tk), .ref (va + 2), .int (bI wk)]))) (hc1 : σ sa = some (.inr (2, [.int (nI kd), .int (nI sr), .int (nI N), .ref la, .ref (sa + 1), sv]))) (hc2 : σ (sa + 1) = some (aI G (rR (sid kd) N) f5)) (hc3 : σ la = some (.inr (1, [.int (nI N), .int (nI (rR (sid kd) N)), .int (nI (sbN (sid kd) N)), .int (nI (sm (sid kd) N - 1)), .ref (la + 1), .ref (la + 2), .ref (la + 3), .ref (la + 4)]))) (hc4 : σ (la + 3) = some (aI G (rR (sid kd) N * N) f3)) (hc5 : σ (la + 4) = some (aI G (rR (sid kd) N) f4)) (hL : LOK (sid kd) N) (h5 : ∀ r, r < rR (sid kd) N → f5 r = nI (psR kd sr N r)) (h3 : ∀ r, r < rR (sid kd) N → ∀ k, 1 ≤ k → k ≤ N → f3 (r * N + k - 1) = nI (nx (sid kd) N r k)) (h4 : ∀ r, r < rR (sid kd) N → f4 r = nI (jw (sid kd) N r)) (hrk : r < rR (sid kd) N) : GM l G yX4_sortingRows cX4_sortingRows 3 (some .int) rm_X4_sortingRows_2 n σ [.ref va, .int (nI r), .int (nI 2)] (fun rv n2 σ2 => some (.int (nI (wy kd sr N 2 r))) = rv ∧ n = n2 ∧ σ = σ2) := by
  refine GM.intro (by decide +kernel) (Nat.le_of_ble_eq_true rfl) (fun p e s m args below meth c C hr hlocks hname po hpo => ?_)
  have C : Cx p s m args c cX4_sortingRows 3 RX4 G := C
  have hb9 := hL.b
  refine r_aload_n C dX4_sortingRows_0 rfl 0 rfl ?_
  refine r_get (Cn := RX4) (T := TX4) (N := 6) (v := .ref sa) C inlX4 hc0 rfl 0 (by decide) wF_X4_18 (fun _ h => h) rfl dX4_sortingRows_1 ?_
  refine r_iload_n C dX4_sortingRows_4 rfl 1 rfl ?_
  refine r_iload_n C dX4_sortingRows_5 rfl 2 rfl ?_
  refine r_callS (As := [.ref sa, .int (nI r), .int (nI 2)]) C (c_X4_countSorting_2 (sa := sa) (la := la) (kd := kd) (N := N) (sr := sr) (sv := sv) (f3 := f3) (f4 := f4) (f5 := f5) (r := r) (cfl := cfl) hc1 hc2 hc3 hc4 hc5 (by first | assumption | omega) (by first | assumption | omega) (by first | assumption | omega) (by first | assumption | omega) (by first | assumption | omega)) wM_X4_85 wS_X4_countSorting wN_X4 wC_X4_countSorting hd_X4_countSorting ⟨Nat.le_of_ble_eq_true rfl, Nat.le_of_ble_eq_true rfl⟩ rfl rfl (Nat.le_of_ble_eq_true rfl) dX4_sortingRows_6 ⟨(Nat.le_of_ble_eq_true rfl), (Nat.le_of_ble_eq_true rfl)⟩ (fun rv n2 σ2 hp => ?_)
  obtain ⟨rfl, rfl, rfl⟩ := hp
  refine V.eq (σ2 := σ) (n2 := n) (st2 := [.int (nI (wy kd sr N 2 r))]) rfl rfl rfl rfl ?_
  exact r_iret C hr hlocks (Nat.le_of_ble_eq_true rfl) (Nat.le_of_ble_eq_true rfl) dX4_sortingRows_9 (hpo _ _ _ ⟨rfl, rfl, rfl⟩)

abbrev rm_X4_sortingRows_3 : Room := { frames := 6, cells := 0, slots := 0, locals := 138 }
set_option maxRecDepth 100000 in
set_option maxHeartbeats 4000000 in
theorem c_X4_sortingRows_3 {l : Launch} {G : gG} {n : Nat} {σ : gS} {va sa la : Nat} {kd N sr cfl : Nat} {sv : Value} {tk wk : Bool} {f3 : Nat → Int32} {f4 : Nat → Int32} {f5 : Nat → Int32} {r : Nat} (hc0 : σ va = some (.inr (4, [.ref sa, .ref la, .ref (va + 1), .int (bI tk), .ref (va + 2), .int (bI wk)]))) (hc1 : σ sa = some (.inr (2, [.int (nI kd), .int (nI sr), .int (nI N), .ref la, .ref (sa + 1), sv]))) (hc2 : σ (sa + 1) = some (aI G (rR (sid kd) N) f5)) (hc3 : σ la = some (.inr (1, [.int (nI N), .int (nI (rR (sid kd) N)), .int (nI (sbN (sid kd) N)), .int (nI (sm (sid kd) N - 1)), .ref (la + 1), .ref (la + 2), .ref (la + 3), .ref (la + 4)]))) (hc4 : σ (la + 3) = some (aI G (rR (sid kd) N * N) f3)) (hc5 : σ (la + 4) = some (aI G (rR (sid kd) N) f4)) (hL : LOK (sid kd) N) (h5 : ∀ r, r < rR (sid kd) N → f5 r = nI (psR kd sr N r)) (h3 : ∀ r, r < rR (sid kd) N → ∀ k, 1 ≤ k → k ≤ N → f3 (r * N + k - 1) = nI (nx (sid kd) N r k)) (h4 : ∀ r, r < rR (sid kd) N → f4 r = nI (jw (sid kd) N r)) (hrk : r < rR (sid kd) N) : GM l G yX4_sortingRows cX4_sortingRows 3 (some .int) rm_X4_sortingRows_3 n σ [.ref va, .int (nI r), .int (nI 3)] (fun rv n2 σ2 => some (.int (nI (wy kd sr N 3 r))) = rv ∧ n = n2 ∧ σ = σ2) := by
  refine GM.intro (by decide +kernel) (Nat.le_of_ble_eq_true rfl) (fun p e s m args below meth c C hr hlocks hname po hpo => ?_)
  have C : Cx p s m args c cX4_sortingRows 3 RX4 G := C
  have hb9 := hL.b
  refine r_aload_n C dX4_sortingRows_0 rfl 0 rfl ?_
  refine r_get (Cn := RX4) (T := TX4) (N := 6) (v := .ref sa) C inlX4 hc0 rfl 0 (by decide) wF_X4_18 (fun _ h => h) rfl dX4_sortingRows_1 ?_
  refine r_iload_n C dX4_sortingRows_4 rfl 1 rfl ?_
  refine r_iload_n C dX4_sortingRows_5 rfl 2 rfl ?_
  refine r_callS (As := [.ref sa, .int (nI r), .int (nI 3)]) C (c_X4_countSorting_3 (sa := sa) (la := la) (kd := kd) (N := N) (sr := sr) (sv := sv) (f3 := f3) (f4 := f4) (f5 := f5) (r := r) (cfl := cfl) hc1 hc2 hc3 hc4 hc5 (by first | assumption | omega) (by first | assumption | omega) (by first | assumption | omega) (by first | assumption | omega) (by first | assumption | omega)) wM_X4_85 wS_X4_countSorting wN_X4 wC_X4_countSorting hd_X4_countSorting ⟨Nat.le_of_ble_eq_true rfl, Nat.le_of_ble_eq_true rfl⟩ rfl rfl (Nat.le_of_ble_eq_true rfl) dX4_sortingRows_6 ⟨(Nat.le_of_ble_eq_true rfl), (Nat.le_of_ble_eq_true rfl)⟩ (fun rv n2 σ2 hp => ?_)
  obtain ⟨rfl, rfl, rfl⟩ := hp
  refine V.eq (σ2 := σ) (n2 := n) (st2 := [.int (nI (wy kd sr N 3 r))]) rfl rfl rfl rfl ?_
  exact r_iret C hr hlocks (Nat.le_of_ble_eq_true rfl) (Nat.le_of_ble_eq_true rfl) dX4_sortingRows_9 (hpo _ _ _ ⟨rfl, rfl, rfl⟩)

abbrev rm_X4_sortingRows_4 : Room := { frames := 7, cells := 0, slots := 0, locals := 162 }
set_option maxRecDepth 100000 in
set_option maxHeartbeats 4000000 in
theorem c_X4_sortingRows_4 {l : Launch} {G : gG} {n : Nat} {σ : gS} {va sa la : Nat} {kd N sr cfl : Nat} {sv : Value} {tk wk : Bool} {f3 : Nat → Int32} {f4 : Nat → Int32} {f5 : Nat → Int32} {r : Nat} (hc0 : σ va = some (.inr (4, [.ref sa, .ref la, .ref (va + 1), .int (bI tk), .ref (va + 2), .int (bI wk)]))) (hc1 : σ sa = some (.inr (2, [.int (nI kd), .int (nI sr), .int (nI N), .ref la, .ref (sa + 1), sv]))) (hc2 : σ (sa + 1) = some (aI G (rR (sid kd) N) f5)) (hc3 : σ la = some (.inr (1, [.int (nI N), .int (nI (rR (sid kd) N)), .int (nI (sbN (sid kd) N)), .int (nI (sm (sid kd) N - 1)), .ref (la + 1), .ref (la + 2), .ref (la + 3), .ref (la + 4)]))) (hc4 : σ (la + 3) = some (aI G (rR (sid kd) N * N) f3)) (hc5 : σ (la + 4) = some (aI G (rR (sid kd) N) f4)) (hL : LOK (sid kd) N) (h5 : ∀ r, r < rR (sid kd) N → f5 r = nI (psR kd sr N r)) (h3 : ∀ r, r < rR (sid kd) N → ∀ k, 1 ≤ k → k ≤ N → f3 (r * N + k - 1) = nI (nx (sid kd) N r k)) (h4 : ∀ r, r < rR (sid kd) N → f4 r = nI (jw (sid kd) N r)) (hrk : r < rR (sid kd) N) : GM l G yX4_sortingRows cX4_sortingRows 3 (some .int) rm_X4_sortingRows_4 n σ [.ref va, .int (nI r), .int (nI 4)] (fun rv n2 σ2 => some (.int (nI (wy kd sr N 4 r))) = rv ∧ n = n2 ∧ σ = σ2) := by
  refine GM.intro (by decide +kernel) (Nat.le_of_ble_eq_true rfl) (fun p e s m args below meth c C hr hlocks hname po hpo => ?_)
  have C : Cx p s m args c cX4_sortingRows 3 RX4 G := C
  have hb9 := hL.b
  refine r_aload_n C dX4_sortingRows_0 rfl 0 rfl ?_
  refine r_get (Cn := RX4) (T := TX4) (N := 6) (v := .ref sa) C inlX4 hc0 rfl 0 (by decide) wF_X4_18 (fun _ h => h) rfl dX4_sortingRows_1 ?_
  refine r_iload_n C dX4_sortingRows_4 rfl 1 rfl ?_
  refine r_iload_n C dX4_sortingRows_5 rfl 2 rfl ?_
  refine r_callS (As := [.ref sa, .int (nI r), .int (nI 4)]) C (c_X4_countSorting_4 (sa := sa) (la := la) (kd := kd) (N := N) (sr := sr) (sv := sv) (f3 := f3) (f4 := f4) (f5 := f5) (r := r) (cfl := cfl) hc1 hc2 hc3 hc4 hc5 (by first | assumption | omega) (by first | assumption | omega) (by first | assumption | omega) (by first | assumption | omega) (by first | assumption | omega)) wM_X4_85 wS_X4_countSorting wN_X4 wC_X4_countSorting hd_X4_countSorting ⟨Nat.le_of_ble_eq_true rfl, Nat.le_of_ble_eq_true rfl⟩ rfl rfl (Nat.le_of_ble_eq_true rfl) dX4_sortingRows_6 ⟨(Nat.le_of_ble_eq_true rfl), (Nat.le_of_ble_eq_true rfl)⟩ (fun rv n2 σ2 hp => ?_)
  obtain ⟨rfl, rfl, rfl⟩ := hp
  refine V.eq (σ2 := σ) (n2 := n) (st2 := [.int (nI (wy kd sr N 4 r))]) rfl rfl rfl rfl ?_
  exact r_iret C hr hlocks (Nat.le_of_ble_eq_true rfl) (Nat.le_of_ble_eq_true rfl) dX4_sortingRows_9 (hpo _ _ _ ⟨rfl, rfl, rfl⟩)

abbrev rm_X4_sortingRows_5 : Room := { frames := 8, cells := 0, slots := 0, locals := 186 }
set_option maxRecDepth 100000 in
set_option maxHeartbeats 4000000 in
theorem c_X4_sortingRows_5 {l : Launch} {G : gG} {n : Nat} {σ : gS} {va sa la : Nat} {kd N sr cfl : Nat} {sv : Value} {tk wk : Bool} {f3 : Nat → Int32} {f4 : Nat → Int32} {f5 : Nat → Int32} {r : Nat} (hc0 : σ va = some (.inr (4, [.ref sa, .ref la, .ref (va + 1), .int (bI tk), .ref (va + 2), .int (bI wk)]))) (hc1 : σ sa = some (.inr (2, [.int (nI kd), .int (nI sr), .int (nI N), .ref la, .ref (sa + 1), sv]))) (hc2 : σ (sa + 1) = some (aI G (rR (sid kd) N) f5)) (hc3 : σ la = some (.inr (1, [.int (nI N), .int (nI (rR (sid kd) N)), .int (nI (sbN (sid kd) N)), .int (nI (sm (sid kd) N - 1)), .ref (la + 1), .ref (la + 2), .ref (la + 3), .ref (la + 4)]))) (hc4 : σ (la + 3) = some (aI G (rR (sid kd) N * N) f3)) (hc5 : σ (la + 4) = some (aI G (rR (sid kd) N) f4)) (hL : LOK (sid kd) N) (h5 : ∀ r, r < rR (sid kd) N → f5 r = nI (psR kd sr N r)) (h3 : ∀ r, r < rR (sid kd) N → ∀ k, 1 ≤ k → k ≤ N → f3 (r * N + k - 1) = nI (nx (sid kd) N r k)) (h4 : ∀ r, r < rR (sid kd) N → f4 r = nI (jw (sid kd) N r)) (hrk : r < rR (sid kd) N) : GM l G yX4_sortingRows cX4_sortingRows 3 (some .int) rm_X4_sortingRows_5 n σ [.ref va, .int (nI r), .int (nI 5)] (fun rv n2 σ2 => some (.int (nI (wy kd sr N 5 r))) = rv ∧ n = n2 ∧ σ = σ2) := by
  refine GM.intro (by decide +kernel) (Nat.le_of_ble_eq_true rfl) (fun p e s m args below meth c C hr hlocks hname po hpo => ?_)
  have C : Cx p s m args c cX4_sortingRows 3 RX4 G := C
  have hb9 := hL.b
  refine r_aload_n C dX4_sortingRows_0 rfl 0 rfl ?_
  refine r_get (Cn := RX4) (T := TX4) (N := 6) (v := .ref sa) C inlX4 hc0 rfl 0 (by decide) wF_X4_18 (fun _ h => h) rfl dX4_sortingRows_1 ?_
  refine r_iload_n C dX4_sortingRows_4 rfl 1 rfl ?_
  refine r_iload_n C dX4_sortingRows_5 rfl 2 rfl ?_
  refine r_callS (As := [.ref sa, .int (nI r), .int (nI 5)]) C (c_X4_countSorting_5 (sa := sa) (la := la) (kd := kd) (N := N) (sr := sr) (sv := sv) (f3 := f3) (f4 := f4) (f5 := f5) (r := r) (cfl := cfl) hc1 hc2 hc3 hc4 hc5 (by first | assumption | omega) (by first | assumption | omega) (by first | assumption | omega) (by first | assumption | omega) (by first | assumption | omega)) wM_X4_85 wS_X4_countSorting wN_X4 wC_X4_countSorting hd_X4_countSorting ⟨Nat.le_of_ble_eq_true rfl, Nat.le_of_ble_eq_true rfl⟩ rfl rfl (Nat.le_of_ble_eq_true rfl) dX4_sortingRows_6 ⟨(Nat.le_of_ble_eq_true rfl), (Nat.le_of_ble_eq_true rfl)⟩ (fun rv n2 σ2 hp => ?_)
  obtain ⟨rfl, rfl, rfl⟩ := hp
  refine V.eq (σ2 := σ) (n2 := n) (st2 := [.int (nI (wy kd sr N 5 r))]) rfl rfl rfl rfl ?_
  exact r_iret C hr hlocks (Nat.le_of_ble_eq_true rfl) (Nat.le_of_ble_eq_true rfl) dX4_sortingRows_9 (hpo _ _ _ ⟨rfl, rfl, rfl⟩)
