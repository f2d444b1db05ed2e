theorem okR_f {kd sr N r k : Nat} (h : okR kd sr N r k = false) (h2 : 1 ≤ k ∧ k ≤ N) : aR1 kd sr N r k = false := okR_na h h2
theorem nb_eq {a b : Nat} (ha : a < 2 ^ 31) (hb : b < 2 ^ 31) (h : nI a = nb b) : a = b := by
  rw [nb] at h
  split at h
  · exact absurd h (nI_m1n ha)
  · exact nI_inj7 ha hb h
theorem nb_eq2 {a b : Nat} (h : a + 1 = b) : nI (a + 1) = nb b := by
  rw [← h, nb, if_neg (Nat.succ_ne_zero a)]

abbrev rm_X4_countSearched_0 : Room := { frames := 2, cells := 0, slots := 0, locals := 42 }
set_option maxRecDepth 100000 in
set_option maxHeartbeats 4000000 in
theorem c_X4_countSearched_0 {l : Launch} {G : gG} {n : Nat} {σ : gS} {sa la : Nat} {kd N sr : Nat} {sv : Value} {f3 : Nat → Int32} {f4 : Nat → Int32} {f5 : Nat → Int32} {r lt cfl : Nat} (hc0 : σ sa = some (.inr (2, [.int (nI kd), .int (nI sr), .int (nI N), .ref la, .ref (sa + 1), sv]))) (hc1 : σ (sa + 1) = some (aI G (rR (sid kd) N) f5)) (hc2 : σ la = some (.inr (1, [.int (nI N), .int (nI (rR (sid kd) N)), .int (nI (sbN (sid kd) N)), .int (nI (sm (sid kd) N - 1)), .ref (la + 1), .ref (la + 2), .ref (la + 3), .ref (la + 4)]))) (hc3 : σ (la + 3) = some (aI G (rR (sid kd) N * N) f3)) (hc4 : σ (la + 4) = some (aI G (rR (sid kd) N) f4)) (hL : LOK (sid kd) N) (h5 : ∀ r, r < rR (sid kd) N → f5 r = nI (psR kd sr N r)) (h3 : ∀ r, r < rR (sid kd) N → ∀ k, 1 ≤ k → k ≤ N → f3 (r * N + k - 1) = nI (nx (sid kd) N r k)) (h4 : ∀ r, r < rR (sid kd) N → f4 r = nI (jw (sid kd) N r)) (hrk : r < rR (sid kd) N) (hlt : lt < 10) : GM l G yX4_countSearched cX4_countSearched 6 (some .int) rm_X4_countSearched_0 n σ [.ref sa, .int (nI r), .int (nb lt), .int (nI 0)] (fun rv n2 σ2 => some (.int (nI (lkA kd sr N 0 r lt))) = rv ∧ n = n2 ∧ σ = σ2) := by
  refine GM.intro (by decide +kernel) (Nat.le_of_ble_eq_true rfl) (fun p e s m args below meth c C hr hlocks hname po hpo => ?_)
  have C : Cx p s m args c cX4_countSearched 6 RX4 G := C
  have hb9 := hL.b
  have hg6 : gp (sid kd) N (oR (sid kd) N r) (sR (sid kd) N r) ≤ 6 := gpR_le kd hL.2.1 r
  refine r_aload_n C dX4_countSearched_0 rfl 0 rfl ?_
  refine r_get (Cn := RX2) (T := TX2) (N := 6) (v := .ref la) C inlX2 hc0 rfl 3 (by decide) wF_X4_22 (fun _ h => h) rfl dX4_countSearched_1 ?_
  refine r_iload_n C dX4_countSearched_4 rfl 1 rfl ?_
  refine r_callV (As := [.int (nI r)]) C (c_X1_gaps (la := la) (N := N) (cfl := cfl) (sb := (sid kd)) (f4 := f4) (r := r) hc2 hc4 (by first | assumption | omega) (by first | assumption | omega) (by first | assumption | omega)) wM_X4_89 wI_X1_gaps wN_X1 wC_X1_gaps wV_X1_gaps hd_X1_gaps ⟨Nat.le_of_ble_eq_true rfl, Nat.le_of_ble_eq_true rfl⟩ rfl hc2 rfl rfl (Nat.le_of_ble_eq_true rfl) dX4_countSearched_5 ⟨(Nat.le_of_ble_eq_true rfl), (Nat.le_of_ble_eq_true rfl)⟩ (fun rv n2 σ2 hp => ?_)
  obtain ⟨rfl, rfl, rfl⟩ := hp
  refine V.eq (σ2 := σ) (n2 := n) (st2 := [.int (nI (gp (sid kd) N (oR (sid kd) N r) (sR (sid kd) N r)))]) rfl rfl rfl rfl ?_
  refine r_iload_n C dX4_countSearched_8 rfl 3 rfl ?_
  refine r_icmp_leN (tgt := 14) C dX4_countSearched_9 (by decide) (by omega) (by decide) (fun c9 => ?_) (fun c9 => ?_)
  · refine r_iconst (v := nI 1) C dX4_countSearched_14 (by decide) ?_
    refine r_istore (lv2 := [(4, .int (nI 1)), (0, .ref sa), (1, .int (nI r)), (2, .int (nb lt)), (3, .int (nI 0))]) C dX4_countSearched_15 (by decide) rfl ?_
    refine r_iload_n C dX4_countSearched_17 rfl 2 rfl ?_
    refine r_if_eqN (tgt := 25) C dX4_countSearched_18 (by decide) (by omega) (fun c18 => ?_) (fun c18 => ?_)
    · refine r_iload C dX4_countSearched_25 0 rfl ?_
      exact r_iret C hr hlocks (Nat.le_of_ble_eq_true rfl) (Nat.le_of_ble_eq_true rfl) dX4_countSearched_27 (hpo _ _ _ ⟨by rw [lkA, if_neg (show ¬ 0 < gpR kd N r from Nat.not_lt.mpr c9)], rfl, rfl⟩)
    · refine r_iload_n C dX4_countSearched_21 rfl 4 rfl ?_
      refine r_if_gtN (tgt := 28) C dX4_countSearched_22 (by decide) (by decide) (fun c22 => ?_) (fun c22 => ?_)
      · exact absurd c22 (by decide)
      · refine r_iload C dX4_countSearched_25 0 rfl ?_
        exact r_iret C hr hlocks (Nat.le_of_ble_eq_true rfl) (Nat.le_of_ble_eq_true rfl) dX4_countSearched_27 (hpo _ _ _ ⟨by rw [lkA, if_neg (show ¬ 0 < gpR kd N r from Nat.not_lt.mpr c9)], rfl, rfl⟩)
  · refine r_iconst (v := nI 0) C dX4_countSearched_12 (by decide) ?_
    exact r_iret C hr hlocks (Nat.le_of_ble_eq_true rfl) (Nat.le_of_ble_eq_true rfl) dX4_countSearched_13 (hpo _ _ _ ⟨by rw [lk_cut (show 0 < gpR kd N r from c9)], rfl, rfl⟩)

abbrev rm_X4_countSearched_1 : Room := { frames := 3, cells := 0, slots := 0, locals := 67 }
set_option maxRecDepth 100000 in
set_option maxHeartbeats 4000000 in
theorem c_X4_countSearched_1 {l : Launch} {G : gG} {n : Nat} {σ : gS} {sa la : Nat} {kd N sr : Nat} {sv : Value} {f3 : Nat → Int32} {f4 : Nat → Int32} {f5 : Nat → Int32} {r lt cfl : Nat} (hc0 : σ sa = some (.inr (2, [.int (nI kd), .int (nI sr), .int (nI N), .ref la, .ref (sa + 1), sv]))) (hc1 : σ (sa + 1) = some (aI G (rR (sid kd) N) f5)) (hc2 : σ la = some (.inr (1, [.int (nI N), .int (nI (rR (sid kd) N)), .int (nI (sbN (sid kd) N)), .int (nI (sm (sid kd) N - 1)), .ref (la + 1), .ref (la + 2), .ref (la + 3), .ref (la + 4)]))) (hc3 : σ (la + 3) = some (aI G (rR (sid kd) N * N) f3)) (hc4 : σ (la + 4) = some (aI G (rR (sid kd) N) f4)) (hL : LOK (sid kd) N) (h5 : ∀ r, r < rR (sid kd) N → f5 r = nI (psR kd sr N r)) (h3 : ∀ r, r < rR (sid kd) N → ∀ k, 1 ≤ k → k ≤ N → f3 (r * N + k - 1) = nI (nx (sid kd) N r k)) (h4 : ∀ r, r < rR (sid kd) N → f4 r = nI (jw (sid kd) N r)) (hrk : r < rR (sid kd) N) (hlt : lt < 10) : GM l G yX4_countSearched cX4_countSearched 6 (some .int) rm_X4_countSearched_1 n σ [.ref sa, .int (nI r), .int (nb lt), .int (nI 1)] (fun rv n2 σ2 => some (.int (nI (lkA kd sr N 1 r lt))) = rv ∧ n = n2 ∧ σ = σ2) := by
  refine GM.intro (by decide +kernel) (Nat.le_of_ble_eq_true rfl) (fun p e s m args below meth c C hr hlocks hname po hpo => ?_)
  have C : Cx p s m args c cX4_countSearched 6 RX4 G := C
  have hb9 := hL.b
  have hg6 : gp (sid kd) N (oR (sid kd) N r) (sR (sid kd) N r) ≤ 6 := gpR_le kd hL.2.1 r
  refine r_aload_n C dX4_countSearched_0 rfl 0 rfl ?_
  refine r_get (Cn := RX2) (T := TX2) (N := 6) (v := .ref la) C inlX2 hc0 rfl 3 (by decide) wF_X4_22 (fun _ h => h) rfl dX4_countSearched_1 ?_
  refine r_iload_n C dX4_countSearched_4 rfl 1 rfl ?_
  refine r_callV (As := [.int (nI r)]) C (c_X1_gaps (la := la) (N := N) (cfl := cfl) (sb := (sid kd)) (f4 := f4) (r := r) hc2 hc4 (by first | assumption | omega) (by first | assumption | omega) (by first | assumption | omega)) wM_X4_89 wI_X1_gaps wN_X1 wC_X1_gaps wV_X1_gaps hd_X1_gaps ⟨Nat.le_of_ble_eq_true rfl, Nat.le_of_ble_eq_true rfl⟩ rfl hc2 rfl rfl (Nat.le_of_ble_eq_true rfl) dX4_countSearched_5 ⟨(Nat.le_of_ble_eq_true rfl), (Nat.le_of_ble_eq_true rfl)⟩ (fun rv n2 σ2 hp => ?_)
  obtain ⟨rfl, rfl, rfl⟩ := hp
  refine V.eq (σ2 := σ) (n2 := n) (st2 := [.int (nI (gp (sid kd) N (oR (sid kd) N r) (sR (sid kd) N r)))]) rfl rfl rfl rfl ?_
  refine r_iload_n C dX4_countSearched_8 rfl 3 rfl ?_
  refine r_icmp_leN (tgt := 14) C dX4_countSearched_9 (by decide) (by omega) (by decide) (fun c9 => ?_) (fun c9 => ?_)
  · refine r_iconst (v := nI 1) C dX4_countSearched_14 (by decide) ?_
    refine r_istore (lv2 := [(4, .int (nI 1)), (0, .ref sa), (1, .int (nI r)), (2, .int (nb lt)), (3, .int (nI 1))]) C dX4_countSearched_15 (by decide) rfl ?_
    refine r_iload_n C dX4_countSearched_17 rfl 2 rfl ?_
    refine r_if_eqN (tgt := 25) C dX4_countSearched_18 (by decide) (by omega) (fun c18 => ?_) (fun c18 => ?_)
    · refine r_iload C dX4_countSearched_25 0 rfl ?_
      exact r_iret C hr hlocks (Nat.le_of_ble_eq_true rfl) (Nat.le_of_ble_eq_true rfl) dX4_countSearched_27 (hpo _ _ _ ⟨by rw [c18, lkA_0 (by rw [gpR_00 kd hL.2.1]; omega)], rfl, rfl⟩)
    · refine r_iload_n C dX4_countSearched_21 rfl 4 rfl ?_
      refine r_if_gtN (tgt := 28) C dX4_countSearched_22 (by decide) (by decide) (fun c22 => ?_) (fun c22 => ?_)
      · have hs0 := lkA_s (sr := sr) (last := lt) (show gpR kd N r ≤ 0 + 1 from c9) c18
        refine r_iconst (v := nI 1) C dX4_countSearched_28 (by decide) ?_
        refine r_istore (lv2 := [(5, .int (nI 1)), (4, .int (nI 1)), (0, .ref sa), (1, .int (nI r)), (2, .int (nb lt)), (3, .int (nI 1))]) C dX4_countSearched_29 (by decide) rfl ?_
        have L31 : ∀ (fu : Nat) (i : Nat) (cnt : Nat), (i ≤ N) → (cnt + srL kd sr N 0 r lt i = lkA kd sr N 1 r lt) → (N + 1 - i) < fu → V p l e rm_X4_countSearched_1 s m args below meth c G 6 (MQ below (gQ G po) args s rm_X4_countSearched_1.cells rm_X4_countSearched_1.slots (gF G)) 0 0 n σ 31 [(0, .ref sa), (1, .int (nI r)), (2, .int (nb lt)), (3, .int (nI 1)), (4, .int (nI cnt)), (5, .int (nI (i + 1)))] [] := by
          intro fu
          induction fu with
          | zero => intro i cnt hi hc hm; exact absurd hm (Nat.not_lt_zero _)
          | succ fu ih31 =>
            intro i cnt hi hc hm31
            refine r_iload C dX4_countSearched_31 5 rfl ?_
            refine r_aload_n C dX4_countSearched_33 rfl 0 rfl ?_
            refine r_get (Cn := RX2) (T := TX2) (N := 6) (v := .int (nI N)) C inlX2 hc0 rfl 2 (by decide) wF_X4_65 (fun _ h => h) rfl dX4_countSearched_34 ?_
            refine r_icmp_gtN (tgt := 86) C dX4_countSearched_37 (by decide) (by omega) (by omega) (fun c37 => ?_) (fun c37 => ?_)
            · have hiN : i = N := by omega
              refine r_iload C dX4_countSearched_86 4 rfl ?_
              exact r_iret C hr hlocks (Nat.le_of_ble_eq_true rfl) (Nat.le_of_ble_eq_true rfl) dX4_countSearched_88 (hpo _ _ _ ⟨by rw [hiN, srL_N] at hc; rw [← hc]; rfl, rfl, rfl⟩)
            · refine r_iload C dX4_countSearched_40 5 rfl ?_
              refine r_iload_n C dX4_countSearched_42 rfl 2 rfl ?_
              refine r_icmp_eq (tgt := 80) C dX4_countSearched_43 (by decide) (fun c43 => ?_) (fun c43 => ?_)
              · have hcn : conL kd sr N 0 r lt i = 0 := con_no (Or.inr (Or.inl (nb_eq (by omega) (by omega) c43)))
                have hst := srL_s (kd := kd) (sr := sr) (w := 0) (r := r) (last := lt) (show i < N by omega)
                refine r_iinc (v := nI (i + 2)) (lv2 := [(5, .int (nI (i + 2))), (0, .ref sa), (1, .int (nI r)), (2, .int (nb lt)), (3, .int (nI 1)), (4, .int (nI cnt))]) C dX4_countSearched_80 (k := 5) rfl (nI_add _ 1) (by decide) rfl ?_
                refine r_goto (tgt := 31) C dX4_countSearched_83 (by decide) ?_
                refine V.sub (lv2 := [(0, .ref sa), (1, .int (nI r)), (2, .int (nb lt)), (3, .int (nI 1)), (4, .int (nI cnt)), (5, .int (nI (i + 2)))]) [1, 2, 3, 4, 5, 0] rfl ?_
                refine V.eq (σ2 := σ) (lv2 := [(0, .ref sa), (1, .int (nI r)), (2, .int (nb lt)), (3, .int (nI 1)), (4, .int (nI cnt)), (5, .int (nI ((i + 1) + 1)))]) (st2 := []) rfl rfl rfl rfl ?_
                exact ih31 (i + 1) cnt (by omega) (by omega) (by omega)
              · refine r_aload_n C dX4_countSearched_46 rfl 0 rfl ?_
                refine r_iload_n C dX4_countSearched_47 rfl 1 rfl ?_
                refine r_iload C dX4_countSearched_48 5 rfl ?_
                refine r_callV (As := [.int (nI r), .int (nI (i + 1))]) C (c_X2_allows (sa := sa) (la := la) (kd := kd) (N := N) (sr := sr) (sv := sv) (f5 := f5) (r := r) (k := i + 1) hc0 hc1 (by first | assumption | omega) (by first | assumption | omega) (by first | assumption | omega) (by omega)) wM_X4_68 wI_X2_allows wN_X2 wC_X2_allows wV_X2_allows hd_X2_allows ⟨Nat.le_of_ble_eq_true rfl, Nat.le_of_ble_eq_true rfl⟩ rfl hc0 rfl rfl (Nat.le_of_ble_eq_true rfl) dX4_countSearched_50 ⟨(Nat.le_of_ble_eq_true rfl), (Nat.le_of_ble_eq_true rfl)⟩ (fun rv n2 σ2 hp => ?_)
                obtain ⟨rfl, rfl, rfl⟩ := hp
                refine V.eq (σ2 := σ) (n2 := n) (st2 := [.int (bI (okR kd sr N r (i + 1)))]) rfl rfl rfl rfl ?_
                refine r_if_eqB (tgt := 80) C dX4_countSearched_53 (by decide) (fun c53 => ?_) (fun c53 => ?_)
                · have hcn : conL kd sr N 0 r lt i = 0 := con_no (Or.inl (okR_f c53 (by omega)))
                  have hst := srL_s (kd := kd) (sr := sr) (w := 0) (r := r) (last := lt) (show i < N by omega)
                  refine r_iinc (v := nI (i + 2)) (lv2 := [(5, .int (nI (i + 2))), (0, .ref sa), (1, .int (nI r)), (2, .int (nb lt)), (3, .int (nI 1)), (4, .int (nI cnt))]) C dX4_countSearched_80 (k := 5) rfl (nI_add _ 1) (by decide) rfl ?_
                  refine r_goto (tgt := 31) C dX4_countSearched_83 (by decide) ?_
                  refine V.sub (lv2 := [(0, .ref sa), (1, .int (nI r)), (2, .int (nb lt)), (3, .int (nI 1)), (4, .int (nI cnt)), (5, .int (nI (i + 2)))]) [1, 2, 3, 4, 5, 0] rfl ?_
                  refine V.eq (σ2 := σ) (lv2 := [(0, .ref sa), (1, .int (nI r)), (2, .int (nb lt)), (3, .int (nI 1)), (4, .int (nI cnt)), (5, .int (nI ((i + 1) + 1)))]) (st2 := []) rfl rfl rfl rfl ?_
                  exact ih31 (i + 1) cnt (by omega) (by omega) (by omega)
                · have hcn := con_yes (sr := sr) (w := 0) (last := lt) (show aR1 kd sr N r (i + 1) = true from okR_al c53) (fun z => c43 (nb_eq2 z))
                  refine r_iload C dX4_countSearched_56 4 rfl ?_
                  refine r_aload_n C dX4_countSearched_58 rfl 0 rfl ?_
                  refine r_aload_n C dX4_countSearched_59 rfl 0 rfl ?_
                  refine r_get (Cn := RX2) (T := TX2) (N := 6) (v := .ref la) C inlX2 hc0 rfl 3 (by decide) wF_X4_22 (fun _ h => h) rfl dX4_countSearched_60 ?_
                  refine r_iload_n C dX4_countSearched_63 rfl 1 rfl ?_
                  refine r_iload C dX4_countSearched_64 5 rfl ?_
                  refine r_callV (As := [.int (nI r), .int (nI (i + 1))]) C (c_X1_behind (la := la) (N := N) (cfl := cfl) (sb := (sid kd)) (f3 := f3) (r := r) (k := i + 1) hc2 hc3 (by first | assumption | omega) (by first | assumption | omega) (by first | assumption | omega) (by first | assumption | omega) (by first | assumption | omega)) wM_X4_62 wI_X1_behind wN_X1 wC_X1_behind wV_X1_behind hd_X1_behind ⟨Nat.le_of_ble_eq_true rfl, Nat.le_of_ble_eq_true rfl⟩ rfl hc2 rfl rfl (Nat.le_of_ble_eq_true rfl) dX4_countSearched_66 ⟨(Nat.le_of_ble_eq_true rfl), (Nat.le_of_ble_eq_true rfl)⟩ (fun rv n2 σ2 hp => ?_)
                  obtain ⟨rfl, rfl, rfl⟩ := hp
                  refine V.eq (σ2 := σ) (n2 := n) (st2 := [.int (nI (nx (sid kd) N r (i + 1))), .ref sa, .int (nI cnt)]) rfl rfl rfl rfl ?_
                  refine r_iload C dX4_countSearched_69 5 rfl ?_
                  refine r_iload_n C dX4_countSearched_71 rfl 3 rfl ?_
                  refine r_iconst (v := nI 1) C dX4_countSearched_72 (by decide) ?_
                  refine r_isubE (v := nI 0) C dX4_countSearched_73 (by decide) ?_
                  refine r_callS (As := [.ref sa, .int (nI (nx (sid kd) N r (i + 1))), .int (nI (i + 1)), .int (nI 0)]) C (c_X4_countSearched_0 (sa := sa) (la := la) (kd := kd) (N := N) (sr := sr) (sv := sv) (f3 := f3) (f4 := f4) (f5 := f5) (r := nx (sid kd) N r (i + 1)) (lt := i + 1) (cfl := cfl) hc0 hc1 hc2 hc3 hc4 (by first | assumption | omega) (by first | assumption | omega) (by first | assumption | omega) (by first | assumption | omega) (nx_lt hL.2.1 hrk (by omega)) (by omega)) wM_X4_92 wS_X4_countSearched wN_X4 wC_X4_countSearched hd_X4_countSearched ⟨Nat.le_of_ble_eq_true rfl, Nat.le_of_ble_eq_true rfl⟩ rfl rfl (Nat.le_of_ble_eq_true rfl) dX4_countSearched_74 ⟨(Nat.le_of_ble_eq_true rfl), (Nat.le_of_ble_eq_true rfl)⟩ (fun rv n2 σ2 hp => ?_)
                  obtain ⟨rfl, rfl, rfl⟩ := hp
                  refine V.eq (σ2 := σ) (n2 := n) (st2 := [.int (nI (lkA kd sr N 0 (nx (sid kd) N r (i + 1)) (i + 1))), .int (nI cnt)]) rfl rfl rfl rfl ?_
                  refine r_iaddN C dX4_countSearched_77 ?_
                  refine r_istore (lv2 := [(4, .int (nI (cnt + (lkA kd sr N 0 (nx (sid kd) N r (i + 1)) (i + 1))))), (0, .ref sa), (1, .int (nI r)), (2, .int (nb lt)), (3, .int (nI 1)), (5, .int (nI (i + 1)))]) C dX4_countSearched_78 (by decide) rfl ?_
                  have hst := srL_s (kd := kd) (sr := sr) (w := 0) (r := r) (last := lt) (show i < N by omega)
                  refine r_iinc (v := nI (i + 2)) (lv2 := [(5, .int (nI (i + 2))), (4, .int (nI (cnt + (lkA kd sr N 0 (nx (sid kd) N r (i + 1)) (i + 1))))), (0, .ref sa), (1, .int (nI r)), (2, .int (nb lt)), (3, .int (nI 1))]) C dX4_countSearched_80 (k := 5) rfl (nI_add _ 1) (by decide) rfl ?_
                  refine r_goto (tgt := 31) C dX4_countSearched_83 (by decide) ?_
                  refine V.sub (lv2 := [(0, .ref sa), (1, .int (nI r)), (2, .int (nb lt)), (3, .int (nI 1)), (4, .int (nI (cnt + (lkA kd sr N 0 (nx (sid kd) N r (i + 1)) (i + 1))))), (5, .int (nI (i + 2)))]) [2, 3, 4, 5, 1, 0] rfl ?_
                  refine V.eq (σ2 := σ) (lv2 := [(0, .ref sa), (1, .int (nI r)), (2, .int (nb lt)), (3, .int (nI 1)), (4, .int (nI (cnt + (lkA kd sr N 0 (nx (sid kd) N r (i + 1)) (i + 1))))), (5, .int (nI ((i + 1) + 1)))]) (st2 := []) rfl rfl rfl rfl ?_
                  exact ih31 (i + 1) (cnt + (lkA kd sr N 0 (nx (sid kd) N r (i + 1)) (i + 1))) (by omega) (by omega) (by omega)
        refine V.sub (lv2 := [(0, .ref sa), (1, .int (nI r)), (2, .int (nb lt)), (3, .int (nI 1)), (4, .int (nI 1)), (5, .int (nI 1))]) [2, 3, 4, 5, 1, 0] rfl ?_
        refine V.eq (σ2 := σ) (lv2 := [(0, .ref sa), (1, .int (nI r)), (2, .int (nb lt)), (3, .int (nI 1)), (4, .int (nI 1)), (5, .int (nI (0 + 1)))]) (st2 := []) rfl rfl rfl rfl ?_
        exact L31 _ 0 1 (by omega) (hs0.symm) (Nat.lt_succ_self _)
      · exact absurd c22 (by decide)
  · refine r_iconst (v := nI 0) C dX4_countSearched_12 (by decide) ?_
    exact r_iret C hr hlocks (Nat.le_of_ble_eq_true rfl) (Nat.le_of_ble_eq_true rfl) dX4_countSearched_13 (hpo _ _ _ ⟨by rw [lk_cut (show 1 < gpR kd N r from c9)], rfl, rfl⟩)

abbrev rm_X4_countSearched_2 : Room := { frames := 4, cells := 0, slots := 0, locals := 92 }
set_option maxRecDepth 100000 in
set_option maxHeartbeats 4000000 in
theorem c_X4_countSearched_2 {l : Launch} {G : gG} {n : Nat} {σ : gS} {sa la : Nat} {kd N sr : Nat} {sv : Value} {f3 : Nat → Int32} {f4 : Nat → Int32} {f5 : Nat → Int32} {r lt cfl : Nat} (hc0 : σ sa = some (.inr (2, [.int (nI kd), .int (nI sr), .int (nI N), .ref la, .ref (sa + 1), sv]))) (hc1 : σ (sa + 1) = some (aI G (rR (sid kd) N) f5)) (hc2 : σ la = some (.inr (1, [.int (nI N), .int (nI (rR (sid kd) N)), .int (nI (sbN (sid kd) N)), .int (nI (sm (sid kd) N - 1)), .ref (la + 1), .ref (la + 2), .ref (la + 3), .ref (la + 4)]))) (hc3 : σ (la + 3) = some (aI G (rR (sid kd) N * N) f3)) (hc4 : σ (la + 4) = some (aI G (rR (sid kd) N) f4)) (hL : LOK (sid kd) N) (h5 : ∀ r, r < rR (sid kd) N → f5 r = nI (psR kd sr N r)) (h3 : ∀ r, r < rR (sid kd) N → ∀ k, 1 ≤ k → k ≤ N → f3 (r * N + k - 1) = nI (nx (sid kd) N r k)) (h4 : ∀ r, r < rR (sid kd) N → f4 r = nI (jw (sid kd) N r)) (hrk : r < rR (sid kd) N) (hlt : lt < 10) : GM l G yX4_countSearched cX4_countSearched 6 (some .int) rm_X4_countSearched_2 n σ [.ref sa, .int (nI r), .int (nb lt), .int (nI 2)] (fun rv n2 σ2 => some (.int (nI (lkA kd sr N 2 r lt))) = rv ∧ n = n2 ∧ σ = σ2) := by
  refine GM.intro (by decide +kernel) (Nat.le_of_ble_eq_true rfl) (fun p e s m args below meth c C hr hlocks hname po hpo => ?_)
  have C : Cx p s m args c cX4_countSearched 6 RX4 G := C
  have hb9 := hL.b
  have hg6 : gp (sid kd) N (oR (sid kd) N r) (sR (sid kd) N r) ≤ 6 := gpR_le kd hL.2.1 r
  refine r_aload_n C dX4_countSearched_0 rfl 0 rfl ?_
  refine r_get (Cn := RX2) (T := TX2) (N := 6) (v := .ref la) C inlX2 hc0 rfl 3 (by decide) wF_X4_22 (fun _ h => h) rfl dX4_countSearched_1 ?_
  refine r_iload_n C dX4_countSearched_4 rfl 1 rfl ?_
  refine r_callV (As := [.int (nI r)]) C (c_X1_gaps (la := la) (N := N) (cfl := cfl) (sb := (sid kd)) (f4 := f4) (r := r) hc2 hc4 (by first | assumption | omega) (by first | assumption | omega) (by first | assumption | omega)) wM_X4_89 wI_X1_gaps wN_X1 wC_X1_gaps wV_X1_gaps hd_X1_gaps ⟨Nat.le_of_ble_eq_true rfl, Nat.le_of_ble_eq_true rfl⟩ rfl hc2 rfl rfl (Nat.le_of_ble_eq_true rfl) dX4_countSearched_5 ⟨(Nat.le_of_ble_eq_true rfl), (Nat.le_of_ble_eq_true rfl)⟩ (fun rv n2 σ2 hp => ?_)
  obtain ⟨rfl, rfl, rfl⟩ := hp
  refine V.eq (σ2 := σ) (n2 := n) (st2 := [.int (nI (gp (sid kd) N (oR (sid kd) N r) (sR (sid kd) N r)))]) rfl rfl rfl rfl ?_
  refine r_iload_n C dX4_countSearched_8 rfl 3 rfl ?_
  refine r_icmp_leN (tgt := 14) C dX4_countSearched_9 (by decide) (by omega) (by decide) (fun c9 => ?_) (fun c9 => ?_)
  · refine r_iconst (v := nI 1) C dX4_countSearched_14 (by decide) ?_
    refine r_istore (lv2 := [(4, .int (nI 1)), (0, .ref sa), (1, .int (nI r)), (2, .int (nb lt)), (3, .int (nI 2))]) C dX4_countSearched_15 (by decide) rfl ?_
    refine r_iload_n C dX4_countSearched_17 rfl 2 rfl ?_
    refine r_if_eqN (tgt := 25) C dX4_countSearched_18 (by decide) (by omega) (fun c18 => ?_) (fun c18 => ?_)
    · refine r_iload C dX4_countSearched_25 0 rfl ?_
      exact r_iret C hr hlocks (Nat.le_of_ble_eq_true rfl) (Nat.le_of_ble_eq_true rfl) dX4_countSearched_27 (hpo _ _ _ ⟨by rw [c18, lkA_0 (by rw [gpR_00 kd hL.2.1]; omega)], rfl, rfl⟩)
    · refine r_iload_n C dX4_countSearched_21 rfl 4 rfl ?_
      refine r_if_gtN (tgt := 28) C dX4_countSearched_22 (by decide) (by decide) (fun c22 => ?_) (fun c22 => ?_)
      · have hs0 := lkA_s (sr := sr) (last := lt) (show gpR kd N r ≤ 1 + 1 from c9) c18
        refine r_iconst (v := nI 1) C dX4_countSearched_28 (by decide) ?_
        refine r_istore (lv2 := [(5, .int (nI 1)), (4, .int (nI 1)), (0, .ref sa), (1, .int (nI r)), (2, .int (nb lt)), (3, .int (nI 2))]) C dX4_countSearched_29 (by decide) rfl ?_
        have L31 : ∀ (fu : Nat) (i : Nat) (cnt : Nat), (i ≤ N) → (cnt + srL kd sr N 1 r lt i = lkA kd sr N 2 r lt) → (N + 1 - i) < fu → V p l e rm_X4_countSearched_2 s m args below meth c G 6 (MQ below (gQ G po) args s rm_X4_countSearched_2.cells rm_X4_countSearched_2.slots (gF G)) 0 0 n σ 31 [(0, .ref sa), (1, .int (nI r)), (2, .int (nb lt)), (3, .int (nI 2)), (4, .int (nI cnt)), (5, .int (nI (i + 1)))] [] := by
          intro fu
          induction fu with
          | zero => intro i cnt hi hc hm; exact absurd hm (Nat.not_lt_zero _)
          | succ fu ih31 =>
            intro i cnt hi hc hm31
            refine r_iload C dX4_countSearched_31 5 rfl ?_
            refine r_aload_n C dX4_countSearched_33 rfl 0 rfl ?_
            refine r_get (Cn := RX2) (T := TX2) (N := 6) (v := .int (nI N)) C inlX2 hc0 rfl 2 (by decide) wF_X4_65 (fun _ h => h) rfl dX4_countSearched_34 ?_
            refine r_icmp_gtN (tgt := 86) C dX4_countSearched_37 (by decide) (by omega) (by omega) (fun c37 => ?_) (fun c37 => ?_)
            · have hiN : i = N := by omega
              refine r_iload C dX4_countSearched_86 4 rfl ?_
              exact r_iret C hr hlocks (Nat.le_of_ble_eq_true rfl) (Nat.le_of_ble_eq_true rfl) dX4_countSearched_88 (hpo _ _ _ ⟨by rw [hiN, srL_N] at hc; rw [← hc]; rfl, rfl, rfl⟩)
            · refine r_iload C dX4_countSearched_40 5 rfl ?_
              refine r_iload_n C dX4_countSearched_42 rfl 2 rfl ?_
              refine r_icmp_eq (tgt := 80) C dX4_countSearched_43 (by decide) (fun c43 => ?_) (fun c43 => ?_)
              · have hcn : conL kd sr N 1 r lt i = 0 := con_no (Or.inr (Or.inl (nb_eq (by omega) (by omega) c43)))
                have hst := srL_s (kd := kd) (sr := sr) (w := 1) (r := r) (last := lt) (show i < N by omega)
                refine r_iinc (v := nI (i + 2)) (lv2 := [(5, .int (nI (i + 2))), (0, .ref sa), (1, .int (nI r)), (2, .int (nb lt)), (3, .int (nI 2)), (4, .int (nI cnt))]) C dX4_countSearched_80 (k := 5) rfl (nI_add _ 1) (by decide) rfl ?_
                refine r_goto (tgt := 31) C dX4_countSearched_83 (by decide) ?_
                refine V.sub (lv2 := [(0, .ref sa), (1, .int (nI r)), (2, .int (nb lt)), (3, .int (nI 2)), (4, .int (nI cnt)), (5, .int (nI (i + 2)))]) [1, 2, 3, 4, 5, 0] rfl ?_
                refine V.eq (σ2 := σ) (lv2 := [(0, .ref sa), (1, .int (nI r)), (2, .int (nb lt)), (3, .int (nI 2)), (4, .int (nI cnt)), (5, .int (nI ((i + 1) + 1)))]) (st2 := []) rfl rfl rfl rfl ?_
                exact ih31 (i + 1) cnt (by omega) (by omega) (by omega)
              · refine r_aload_n C dX4_countSearched_46 rfl 0 rfl ?_
                refine r_iload_n C dX4_countSearched_47 rfl 1 rfl ?_
                refine r_iload C dX4_countSearched_48 5 rfl ?_
                refine r_callV (As := [.int (nI r), .int (nI (i + 1))]) C (c_X2_allows (sa := sa) (la := la) (kd := kd) (N := N) (sr := sr) (sv := sv) (f5 := f5) (r := r) (k := i + 1) hc0 hc1 (by first | assumption | omega) (by first | assumption | omega) (by first | assumption | omega) (by omega)) wM_X4_68 wI_X2_allows wN_X2 wC_X2_allows wV_X2_allows hd_X2_allows ⟨Nat.le_of_ble_eq_true rfl, Nat.le_of_ble_eq_true rfl⟩ rfl hc0 rfl rfl (Nat.le_of_ble_eq_true rfl) dX4_countSearched_50 ⟨(Nat.le_of_ble_eq_true rfl), (Nat.le_of_ble_eq_true rfl)⟩ (fun rv n2 σ2 hp => ?_)
                obtain ⟨rfl, rfl, rfl⟩ := hp
                refine V.eq (σ2 := σ) (n2 := n) (st2 := [.int (bI (okR kd sr N r (i + 1)))]) rfl rfl rfl rfl ?_
                refine r_if_eqB (tgt := 80) C dX4_countSearched_53 (by decide) (fun c53 => ?_) (fun c53 => ?_)
                · have hcn : conL kd sr N 1 r lt i = 0 := con_no (Or.inl (okR_f c53 (by omega)))
                  have hst := srL_s (kd := kd) (sr := sr) (w := 1) (r := r) (last := lt) (show i < N by omega)
                  refine r_iinc (v := nI (i + 2)) (lv2 := [(5, .int (nI (i + 2))), (0, .ref sa), (1, .int (nI r)), (2, .int (nb lt)), (3, .int (nI 2)), (4, .int (nI cnt))]) C dX4_countSearched_80 (k := 5) rfl (nI_add _ 1) (by decide) rfl ?_
                  refine r_goto (tgt := 31) C dX4_countSearched_83 (by decide) ?_
                  refine V.sub (lv2 := [(0, .ref sa), (1, .int (nI r)), (2, .int (nb lt)), (3, .int (nI 2)), (4, .int (nI cnt)), (5, .int (nI (i + 2)))]) [1, 2, 3, 4, 5, 0] rfl ?_
                  refine V.eq (σ2 := σ) (lv2 := [(0, .ref sa), (1, .int (nI r)), (2, .int (nb lt)), (3, .int (nI 2)), (4, .int (nI cnt)), (5, .int (nI ((i + 1) + 1)))]) (st2 := []) rfl rfl rfl rfl ?_
                  exact ih31 (i + 1) cnt (by omega) (by omega) (by omega)
                · have hcn := con_yes (sr := sr) (w := 1) (last := lt) (show aR1 kd sr N r (i + 1) = true from okR_al c53) (fun z => c43 (nb_eq2 z))
                  refine r_iload C dX4_countSearched_56 4 rfl ?_
                  refine r_aload_n C dX4_countSearched_58 rfl 0 rfl ?_
                  refine r_aload_n C dX4_countSearched_59 rfl 0 rfl ?_
                  refine r_get (Cn := RX2) (T := TX2) (N := 6) (v := .ref la) C inlX2 hc0 rfl 3 (by decide) wF_X4_22 (fun _ h => h) rfl dX4_countSearched_60 ?_
                  refine r_iload_n C dX4_countSearched_63 rfl 1 rfl ?_
                  refine r_iload C dX4_countSearched_64 5 rfl ?_
                  refine r_callV (As := [.int (nI r), .int (nI (i + 1))]) C (c_X1_behind (la := la) (N := N) (cfl := cfl) (sb := (sid kd)) (f3 := f3) (r := r) (k := i + 1) hc2 hc3 (by first | assumption | omega) (by first | assumption | omega) (by first | assumption | omega) (by first | assumption | omega) (by first | assumption | omega)) wM_X4_62 wI_X1_behind wN_X1 wC_X1_behind wV_X1_behind hd_X1_behind ⟨Nat.le_of_ble_eq_true rfl, Nat.le_of_ble_eq_true rfl⟩ rfl hc2 rfl rfl (Nat.le_of_ble_eq_true rfl) dX4_countSearched_66 ⟨(Nat.le_of_ble_eq_true rfl), (Nat.le_of_ble_eq_true rfl)⟩ (fun rv n2 σ2 hp => ?_)
                  obtain ⟨rfl, rfl, rfl⟩ := hp
                  refine V.eq (σ2 := σ) (n2 := n) (st2 := [.int (nI (nx (sid kd) N r (i + 1))), .ref sa, .int (nI cnt)]) rfl rfl rfl rfl ?_
                  refine r_iload C dX4_countSearched_69 5 rfl ?_
                  refine r_iload_n C dX4_countSearched_71 rfl 3 rfl ?_
                  refine r_iconst (v := nI 1) C dX4_countSearched_72 (by decide) ?_
                  refine r_isubE (v := nI 1) C dX4_countSearched_73 (by decide) ?_
                  refine r_callS (As := [.ref sa, .int (nI (nx (sid kd) N r (i + 1))), .int (nI (i + 1)), .int (nI 1)]) C (c_X4_countSearched_1 (sa := sa) (la := la) (kd := kd) (N := N) (sr := sr) (sv := sv) (f3 := f3) (f4 := f4) (f5 := f5) (r := nx (sid kd) N r (i + 1)) (lt := i + 1) (cfl := cfl) hc0 hc1 hc2 hc3 hc4 (by first | assumption | omega) (by first | assumption | omega) (by first | assumption | omega) (by first | assumption | omega) (nx_lt hL.2.1 hrk (by omega)) (by omega)) wM_X4_92 wS_X4_countSearched wN_X4 wC_X4_countSearched hd_X4_countSearched ⟨Nat.le_of_ble_eq_true rfl, Nat.le_of_ble_eq_true rfl⟩ rfl rfl (Nat.le_of_ble_eq_true rfl) dX4_countSearched_74 ⟨(Nat.le_of_ble_eq_true rfl), (Nat.le_of_ble_eq_true rfl)⟩ (fun rv n2 σ2 hp => ?_)
                  obtain ⟨rfl, rfl, rfl⟩ := hp
                  refine V.eq (σ2 := σ) (n2 := n) (st2 := [.int (nI (lkA kd sr N 1 (nx (sid kd) N r (i + 1)) (i + 1))), .int (nI cnt)]) rfl rfl rfl rfl ?_
                  refine r_iaddN C dX4_countSearched_77 ?_
                  refine r_istore (lv2 := [(4, .int (nI (cnt + (lkA kd sr N 1 (nx (sid kd) N r (i + 1)) (i + 1))))), (0, .ref sa), (1, .int (nI r)), (2, .int (nb lt)), (3, .int (nI 2)), (5, .int (nI (i + 1)))]) C dX4_countSearched_78 (by decide) rfl ?_
                  have hst := srL_s (kd := kd) (sr := sr) (w := 1) (r := r) (last := lt) (show i < N by omega)
                  refine r_iinc (v := nI (i + 2)) (lv2 := [(5, .int (nI (i + 2))), (4, .int (nI (cnt + (lkA kd sr N 1 (nx (sid kd) N r (i + 1)) (i + 1))))), (0, .ref sa), (1, .int (nI r)), (2, .int (nb lt)), (3, .int (nI 2))]) C dX4_countSearched_80 (k := 5) rfl (nI_add _ 1) (by decide) rfl ?_
                  refine r_goto (tgt := 31) C dX4_countSearched_83 (by decide) ?_
                  refine V.sub (lv2 := [(0, .ref sa), (1, .int (nI r)), (2, .int (nb lt)), (3, .int (nI 2)), (4, .int (nI (cnt + (lkA kd sr N 1 (nx (sid kd) N r (i + 1)) (i + 1))))), (5, .int (nI (i + 2)))]) [2, 3, 4, 5, 1, 0] rfl ?_
                  refine V.eq (σ2 := σ) (lv2 := [(0, .ref sa), (1, .int (nI r)), (2, .int (nb lt)), (3, .int (nI 2)), (4, .int (nI (cnt + (lkA kd sr N 1 (nx (sid kd) N r (i + 1)) (i + 1))))), (5, .int (nI ((i + 1) + 1)))]) (st2 := []) rfl rfl rfl rfl ?_
                  exact ih31 (i + 1) (cnt + (lkA kd sr N 1 (nx (sid kd) N r (i + 1)) (i + 1))) (by omega) (by omega) (by omega)
        refine V.sub (lv2 := [(0, .ref sa), (1, .int (nI r)), (2, .int (nb lt)), (3, .int (nI 2)), (4, .int (nI 1)), (5, .int (nI 1))]) [2, 3, 4, 5, 1, 0] rfl ?_
        refine V.eq (σ2 := σ) (lv2 := [(0, .ref sa), (1, .int (nI r)), (2, .int (nb lt)), (3, .int (nI 2)), (4, .int (nI 1)), (5, .int (nI (0 + 1)))]) (st2 := []) rfl rfl rfl rfl ?_
        exact L31 _ 0 1 (by omega) (hs0.symm) (Nat.lt_succ_self _)
      · exact absurd c22 (by decide)
  · refine r_iconst (v := nI 0) C dX4_countSearched_12 (by decide) ?_
    exact r_iret C hr hlocks (Nat.le_of_ble_eq_true rfl) (Nat.le_of_ble_eq_true rfl) dX4_countSearched_13 (hpo _ _ _ ⟨by rw [lk_cut (show 2 < gpR kd N r from c9)], rfl, rfl⟩)

abbrev rm_X4_countSearched_3 : Room := { frames := 5, cells := 0, slots := 0, locals := 117 }
set_option maxRecDepth 100000 in
set_option maxHeartbeats 4000000 in
theorem c_X4_countSearched_3 {l : Launch} {G : gG} {n : Nat} {σ : gS} {sa la : Nat} {kd N sr : Nat} {sv : Value} {f3 : Nat → Int32} {f4 : Nat → Int32} {f5 : Nat → Int32} {r lt cfl : Nat} (hc0 : σ sa = some (.inr (2, [.int (nI kd), .int (nI sr), .int (nI N), .ref la, .ref (sa + 1), sv]))) (hc1 : σ (sa + 1) = some (aI G (rR (sid kd) N) f5)) (hc2 : σ la = some (.inr (1, [.int (nI N), .int (nI (rR (sid kd) N)), .int (nI (sbN (sid kd) N)), .int (nI (sm (sid kd) N - 1)), .ref (la + 1), .ref (la + 2), .ref (la + 3), .ref (la + 4)]))) (hc3 : σ (la + 3) = some (aI G (rR (sid kd) N * N) f3)) (hc4 : σ (la + 4) = some (aI G (rR (sid kd) N) f4)) (hL : LOK (sid kd) N) (h5 : ∀ r, r < rR (sid kd) N → f5 r = nI (psR kd sr N r)) (h3 : ∀ r, r < rR (sid kd) N → ∀ k, 1 ≤ k → k ≤ N → f3 (r * N + k - 1) = nI (nx (sid kd) N r k)) (h4 : ∀ r, r < rR (sid kd) N → f4 r = nI (jw (sid kd) N r)) (hrk : r < rR (sid kd) N) (hlt : lt < 10) : GM l G yX4_countSearched cX4_countSearched 6 (some .int) rm_X4_countSearched_3 n σ [.ref sa, .int (nI r), .int (nb lt), .int (nI 3)] (fun rv n2 σ2 => some (.int (nI (lkA kd sr N 3 r lt))) = rv ∧ n = n2 ∧ σ = σ2) := by
  refine GM.intro (by decide +kernel) (Nat.le_of_ble_eq_true rfl) (fun p e s m args below meth c C hr hlocks hname po hpo => ?_)
  have C : Cx p s m args c cX4_countSearched 6 RX4 G := C
  have hb9 := hL.b
  have hg6 : gp (sid kd) N (oR (sid kd) N r) (sR (sid kd) N r) ≤ 6 := gpR_le kd hL.2.1 r
  refine r_aload_n C dX4_countSearched_0 rfl 0 rfl ?_
  refine r_get (Cn := RX2) (T := TX2) (N := 6) (v := .ref la) C inlX2 hc0 rfl 3 (by decide) wF_X4_22 (fun _ h => h) rfl dX4_countSearched_1 ?_
  refine r_iload_n C dX4_countSearched_4 rfl 1 rfl ?_
  refine r_callV (As := [.int (nI r)]) C (c_X1_gaps (la := la) (N := N) (cfl := cfl) (sb := (sid kd)) (f4 := f4) (r := r) hc2 hc4 (by first | assumption | omega) (by first | assumption | omega) (by first | assumption | omega)) wM_X4_89 wI_X1_gaps wN_X1 wC_X1_gaps wV_X1_gaps hd_X1_gaps ⟨Nat.le_of_ble_eq_true rfl, Nat.le_of_ble_eq_true rfl⟩ rfl hc2 rfl rfl (Nat.le_of_ble_eq_true rfl) dX4_countSearched_5 ⟨(Nat.le_of_ble_eq_true rfl), (Nat.le_of_ble_eq_true rfl)⟩ (fun rv n2 σ2 hp => ?_)
  obtain ⟨rfl, rfl, rfl⟩ := hp
  refine V.eq (σ2 := σ) (n2 := n) (st2 := [.int (nI (gp (sid kd) N (oR (sid kd) N r) (sR (sid kd) N r)))]) rfl rfl rfl rfl ?_
  refine r_iload_n C dX4_countSearched_8 rfl 3 rfl ?_
  refine r_icmp_leN (tgt := 14) C dX4_countSearched_9 (by decide) (by omega) (by decide) (fun c9 => ?_) (fun c9 => ?_)
  · refine r_iconst (v := nI 1) C dX4_countSearched_14 (by decide) ?_
    refine r_istore (lv2 := [(4, .int (nI 1)), (0, .ref sa), (1, .int (nI r)), (2, .int (nb lt)), (3, .int (nI 3))]) C dX4_countSearched_15 (by decide) rfl ?_
    refine r_iload_n C dX4_countSearched_17 rfl 2 rfl ?_
    refine r_if_eqN (tgt := 25) C dX4_countSearched_18 (by decide) (by omega) (fun c18 => ?_) (fun c18 => ?_)
    · refine r_iload C dX4_countSearched_25 0 rfl ?_
      exact r_iret C hr hlocks (Nat.le_of_ble_eq_true rfl) (Nat.le_of_ble_eq_true rfl) dX4_countSearched_27 (hpo _ _ _ ⟨by rw [c18, lkA_0 (by rw [gpR_00 kd hL.2.1]; omega)], rfl, rfl⟩)
    · refine r_iload_n C dX4_countSearched_21 rfl 4 rfl ?_
      refine r_if_gtN (tgt := 28) C dX4_countSearched_22 (by decide) (by decide) (fun c22 => ?_) (fun c22 => ?_)
      · have hs0 := lkA_s (sr := sr) (last := lt) (show gpR kd N r ≤ 2 + 1 from c9) c18
        refine r_iconst (v := nI 1) C dX4_countSearched_28 (by decide) ?_
        refine r_istore (lv2 := [(5, .int (nI 1)), (4, .int (nI 1)), (0, .ref sa), (1, .int (nI r)), (2, .int (nb lt)), (3, .int (nI 3))]) C dX4_countSearched_29 (by decide) rfl ?_
        have L31 : ∀ (fu : Nat) (i : Nat) (cnt : Nat), (i ≤ N) → (cnt + srL kd sr N 2 r lt i = lkA kd sr N 3 r lt) → (N + 1 - i) < fu → V p l e rm_X4_countSearched_3 s m args below meth c G 6 (MQ below (gQ G po) args s rm_X4_countSearched_3.cells rm_X4_countSearched_3.slots (gF G)) 0 0 n σ 31 [(0, .ref sa), (1, .int (nI r)), (2, .int (nb lt)), (3, .int (nI 3)), (4, .int (nI cnt)), (5, .int (nI (i + 1)))] [] := by
          intro fu
          induction fu with
          | zero => intro i cnt hi hc hm; exact absurd hm (Nat.not_lt_zero _)
          | succ fu ih31 =>
            intro i cnt hi hc hm31
            refine r_iload C dX4_countSearched_31 5 rfl ?_
            refine r_aload_n C dX4_countSearched_33 rfl 0 rfl ?_
            refine r_get (Cn := RX2) (T := TX2) (N := 6) (v := .int (nI N)) C inlX2 hc0 rfl 2 (by decide) wF_X4_65 (fun _ h => h) rfl dX4_countSearched_34 ?_
            refine r_icmp_gtN (tgt := 86) C dX4_countSearched_37 (by decide) (by omega) (by omega) (fun c37 => ?_) (fun c37 => ?_)
            · have hiN : i = N := by omega
              refine r_iload C dX4_countSearched_86 4 rfl ?_
              exact r_iret C hr hlocks (Nat.le_of_ble_eq_true rfl) (Nat.le_of_ble_eq_true rfl) dX4_countSearched_88 (hpo _ _ _ ⟨by rw [hiN, srL_N] at hc; rw [← hc]; rfl, rfl, rfl⟩)
            · refine r_iload C dX4_countSearched_40 5 rfl ?_
              refine r_iload_n C dX4_countSearched_42 rfl 2 rfl ?_
              refine r_icmp_eq (tgt := 80) C dX4_countSearched_43 (by decide) (fun c43 => ?_) (fun c43 => ?_)
              · have hcn : conL kd sr N 2 r lt i = 0 := con_no (Or.inr (Or.inl (nb_eq (by omega) (by omega) c43)))
                have hst := srL_s (kd := kd) (sr := sr) (w := 2) (r := r) (last := lt) (show i < N by omega)
                refine r_iinc (v := nI (i + 2)) (lv2 := [(5, .int (nI (i + 2))), (0, .ref sa), (1, .int (nI r)), (2, .int (nb lt)), (3, .int (nI 3)), (4, .int (nI cnt))]) C dX4_countSearched_80 (k := 5) rfl (nI_add _ 1) (by decide) rfl ?_
                refine r_goto (tgt := 31) C dX4_countSearched_83 (by decide) ?_
                refine V.sub (lv2 := [(0, .ref sa), (1, .int (nI r)), (2, .int (nb lt)), (3, .int (nI 3)), (4, .int (nI cnt)), (5, .int (nI (i + 2)))]) [1, 2, 3, 4, 5, 0] rfl ?_
                refine V.eq (σ2 := σ) (lv2 := [(0, .ref sa), (1, .int (nI r)), (2, .int (nb lt)), (3, .int (nI 3)), (4, .int (nI cnt)), (5, .int (nI ((i + 1) + 1)))]) (st2 := []) rfl rfl rfl rfl ?_
                exact ih31 (i + 1) cnt (by omega) (by omega) (by omega)
              · refine r_aload_n C dX4_countSearched_46 rfl 0 rfl ?_
                refine r_iload_n C dX4_countSearched_47 rfl 1 rfl ?_
                refine r_iload C dX4_countSearched_48 5 rfl ?_
                refine r_callV (As := [.int (nI r), .int (nI (i + 1))]) C (c_X2_allows (sa := sa) (la := la) (kd := kd) (N := N) (sr := sr) (sv := sv) (f5 := f5) (r := r) (k := i + 1) hc0 hc1 (by first | assumption | omega) (by first | assumption | omega) (by first | assumption | omega) (by omega)) wM_X4_68 wI_X2_allows wN_X2 wC_X2_allows wV_X2_allows hd_X2_allows ⟨Nat.le_of_ble_eq_true rfl, Nat.le_of_ble_eq_true rfl⟩ rfl hc0 rfl rfl (Nat.le_of_ble_eq_true rfl) dX4_countSearched_50 ⟨(Nat.le_of_ble_eq_true rfl), (Nat.le_of_ble_eq_true rfl)⟩ (fun rv n2 σ2 hp => ?_)
                obtain ⟨rfl, rfl, rfl⟩ := hp
                refine V.eq (σ2 := σ) (n2 := n) (st2 := [.int (bI (okR kd sr N r (i + 1)))]) rfl rfl rfl rfl ?_
                refine r_if_eqB (tgt := 80) C dX4_countSearched_53 (by decide) (fun c53 => ?_) (fun c53 => ?_)
                · have hcn : conL kd sr N 2 r lt i = 0 := con_no (Or.inl (okR_f c53 (by omega)))
                  have hst := srL_s (kd := kd) (sr := sr) (w := 2) (r := r) (last := lt) (show i < N by omega)
                  refine r_iinc (v := nI (i + 2)) (lv2 := [(5, .int (nI (i + 2))), (0, .ref sa), (1, .int (nI r)), (2, .int (nb lt)), (3, .int (nI 3)), (4, .int (nI cnt))]) C dX4_countSearched_80 (k := 5) rfl (nI_add _ 1) (by decide) rfl ?_
                  refine r_goto (tgt := 31) C dX4_countSearched_83 (by decide) ?_
                  refine V.sub (lv2 := [(0, .ref sa), (1, .int (nI r)), (2, .int (nb lt)), (3, .int (nI 3)), (4, .int (nI cnt)), (5, .int (nI (i + 2)))]) [1, 2, 3, 4, 5, 0] rfl ?_
                  refine V.eq (σ2 := σ) (lv2 := [(0, .ref sa), (1, .int (nI r)), (2, .int (nb lt)), (3, .int (nI 3)), (4, .int (nI cnt)), (5, .int (nI ((i + 1) + 1)))]) (st2 := []) rfl rfl rfl rfl ?_
                  exact ih31 (i + 1) cnt (by omega) (by omega) (by omega)
                · have hcn := con_yes (sr := sr) (w := 2) (last := lt) (show aR1 kd sr N r (i + 1) = true from okR_al c53) (fun z => c43 (nb_eq2 z))
                  refine r_iload C dX4_countSearched_56 4 rfl ?_
                  refine r_aload_n C dX4_countSearched_58 rfl 0 rfl ?_
                  refine r_aload_n C dX4_countSearched_59 rfl 0 rfl ?_
                  refine r_get (Cn := RX2) (T := TX2) (N := 6) (v := .ref la) C inlX2 hc0 rfl 3 (by decide) wF_X4_22 (fun _ h => h) rfl dX4_countSearched_60 ?_
                  refine r_iload_n C dX4_countSearched_63 rfl 1 rfl ?_
                  refine r_iload C dX4_countSearched_64 5 rfl ?_
                  refine r_callV (As := [.int (nI r), .int (nI (i + 1))]) C (c_X1_behind (la := la) (N := N) (cfl := cfl) (sb := (sid kd)) (f3 := f3) (r := r) (k := i + 1) hc2 hc3 (by first | assumption | omega) (by first | assumption | omega) (by first | assumption | omega) (by first | assumption | omega) (by first | assumption | omega)) wM_X4_62 wI_X1_behind wN_X1 wC_X1_behind wV_X1_behind hd_X1_behind ⟨Nat.le_of_ble_eq_true rfl, Nat.le_of_ble_eq_true rfl⟩ rfl hc2 rfl rfl (Nat.le_of_ble_eq_true rfl) dX4_countSearched_66 ⟨(Nat.le_of_ble_eq_true rfl), (Nat.le_of_ble_eq_true rfl)⟩ (fun rv n2 σ2 hp => ?_)
                  obtain ⟨rfl, rfl, rfl⟩ := hp
                  refine V.eq (σ2 := σ) (n2 := n) (st2 := [.int (nI (nx (sid kd) N r (i + 1))), .ref sa, .int (nI cnt)]) rfl rfl rfl rfl ?_
                  refine r_iload C dX4_countSearched_69 5 rfl ?_
                  refine r_iload_n C dX4_countSearched_71 rfl 3 rfl ?_
                  refine r_iconst (v := nI 1) C dX4_countSearched_72 (by decide) ?_
                  refine r_isubE (v := nI 2) C dX4_countSearched_73 (by decide) ?_
                  refine r_callS (As := [.ref sa, .int (nI (nx (sid kd) N r (i + 1))), .int (nI (i + 1)), .int (nI 2)]) C (c_X4_countSearched_2 (sa := sa) (la := la) (kd := kd) (N := N) (sr := sr) (sv := sv) (f3 := f3) (f4 := f4) (f5 := f5) (r := nx (sid kd) N r (i + 1)) (lt := i + 1) (cfl := cfl) hc0 hc1 hc2 hc3 hc4 (by first | assumption | omega) (by first | assumption | omega) (by first | assumption | omega) (by first | assumption | omega) (nx_lt hL.2.1 hrk (by omega)) (by omega)) wM_X4_92 wS_X4_countSearched wN_X4 wC_X4_countSearched hd_X4_countSearched ⟨Nat.le_of_ble_eq_true rfl, Nat.le_of_ble_eq_true rfl⟩ rfl rfl (Nat.le_of_ble_eq_true rfl) dX4_countSearched_74 ⟨(Nat.le_of_ble_eq_true rfl), (Nat.le_of_ble_eq_true rfl)⟩ (fun rv n2 σ2 hp => ?_)
                  obtain ⟨rfl, rfl, rfl⟩ := hp
                  refine V.eq (σ2 := σ) (n2 := n) (st2 := [.int (nI (lkA kd sr N 2 (nx (sid kd) N r (i + 1)) (i + 1))), .int (nI cnt)]) rfl rfl rfl rfl ?_
                  refine r_iaddN C dX4_countSearched_77 ?_
                  refine r_istore (lv2 := [(4, .int (nI (cnt + (lkA kd sr N 2 (nx (sid kd) N r (i + 1)) (i + 1))))), (0, .ref sa), (1, .int (nI r)), (2, .int (nb lt)), (3, .int (nI 3)), (5, .int (nI (i + 1)))]) C dX4_countSearched_78 (by decide) rfl ?_
                  have hst := srL_s (kd := kd) (sr := sr) (w := 2) (r := r) (last := lt) (show i < N by omega)
                  refine r_iinc (v := nI (i + 2)) (lv2 := [(5, .int (nI (i + 2))), (4, .int (nI (cnt + (lkA kd sr N 2 (nx (sid kd) N r (i + 1)) (i + 1))))), (0, .ref sa), (1, .int (nI r)), (2, .int (nb lt)), (3, .int (nI 3))]) C dX4_countSearched_80 (k := 5) rfl (nI_add _ 1) (by decide) rfl ?_
                  refine r_goto (tgt := 31) C dX4_countSearched_83 (by decide) ?_
                  refine V.sub (lv2 := [(0, .ref sa), (1, .int (nI r)), (2, .int (nb lt)), (3, .int (nI 3)), (4, .int (nI (cnt + (lkA kd sr N 2 (nx (sid kd) N r (i + 1)) (i + 1))))), (5, .int (nI (i + 2)))]) [2, 3, 4, 5, 1, 0] rfl ?_
                  refine V.eq (σ2 := σ) (lv2 := [(0, .ref sa), (1, .int (nI r)), (2, .int (nb lt)), (3, .int (nI 3)), (4, .int (nI (cnt + (lkA kd sr N 2 (nx (sid kd) N r (i + 1)) (i + 1))))), (5, .int (nI ((i + 1) + 1)))]) (st2 := []) rfl rfl rfl rfl ?_
                  exact ih31 (i + 1) (cnt + (lkA kd sr N 2 (nx (sid kd) N r (i + 1)) (i + 1))) (by omega) (by omega) (by omega)
        refine V.sub (lv2 := [(0, .ref sa), (1, .int (nI r)), (2, .int (nb lt)), (3, .int (nI 3)), (4, .int (nI 1)), (5, .int (nI 1))]) [2, 3, 4, 5, 1, 0] rfl ?_
        refine V.eq (σ2 := σ) (lv2 := [(0, .ref sa), (1, .int (nI r)), (2, .int (nb lt)), (3, .int (nI 3)), (4, .int (nI 1)), (5, .int (nI (0 + 1)))]) (st2 := []) rfl rfl rfl rfl ?_
        exact L31 _ 0 1 (by omega) (hs0.symm) (Nat.lt_succ_self _)
      · exact absurd c22 (by decide)
  · refine r_iconst (v := nI 0) C dX4_countSearched_12 (by decide) ?_
    exact r_iret C hr hlocks (Nat.le_of_ble_eq_true rfl) (Nat.le_of_ble_eq_true rfl) dX4_countSearched_13 (hpo _ _ _ ⟨by rw [lk_cut (show 3 < gpR kd N r from c9)], rfl, rfl⟩)

abbrev rm_X4_countSearched_4 : Room := { frames := 6, cells := 0, slots := 0, locals := 142 }
set_option maxRecDepth 100000 in
set_option maxHeartbeats 4000000 in
theorem c_X4_countSearched_4 {l : Launch} {G : gG} {n : Nat} {σ : gS} {sa la : Nat} {kd N sr : Nat} {sv : Value} {f3 : Nat → Int32} {f4 : Nat → Int32} {f5 : Nat → Int32} {r lt cfl : Nat} (hc0 : σ sa = some (.inr (2, [.int (nI kd), .int (nI sr), .int (nI N), .ref la, .ref (sa + 1), sv]))) (hc1 : σ (sa + 1) = some (aI G (rR (sid kd) N) f5)) (hc2 : σ la = some (.inr (1, [.int (nI N), .int (nI (rR (sid kd) N)), .int (nI (sbN (sid kd) N)), .int (nI (sm (sid kd) N - 1)), .ref (la + 1), .ref (la + 2), .ref (la + 3), .ref (la + 4)]))) (hc3 : σ (la + 3) = some (aI G (rR (sid kd) N * N) f3)) (hc4 : σ (la + 4) = some (aI G (rR (sid kd) N) f4)) (hL : LOK (sid kd) N) (h5 : ∀ r, r < rR (sid kd) N → f5 r = nI (psR kd sr N r)) (h3 : ∀ r, r < rR (sid kd) N → ∀ k, 1 ≤ k → k ≤ N → f3 (r * N + k - 1) = nI (nx (sid kd) N r k)) (h4 : ∀ r, r < rR (sid kd) N → f4 r = nI (jw (sid kd) N r)) (hrk : r < rR (sid kd) N) (hlt : lt < 10) : GM l G yX4_countSearched cX4_countSearched 6 (some .int) rm_X4_countSearched_4 n σ [.ref sa, .int (nI r), .int (nb lt), .int (nI 4)] (fun rv n2 σ2 => some (.int (nI (lkA kd sr N 4 r lt))) = rv ∧ n = n2 ∧ σ = σ2) := by
  refine GM.intro (by decide +kernel) (Nat.le_of_ble_eq_true rfl) (fun p e s m args below meth c C hr hlocks hname po hpo => ?_)
  have C : Cx p s m args c cX4_countSearched 6 RX4 G := C
  have hb9 := hL.b
  have hg6 : gp (sid kd) N (oR (sid kd) N r) (sR (sid kd) N r) ≤ 6 := gpR_le kd hL.2.1 r
  refine r_aload_n C dX4_countSearched_0 rfl 0 rfl ?_
  refine r_get (Cn := RX2) (T := TX2) (N := 6) (v := .ref la) C inlX2 hc0 rfl 3 (by decide) wF_X4_22 (fun _ h => h) rfl dX4_countSearched_1 ?_
  refine r_iload_n C dX4_countSearched_4 rfl 1 rfl ?_
  refine r_callV (As := [.int (nI r)]) C (c_X1_gaps (la := la) (N := N) (cfl := cfl) (sb := (sid kd)) (f4 := f4) (r := r) hc2 hc4 (by first | assumption | omega) (by first | assumption | omega) (by first | assumption | omega)) wM_X4_89 wI_X1_gaps wN_X1 wC_X1_gaps wV_X1_gaps hd_X1_gaps ⟨Nat.le_of_ble_eq_true rfl, Nat.le_of_ble_eq_true rfl⟩ rfl hc2 rfl rfl (Nat.le_of_ble_eq_true rfl) dX4_countSearched_5 ⟨(Nat.le_of_ble_eq_true rfl), (Nat.le_of_ble_eq_true rfl)⟩ (fun rv n2 σ2 hp => ?_)
  obtain ⟨rfl, rfl, rfl⟩ := hp
  refine V.eq (σ2 := σ) (n2 := n) (st2 := [.int (nI (gp (sid kd) N (oR (sid kd) N r) (sR (sid kd) N r)))]) rfl rfl rfl rfl ?_
  refine r_iload_n C dX4_countSearched_8 rfl 3 rfl ?_
  refine r_icmp_leN (tgt := 14) C dX4_countSearched_9 (by decide) (by omega) (by decide) (fun c9 => ?_) (fun c9 => ?_)
  · refine r_iconst (v := nI 1) C dX4_countSearched_14 (by decide) ?_
    refine r_istore (lv2 := [(4, .int (nI 1)), (0, .ref sa), (1, .int (nI r)), (2, .int (nb lt)), (3, .int (nI 4))]) C dX4_countSearched_15 (by decide) rfl ?_
    refine r_iload_n C dX4_countSearched_17 rfl 2 rfl ?_
    refine r_if_eqN (tgt := 25) C dX4_countSearched_18 (by decide) (by omega) (fun c18 => ?_) (fun c18 => ?_)
    · refine r_iload C dX4_countSearched_25 0 rfl ?_
      exact r_iret C hr hlocks (Nat.le_of_ble_eq_true rfl) (Nat.le_of_ble_eq_true rfl) dX4_countSearched_27 (hpo _ _ _ ⟨by rw [c18, lkA_0 (by rw [gpR_00 kd hL.2.1]; omega)], rfl, rfl⟩)
    · refine r_iload_n C dX4_countSearched_21 rfl 4 rfl ?_
      refine r_if_gtN (tgt := 28) C dX4_countSearched_22 (by decide) (by decide) (fun c22 => ?_) (fun c22 => ?_)
      · have hs0 := lkA_s (sr := sr) (last := lt) (show gpR kd N r ≤ 3 + 1 from c9) c18
        refine r_iconst (v := nI 1) C dX4_countSearched_28 (by decide) ?_
        refine r_istore (lv2 := [(5, .int (nI 1)), (4, .int (nI 1)), (0, .ref sa), (1, .int (nI r)), (2, .int (nb lt)), (3, .int (nI 4))]) C dX4_countSearched_29 (by decide) rfl ?_
        have L31 : ∀ (fu : Nat) (i : Nat) (cnt : Nat), (i ≤ N) → (cnt + srL kd sr N 3 r lt i = lkA kd sr N 4 r lt) → (N + 1 - i) < fu → V p l e rm_X4_countSearched_4 s m args below meth c G 6 (MQ below (gQ G po) args s rm_X4_countSearched_4.cells rm_X4_countSearched_4.slots (gF G)) 0 0 n σ 31 [(0, .ref sa), (1, .int (nI r)), (2, .int (nb lt)), (3, .int (nI 4)), (4, .int (nI cnt)), (5, .int (nI (i + 1)))] [] := by
          intro fu
          induction fu with
          | zero => intro i cnt hi hc hm; exact absurd hm (Nat.not_lt_zero _)
          | succ fu ih31 =>
            intro i cnt hi hc hm31
            refine r_iload C dX4_countSearched_31 5 rfl ?_
            refine r_aload_n C dX4_countSearched_33 rfl 0 rfl ?_
            refine r_get (Cn := RX2) (T := TX2) (N := 6) (v := .int (nI N)) C inlX2 hc0 rfl 2 (by decide) wF_X4_65 (fun _ h => h) rfl dX4_countSearched_34 ?_
            refine r_icmp_gtN (tgt := 86) C dX4_countSearched_37 (by decide) (by omega) (by omega) (fun c37 => ?_) (fun c37 => ?_)
            · have hiN : i = N := by omega
              refine r_iload C dX4_countSearched_86 4 rfl ?_
              exact r_iret C hr hlocks (Nat.le_of_ble_eq_true rfl) (Nat.le_of_ble_eq_true rfl) dX4_countSearched_88 (hpo _ _ _ ⟨by rw [hiN, srL_N] at hc; rw [← hc]; rfl, rfl, rfl⟩)
            · refine r_iload C dX4_countSearched_40 5 rfl ?_
              refine r_iload_n C dX4_countSearched_42 rfl 2 rfl ?_
              refine r_icmp_eq (tgt := 80) C dX4_countSearched_43 (by decide) (fun c43 => ?_) (fun c43 => ?_)
              · have hcn : conL kd sr N 3 r lt i = 0 := con_no (Or.inr (Or.inl (nb_eq (by omega) (by omega) c43)))
                have hst := srL_s (kd := kd) (sr := sr) (w := 3) (r := r) (last := lt) (show i < N by omega)
                refine r_iinc (v := nI (i + 2)) (lv2 := [(5, .int (nI (i + 2))), (0, .ref sa), (1, .int (nI r)), (2, .int (nb lt)), (3, .int (nI 4)), (4, .int (nI cnt))]) C dX4_countSearched_80 (k := 5) rfl (nI_add _ 1) (by decide) rfl ?_
                refine r_goto (tgt := 31) C dX4_countSearched_83 (by decide) ?_
                refine V.sub (lv2 := [(0, .ref sa), (1, .int (nI r)), (2, .int (nb lt)), (3, .int (nI 4)), (4, .int (nI cnt)), (5, .int (nI (i + 2)))]) [1, 2, 3, 4, 5, 0] rfl ?_
                refine V.eq (σ2 := σ) (lv2 := [(0, .ref sa), (1, .int (nI r)), (2, .int (nb lt)), (3, .int (nI 4)), (4, .int (nI cnt)), (5, .int (nI ((i + 1) + 1)))]) (st2 := []) rfl rfl rfl rfl ?_
                exact ih31 (i + 1) cnt (by omega) (by omega) (by omega)
              · refine r_aload_n C dX4_countSearched_46 rfl 0 rfl ?_
                refine r_iload_n C dX4_countSearched_47 rfl 1 rfl ?_
                refine r_iload C dX4_countSearched_48 5 rfl ?_
                refine r_callV (As := [.int (nI r), .int (nI (i + 1))]) C (c_X2_allows (sa := sa) (la := la) (kd := kd) (N := N) (sr := sr) (sv := sv) (f5 := f5) (r := r) (k := i + 1) hc0 hc1 (by first | assumption | omega) (by first | assumption | omega) (by first | assumption | omega) (by omega)) wM_X4_68 wI_X2_allows wN_X2 wC_X2_allows wV_X2_allows hd_X2_allows ⟨Nat.le_of_ble_eq_true rfl, Nat.le_of_ble_eq_true rfl⟩ rfl hc0 rfl rfl (Nat.le_of_ble_eq_true rfl) dX4_countSearched_50 ⟨(Nat.le_of_ble_eq_true rfl), (Nat.le_of_ble_eq_true rfl)⟩ (fun rv n2 σ2 hp => ?_)
                obtain ⟨rfl, rfl, rfl⟩ := hp
                refine V.eq (σ2 := σ) (n2 := n) (st2 := [.int (bI (okR kd sr N r (i + 1)))]) rfl rfl rfl rfl ?_
                refine r_if_eqB (tgt := 80) C dX4_countSearched_53 (by decide) (fun c53 => ?_) (fun c53 => ?_)
                · have hcn : conL kd sr N 3 r lt i = 0 := con_no (Or.inl (okR_f c53 (by omega)))
                  have hst := srL_s (kd := kd) (sr := sr) (w := 3) (r := r) (last := lt) (show i < N by omega)
                  refine r_iinc (v := nI (i + 2)) (lv2 := [(5, .int (nI (i + 2))), (0, .ref sa), (1, .int (nI r)), (2, .int (nb lt)), (3, .int (nI 4)), (4, .int (nI cnt))]) C dX4_countSearched_80 (k := 5) rfl (nI_add _ 1) (by decide) rfl ?_
                  refine r_goto (tgt := 31) C dX4_countSearched_83 (by decide) ?_
                  refine V.sub (lv2 := [(0, .ref sa), (1, .int (nI r)), (2, .int (nb lt)), (3, .int (nI 4)), (4, .int (nI cnt)), (5, .int (nI (i + 2)))]) [1, 2, 3, 4, 5, 0] rfl ?_
                  refine V.eq (σ2 := σ) (lv2 := [(0, .ref sa), (1, .int (nI r)), (2, .int (nb lt)), (3, .int (nI 4)), (4, .int (nI cnt)), (5, .int (nI ((i + 1) + 1)))]) (st2 := []) rfl rfl rfl rfl ?_
                  exact ih31 (i + 1) cnt (by omega) (by omega) (by omega)
                · have hcn := con_yes (sr := sr) (w := 3) (last := lt) (show aR1 kd sr N r (i + 1) = true from okR_al c53) (fun z => c43 (nb_eq2 z))
                  refine r_iload C dX4_countSearched_56 4 rfl ?_
                  refine r_aload_n C dX4_countSearched_58 rfl 0 rfl ?_
                  refine r_aload_n C dX4_countSearched_59 rfl 0 rfl ?_
                  refine r_get (Cn := RX2) (T := TX2) (N := 6) (v := .ref la) C inlX2 hc0 rfl 3 (by decide) wF_X4_22 (fun _ h => h) rfl dX4_countSearched_60 ?_
                  refine r_iload_n C dX4_countSearched_63 rfl 1 rfl ?_
                  refine r_iload C dX4_countSearched_64 5 rfl ?_
                  refine r_callV (As := [.int (nI r), .int (nI (i + 1))]) C (c_X1_behind (la := la) (N := N) (cfl := cfl) (sb := (sid kd)) (f3 := f3) (r := r) (k := i + 1) hc2 hc3 (by first | assumption | omega) (by first | assumption | omega) (by first | assumption | omega) (by first | assumption | omega) (by first | assumption | omega)) wM_X4_62 wI_X1_behind wN_X1 wC_X1_behind wV_X1_behind hd_X1_behind ⟨Nat.le_of_ble_eq_true rfl, Nat.le_of_ble_eq_true rfl⟩ rfl hc2 rfl rfl (Nat.le_of_ble_eq_true rfl) dX4_countSearched_66 ⟨(Nat.le_of_ble_eq_true rfl), (Nat.le_of_ble_eq_true rfl)⟩ (fun rv n2 σ2 hp => ?_)
                  obtain ⟨rfl, rfl, rfl⟩ := hp
                  refine V.eq (σ2 := σ) (n2 := n) (st2 := [.int (nI (nx (sid kd) N r (i + 1))), .ref sa, .int (nI cnt)]) rfl rfl rfl rfl ?_
                  refine r_iload C dX4_countSearched_69 5 rfl ?_
                  refine r_iload_n C dX4_countSearched_71 rfl 3 rfl ?_
                  refine r_iconst (v := nI 1) C dX4_countSearched_72 (by decide) ?_
                  refine r_isubE (v := nI 3) C dX4_countSearched_73 (by decide) ?_
                  refine r_callS (As := [.ref sa, .int (nI (nx (sid kd) N r (i + 1))), .int (nI (i + 1)), .int (nI 3)]) C (c_X4_countSearched_3 (sa := sa) (la := la) (kd := kd) (N := N) (sr := sr) (sv := sv) (f3 := f3) (f4 := f4) (f5 := f5) (r := nx (sid kd) N r (i + 1)) (lt := i + 1) (cfl := cfl) hc0 hc1 hc2 hc3 hc4 (by first | assumption | omega) (by first | assumption | omega) (by first | assumption | omega) (by first | assumption | omega) (nx_lt hL.2.1 hrk (by omega)) (by omega)) wM_X4_92 wS_X4_countSearched wN_X4 wC_X4_countSearched hd_X4_countSearched ⟨Nat.le_of_ble_eq_true rfl, Nat.le_of_ble_eq_true rfl⟩ rfl rfl (Nat.le_of_ble_eq_true rfl) dX4_countSearched_74 ⟨(Nat.le_of_ble_eq_true rfl), (Nat.le_of_ble_eq_true rfl)⟩ (fun rv n2 σ2 hp => ?_)
                  obtain ⟨rfl, rfl, rfl⟩ := hp
                  refine V.eq (σ2 := σ) (n2 := n) (st2 := [.int (nI (lkA kd sr N 3 (nx (sid kd) N r (i + 1)) (i + 1))), .int (nI cnt)]) rfl rfl rfl rfl ?_
                  refine r_iaddN C dX4_countSearched_77 ?_
                  refine r_istore (lv2 := [(4, .int (nI (cnt + (lkA kd sr N 3 (nx (sid kd) N r (i + 1)) (i + 1))))), (0, .ref sa), (1, .int (nI r)), (2, .int (nb lt)), (3, .int (nI 4)), (5, .int (nI (i + 1)))]) C dX4_countSearched_78 (by decide) rfl ?_
                  have hst := srL_s (kd := kd) (sr := sr) (w := 3) (r := r) (last := lt) (show i < N by omega)
                  refine r_iinc (v := nI (i + 2)) (lv2 := [(5, .int (nI (i + 2))), (4, .int (nI (cnt + (lkA kd sr N 3 (nx (sid kd) N r (i + 1)) (i + 1))))), (0, .ref sa), (1, .int (nI r)), (2, .int (nb lt)), (3, .int (nI 4))]) C dX4_countSearched_80 (k := 5) rfl (nI_add _ 1) (by decide) rfl ?_
                  refine r_goto (tgt := 31) C dX4_countSearched_83 (by decide) ?_
                  refine V.sub (lv2 := [(0, .ref sa), (1, .int (nI r)), (2, .int (nb lt)), (3, .int (nI 4)), (4, .int (nI (cnt + (lkA kd sr N 3 (nx (sid kd) N r (i + 1)) (i + 1))))), (5, .int (nI (i + 2)))]) [2, 3, 4, 5, 1, 0] rfl ?_
                  refine V.eq (σ2 := σ) (lv2 := [(0, .ref sa), (1, .int (nI r)), (2, .int (nb lt)), (3, .int (nI 4)), (4, .int (nI (cnt + (lkA kd sr N 3 (nx (sid kd) N r (i + 1)) (i + 1))))), (5, .int (nI ((i + 1) + 1)))]) (st2 := []) rfl rfl rfl rfl ?_
                  exact ih31 (i + 1) (cnt + (lkA kd sr N 3 (nx (sid kd) N r (i + 1)) (i + 1))) (by omega) (by omega) (by omega)
        refine V.sub (lv2 := [(0, .ref sa), (1, .int (nI r)), (2, .int (nb lt)), (3, .int (nI 4)), (4, .int (nI 1)), (5, .int (nI 1))]) [2, 3, 4, 5, 1, 0] rfl ?_
        refine V.eq (σ2 := σ) (lv2 := [(0, .ref sa), (1, .int (nI r)), (2, .int (nb lt)), (3, .int (nI 4)), (4, .int (nI 1)), (5, .int (nI (0 + 1)))]) (st2 := []) rfl rfl rfl rfl ?_
        exact L31 _ 0 1 (by omega) (hs0.symm) (Nat.lt_succ_self _)
      · exact absurd c22 (by decide)
  · refine r_iconst (v := nI 0) C dX4_countSearched_12 (by decide) ?_
    exact r_iret C hr hlocks (Nat.le_of_ble_eq_true rfl) (Nat.le_of_ble_eq_true rfl) dX4_countSearched_13 (hpo _ _ _ ⟨by rw [lk_cut (show 4 < gpR kd N r from c9)], rfl, rfl⟩)

abbrev rm_X4_countSearched_5 : Room := { frames := 7, cells := 0, slots := 0, locals := 167 }
set_option maxRecDepth 100000 in
set_option maxHeartbeats 4000000 in
theorem c_X4_countSearched_5 {l : Launch} {G : gG} {n : Nat} {σ : gS} {sa la : Nat} {kd N sr : Nat} {sv : Value} {f3 : Nat → Int32} {f4 : Nat → Int32} {f5 : Nat → Int32} {r lt cfl : Nat} (hc0 : σ sa = some (.inr (2, [.int (nI kd), .int (nI sr), .int (nI N), .ref la, .ref (sa + 1), sv]))) (hc1 : σ (sa + 1) = some (aI G (rR (sid kd) N) f5)) (hc2 : σ la = some (.inr (1, [.int (nI N), .int (nI (rR (sid kd) N)), .int (nI (sbN (sid kd) N)), .int (nI (sm (sid kd) N - 1)), .ref (la + 1), .ref (la + 2), .ref (la + 3), .ref (la + 4)]))) (hc3 : σ (la + 3) = some (aI G (rR (sid kd) N * N) f3)) (hc4 : σ (la + 4) = some (aI G (rR (sid kd) N) f4)) (hL : LOK (sid kd) N) (h5 : ∀ r, r < rR (sid kd) N → f5 r = nI (psR kd sr N r)) (h3 : ∀ r, r < rR (sid kd) N → ∀ k, 1 ≤ k → k ≤ N → f3 (r * N + k - 1) = nI (nx (sid kd) N r k)) (h4 : ∀ r, r < rR (sid kd) N → f4 r = nI (jw (sid kd) N r)) (hrk : r < rR (sid kd) N) (hlt : lt < 10) : GM l G yX4_countSearched cX4_countSearched 6 (some .int) rm_X4_countSearched_5 n σ [.ref sa, .int (nI r), .int (nb lt), .int (nI 5)] (fun rv n2 σ2 => some (.int (nI (lkA kd sr N 5 r lt))) = rv ∧ n = n2 ∧ σ = σ2) := by
  refine GM.intro (by decide +kernel) (Nat.le_of_ble_eq_true rfl) (fun p e s m args below meth c C hr hlocks hname po hpo => ?_)
  have C : Cx p s m args c cX4_countSearched 6 RX4 G := C
  have hb9 := hL.b
  have hg6 : gp (sid kd) N (oR (sid kd) N r) (sR (sid kd) N r) ≤ 6 := gpR_le kd hL.2.1 r
  refine r_aload_n C dX4_countSearched_0 rfl 0 rfl ?_
  refine r_get (Cn := RX2) (T := TX2) (N := 6) (v := .ref la) C inlX2 hc0 rfl 3 (by decide) wF_X4_22 (fun _ h => h) rfl dX4_countSearched_1 ?_
  refine r_iload_n C dX4_countSearched_4 rfl 1 rfl ?_
  refine r_callV (As := [.int (nI r)]) C (c_X1_gaps (la := la) (N := N) (cfl := cfl) (sb := (sid kd)) (f4 := f4) (r := r) hc2 hc4 (by first | assumption | omega) (by first | assumption | omega) (by first | assumption | omega)) wM_X4_89 wI_X1_gaps wN_X1 wC_X1_gaps wV_X1_gaps hd_X1_gaps ⟨Nat.le_of_ble_eq_true rfl, Nat.le_of_ble_eq_true rfl⟩ rfl hc2 rfl rfl (Nat.le_of_ble_eq_true rfl) dX4_countSearched_5 ⟨(Nat.le_of_ble_eq_true rfl), (Nat.le_of_ble_eq_true rfl)⟩ (fun rv n2 σ2 hp => ?_)
  obtain ⟨rfl, rfl, rfl⟩ := hp
  refine V.eq (σ2 := σ) (n2 := n) (st2 := [.int (nI (gp (sid kd) N (oR (sid kd) N r) (sR (sid kd) N r)))]) rfl rfl rfl rfl ?_
  refine r_iload_n C dX4_countSearched_8 rfl 3 rfl ?_
  refine r_icmp_leN (tgt := 14) C dX4_countSearched_9 (by decide) (by omega) (by decide) (fun c9 => ?_) (fun c9 => ?_)
  · refine r_iconst (v := nI 1) C dX4_countSearched_14 (by decide) ?_
    refine r_istore (lv2 := [(4, .int (nI 1)), (0, .ref sa), (1, .int (nI r)), (2, .int (nb lt)), (3, .int (nI 5))]) C dX4_countSearched_15 (by decide) rfl ?_
    refine r_iload_n C dX4_countSearched_17 rfl 2 rfl ?_
    refine r_if_eqN (tgt := 25) C dX4_countSearched_18 (by decide) (by omega) (fun c18 => ?_) (fun c18 => ?_)
    · refine r_iload C dX4_countSearched_25 0 rfl ?_
      exact r_iret C hr hlocks (Nat.le_of_ble_eq_true rfl) (Nat.le_of_ble_eq_true rfl) dX4_countSearched_27 (hpo _ _ _ ⟨by rw [c18, lkA_0 (by rw [gpR_00 kd hL.2.1]; omega)], rfl, rfl⟩)
    · refine r_iload_n C dX4_countSearched_21 rfl 4 rfl ?_
      refine r_if_gtN (tgt := 28) C dX4_countSearched_22 (by decide) (by decide) (fun c22 => ?_) (fun c22 => ?_)
      · have hs0 := lkA_s (sr := sr) (last := lt) (show gpR kd N r ≤ 4 + 1 from c9) c18
        refine r_iconst (v := nI 1) C dX4_countSearched_28 (by decide) ?_
        refine r_istore (lv2 := [(5, .int (nI 1)), (4, .int (nI 1)), (0, .ref sa), (1, .int (nI r)), (2, .int (nb lt)), (3, .int (nI 5))]) C dX4_countSearched_29 (by decide) rfl ?_
        have L31 : ∀ (fu : Nat) (i : Nat) (cnt : Nat), (i ≤ N) → (cnt + srL kd sr N 4 r lt i = lkA kd sr N 5 r lt) → (N + 1 - i) < fu → V p l e rm_X4_countSearched_5 s m args below meth c G 6 (MQ below (gQ G po) args s rm_X4_countSearched_5.cells rm_X4_countSearched_5.slots (gF G)) 0 0 n σ 31 [(0, .ref sa), (1, .int (nI r)), (2, .int (nb lt)), (3, .int (nI 5)), (4, .int (nI cnt)), (5, .int (nI (i + 1)))] [] := by
          intro fu
          induction fu with
          | zero => intro i cnt hi hc hm; exact absurd hm (Nat.not_lt_zero _)
          | succ fu ih31 =>
            intro i cnt hi hc hm31
            refine r_iload C dX4_countSearched_31 5 rfl ?_
            refine r_aload_n C dX4_countSearched_33 rfl 0 rfl ?_
            refine r_get (Cn := RX2) (T := TX2) (N := 6) (v := .int (nI N)) C inlX2 hc0 rfl 2 (by decide) wF_X4_65 (fun _ h => h) rfl dX4_countSearched_34 ?_
            refine r_icmp_gtN (tgt := 86) C dX4_countSearched_37 (by decide) (by omega) (by omega) (fun c37 => ?_) (fun c37 => ?_)
            · have hiN : i = N := by omega
              refine r_iload C dX4_countSearched_86 4 rfl ?_
              exact r_iret C hr hlocks (Nat.le_of_ble_eq_true rfl) (Nat.le_of_ble_eq_true rfl) dX4_countSearched_88 (hpo _ _ _ ⟨by rw [hiN, srL_N] at hc; rw [← hc]; rfl, rfl, rfl⟩)
            · refine r_iload C dX4_countSearched_40 5 rfl ?_
              refine r_iload_n C dX4_countSearched_42 rfl 2 rfl ?_
              refine r_icmp_eq (tgt := 80) C dX4_countSearched_43 (by decide) (fun c43 => ?_) (fun c43 => ?_)
              · have hcn : conL kd sr N 4 r lt i = 0 := con_no (Or.inr (Or.inl (nb_eq (by omega) (by omega) c43)))
                have hst := srL_s (kd := kd) (sr := sr) (w := 4) (r := r) (last := lt) (show i < N by omega)
                refine r_iinc (v := nI (i + 2)) (lv2 := [(5, .int (nI (i + 2))), (0, .ref sa), (1, .int (nI r)), (2, .int (nb lt)), (3, .int (nI 5)), (4, .int (nI cnt))]) C dX4_countSearched_80 (k := 5) rfl (nI_add _ 1) (by decide) rfl ?_
                refine r_goto (tgt := 31) C dX4_countSearched_83 (by decide) ?_
                refine V.sub (lv2 := [(0, .ref sa), (1, .int (nI r)), (2, .int (nb lt)), (3, .int (nI 5)), (4, .int (nI cnt)), (5, .int (nI (i + 2)))]) [1, 2, 3, 4, 5, 0] rfl ?_
                refine V.eq (σ2 := σ) (lv2 := [(0, .ref sa), (1, .int (nI r)), (2, .int (nb lt)), (3, .int (nI 5)), (4, .int (nI cnt)), (5, .int (nI ((i + 1) + 1)))]) (st2 := []) rfl rfl rfl rfl ?_
                exact ih31 (i + 1) cnt (by omega) (by omega) (by omega)
              · refine r_aload_n C dX4_countSearched_46 rfl 0 rfl ?_
                refine r_iload_n C dX4_countSearched_47 rfl 1 rfl ?_
                refine r_iload C dX4_countSearched_48 5 rfl ?_
                refine r_callV (As := [.int (nI r), .int (nI (i + 1))]) C (c_X2_allows (sa := sa) (la := la) (kd := kd) (N := N) (sr := sr) (sv := sv) (f5 := f5) (r := r) (k := i + 1) hc0 hc1 (by first | assumption | omega) (by first | assumption | omega) (by first | assumption | omega) (by omega)) wM_X4_68 wI_X2_allows wN_X2 wC_X2_allows wV_X2_allows hd_X2_allows ⟨Nat.le_of_ble_eq_true rfl, Nat.le_of_ble_eq_true rfl⟩ rfl hc0 rfl rfl (Nat.le_of_ble_eq_true rfl) dX4_countSearched_50 ⟨(Nat.le_of_ble_eq_true rfl), (Nat.le_of_ble_eq_true rfl)⟩ (fun rv n2 σ2 hp => ?_)
                obtain ⟨rfl, rfl, rfl⟩ := hp
                refine V.eq (σ2 := σ) (n2 := n) (st2 := [.int (bI (okR kd sr N r (i + 1)))]) rfl rfl rfl rfl ?_
                refine r_if_eqB (tgt := 80) C dX4_countSearched_53 (by decide) (fun c53 => ?_) (fun c53 => ?_)
                · have hcn : conL kd sr N 4 r lt i = 0 := con_no (Or.inl (okR_f c53 (by omega)))
                  have hst := srL_s (kd := kd) (sr := sr) (w := 4) (r := r) (last := lt) (show i < N by omega)
                  refine r_iinc (v := nI (i + 2)) (lv2 := [(5, .int (nI (i + 2))), (0, .ref sa), (1, .int (nI r)), (2, .int (nb lt)), (3, .int (nI 5)), (4, .int (nI cnt))]) C dX4_countSearched_80 (k := 5) rfl (nI_add _ 1) (by decide) rfl ?_
                  refine r_goto (tgt := 31) C dX4_countSearched_83 (by decide) ?_
                  refine V.sub (lv2 := [(0, .ref sa), (1, .int (nI r)), (2, .int (nb lt)), (3, .int (nI 5)), (4, .int (nI cnt)), (5, .int (nI (i + 2)))]) [1, 2, 3, 4, 5, 0] rfl ?_
                  refine V.eq (σ2 := σ) (lv2 := [(0, .ref sa), (1, .int (nI r)), (2, .int (nb lt)), (3, .int (nI 5)), (4, .int (nI cnt)), (5, .int (nI ((i + 1) + 1)))]) (st2 := []) rfl rfl rfl rfl ?_
                  exact ih31 (i + 1) cnt (by omega) (by omega) (by omega)
                · have hcn := con_yes (sr := sr) (w := 4) (last := lt) (show aR1 kd sr N r (i + 1) = true from okR_al c53) (fun z => c43 (nb_eq2 z))
                  refine r_iload C dX4_countSearched_56 4 rfl ?_
                  refine r_aload_n C dX4_countSearched_58 rfl 0 rfl ?_
                  refine r_aload_n C dX4_countSearched_59 rfl 0 rfl ?_
                  refine r_get (Cn := RX2) (T := TX2) (N := 6) (v := .ref la) C inlX2 hc0 rfl 3 (by decide) wF_X4_22 (fun _ h => h) rfl dX4_countSearched_60 ?_
                  refine r_iload_n C dX4_countSearched_63 rfl 1 rfl ?_
                  refine r_iload C dX4_countSearched_64 5 rfl ?_
                  refine r_callV (As := [.int (nI r), .int (nI (i + 1))]) C (c_X1_behind (la := la) (N := N) (cfl := cfl) (sb := (sid kd)) (f3 := f3) (r := r) (k := i + 1) hc2 hc3 (by first | assumption | omega) (by first | assumption | omega) (by first | assumption | omega) (by first | assumption | omega) (by first | assumption | omega)) wM_X4_62 wI_X1_behind wN_X1 wC_X1_behind wV_X1_behind hd_X1_behind ⟨Nat.le_of_ble_eq_true rfl, Nat.le_of_ble_eq_true rfl⟩ rfl hc2 rfl rfl (Nat.le_of_ble_eq_true rfl) dX4_countSearched_66 ⟨(Nat.le_of_ble_eq_true rfl), (Nat.le_of_ble_eq_true rfl)⟩ (fun rv n2 σ2 hp => ?_)
                  obtain ⟨rfl, rfl, rfl⟩ := hp
                  refine V.eq (σ2 := σ) (n2 := n) (st2 := [.int (nI (nx (sid kd) N r (i + 1))), .ref sa, .int (nI cnt)]) rfl rfl rfl rfl ?_
                  refine r_iload C dX4_countSearched_69 5 rfl ?_
                  refine r_iload_n C dX4_countSearched_71 rfl 3 rfl ?_
                  refine r_iconst (v := nI 1) C dX4_countSearched_72 (by decide) ?_
                  refine r_isubE (v := nI 4) C dX4_countSearched_73 (by decide) ?_
                  refine r_callS (As := [.ref sa, .int (nI (nx (sid kd) N r (i + 1))), .int (nI (i + 1)), .int (nI 4)]) C (c_X4_countSearched_4 (sa := sa) (la := la) (kd := kd) (N := N) (sr := sr) (sv := sv) (f3 := f3) (f4 := f4) (f5 := f5) (r := nx (sid kd) N r (i + 1)) (lt := i + 1) (cfl := cfl) hc0 hc1 hc2 hc3 hc4 (by first | assumption | omega) (by first | assumption | omega) (by first | assumption | omega) (by first | assumption | omega) (nx_lt hL.2.1 hrk (by omega)) (by omega)) wM_X4_92 wS_X4_countSearched wN_X4 wC_X4_countSearched hd_X4_countSearched ⟨Nat.le_of_ble_eq_true rfl, Nat.le_of_ble_eq_true rfl⟩ rfl rfl (Nat.le_of_ble_eq_true rfl) dX4_countSearched_74 ⟨(Nat.le_of_ble_eq_true rfl), (Nat.le_of_ble_eq_true rfl)⟩ (fun rv n2 σ2 hp => ?_)
                  obtain ⟨rfl, rfl, rfl⟩ := hp
                  refine V.eq (σ2 := σ) (n2 := n) (st2 := [.int (nI (lkA kd sr N 4 (nx (sid kd) N r (i + 1)) (i + 1))), .int (nI cnt)]) rfl rfl rfl rfl ?_
                  refine r_iaddN C dX4_countSearched_77 ?_
                  refine r_istore (lv2 := [(4, .int (nI (cnt + (lkA kd sr N 4 (nx (sid kd) N r (i + 1)) (i + 1))))), (0, .ref sa), (1, .int (nI r)), (2, .int (nb lt)), (3, .int (nI 5)), (5, .int (nI (i + 1)))]) C dX4_countSearched_78 (by decide) rfl ?_
                  have hst := srL_s (kd := kd) (sr := sr) (w := 4) (r := r) (last := lt) (show i < N by omega)
                  refine r_iinc (v := nI (i + 2)) (lv2 := [(5, .int (nI (i + 2))), (4, .int (nI (cnt + (lkA kd sr N 4 (nx (sid kd) N r (i + 1)) (i + 1))))), (0, .ref sa), (1, .int (nI r)), (2, .int (nb lt)), (3, .int (nI 5))]) C dX4_countSearched_80 (k := 5) rfl (nI_add _ 1) (by decide) rfl ?_
                  refine r_goto (tgt := 31) C dX4_countSearched_83 (by decide) ?_
                  refine V.sub (lv2 := [(0, .ref sa), (1, .int (nI r)), (2, .int (nb lt)), (3, .int (nI 5)), (4, .int (nI (cnt + (lkA kd sr N 4 (nx (sid kd) N r (i + 1)) (i + 1))))), (5, .int (nI (i + 2)))]) [2, 3, 4, 5, 1, 0] rfl ?_
                  refine V.eq (σ2 := σ) (lv2 := [(0, .ref sa), (1, .int (nI r)), (2, .int (nb lt)), (3, .int (nI 5)), (4, .int (nI (cnt + (lkA kd sr N 4 (nx (sid kd) N r (i + 1)) (i + 1))))), (5, .int (nI ((i + 1) + 1)))]) (st2 := []) rfl rfl rfl rfl ?_
                  exact ih31 (i + 1) (cnt + (lkA kd sr N 4 (nx (sid kd) N r (i + 1)) (i + 1))) (by omega) (by omega) (by omega)
        refine V.sub (lv2 := [(0, .ref sa), (1, .int (nI r)), (2, .int (nb lt)), (3, .int (nI 5)), (4, .int (nI 1)), (5, .int (nI 1))]) [2, 3, 4, 5, 1, 0] rfl ?_
        refine V.eq (σ2 := σ) (lv2 := [(0, .ref sa), (1, .int (nI r)), (2, .int (nb lt)), (3, .int (nI 5)), (4, .int (nI 1)), (5, .int (nI (0 + 1)))]) (st2 := []) rfl rfl rfl rfl ?_
        exact L31 _ 0 1 (by omega) (hs0.symm) (Nat.lt_succ_self _)
      · exact absurd c22 (by decide)
  · refine r_iconst (v := nI 0) C dX4_countSearched_12 (by decide) ?_
    exact r_iret C hr hlocks (Nat.le_of_ble_eq_true rfl) (Nat.le_of_ble_eq_true rfl) dX4_countSearched_13 (hpo _ _ _ ⟨by rw [lk_cut (show 5 < gpR kd N r from c9)], rfl, rfl⟩)

abbrev rm_X4_countSearched_6 : Room := { frames := 8, cells := 0, slots := 0, locals := 192 }
set_option maxRecDepth 100000 in
set_option maxHeartbeats 4000000 in
theorem c_X4_countSearched_6 {l : Launch} {G : gG} {n : Nat} {σ : gS} {sa la : Nat} {kd N sr : Nat} {sv : Value} {f3 : Nat → Int32} {f4 : Nat → Int32} {f5 : Nat → Int32} {r lt cfl : Nat} (hc0 : σ sa = some (.inr (2, [.int (nI kd), .int (nI sr), .int (nI N), .ref la, .ref (sa + 1), sv]))) (hc1 : σ (sa + 1) = some (aI G (rR (sid kd) N) f5)) (hc2 : σ la = some (.inr (1, [.int (nI N), .int (nI (rR (sid kd) N)), .int (nI (sbN (sid kd) N)), .int (nI (sm (sid kd) N - 1)), .ref (la + 1), .ref (la + 2), .ref (la + 3), .ref (la + 4)]))) (hc3 : σ (la + 3) = some (aI G (rR (sid kd) N * N) f3)) (hc4 : σ (la + 4) = some (aI G (rR (sid kd) N) f4)) (hL : LOK (sid kd) N) (h5 : ∀ r, r < rR (sid kd) N → f5 r = nI (psR kd sr N r)) (h3 : ∀ r, r < rR (sid kd) N → ∀ k, 1 ≤ k → k ≤ N → f3 (r * N + k - 1) = nI (nx (sid kd) N r k)) (h4 : ∀ r, r < rR (sid kd) N → f4 r = nI (jw (sid kd) N r)) (hrk : r < rR (sid kd) N) (hlt : lt < 10) : GM l G yX4_countSearched cX4_countSearched 6 (some .int) rm_X4_countSearched_6 n σ [.ref sa, .int (nI r), .int (nb lt), .int (nI 6)] (fun rv n2 σ2 => some (.int (nI (lkA kd sr N 6 r lt))) = rv ∧ n = n2 ∧ σ = σ2) := by
  refine GM.intro (by decide +kernel) (Nat.le_of_ble_eq_true rfl) (fun p e s m args below meth c C hr hlocks hname po hpo => ?_)
  have C : Cx p s m args c cX4_countSearched 6 RX4 G := C
  have hb9 := hL.b
  have hg6 : gp (sid kd) N (oR (sid kd) N r) (sR (sid kd) N r) ≤ 6 := gpR_le kd hL.2.1 r
  refine r_aload_n C dX4_countSearched_0 rfl 0 rfl ?_
  refine r_get (Cn := RX2) (T := TX2) (N := 6) (v := .ref la) C inlX2 hc0 rfl 3 (by decide) wF_X4_22 (fun _ h => h) rfl dX4_countSearched_1 ?_
  refine r_iload_n C dX4_countSearched_4 rfl 1 rfl ?_
  refine r_callV (As := [.int (nI r)]) C (c_X1_gaps (la := la) (N := N) (cfl := cfl) (sb := (sid kd)) (f4 := f4) (r := r) hc2 hc4 (by first | assumption | omega) (by first | assumption | omega) (by first | assumption | omega)) wM_X4_89 wI_X1_gaps wN_X1 wC_X1_gaps wV_X1_gaps hd_X1_gaps ⟨Nat.le_of_ble_eq_true rfl, Nat.le_of_ble_eq_true rfl⟩ rfl hc2 rfl rfl (Nat.le_of_ble_eq_true rfl) dX4_countSearched_5 ⟨(Nat.le_of_ble_eq_true rfl), (Nat.le_of_ble_eq_true rfl)⟩ (fun rv n2 σ2 hp => ?_)
  obtain ⟨rfl, rfl, rfl⟩ := hp
  refine V.eq (σ2 := σ) (n2 := n) (st2 := [.int (nI (gp (sid kd) N (oR (sid kd) N r) (sR (sid kd) N r)))]) rfl rfl rfl rfl ?_
  refine r_iload_n C dX4_countSearched_8 rfl 3 rfl ?_
  refine r_icmp_leN (tgt := 14) C dX4_countSearched_9 (by decide) (by omega) (by decide) (fun c9 => ?_) (fun c9 => ?_)
  · refine r_iconst (v := nI 1) C dX4_countSearched_14 (by decide) ?_
    refine r_istore (lv2 := [(4, .int (nI 1)), (0, .ref sa), (1, .int (nI r)), (2, .int (nb lt)), (3, .int (nI 6))]) C dX4_countSearched_15 (by decide) rfl ?_
    refine r_iload_n C dX4_countSearched_17 rfl 2 rfl ?_
    refine r_if_eqN (tgt := 25) C dX4_countSearched_18 (by decide) (by omega) (fun c18 => ?_) (fun c18 => ?_)
    · refine r_iload C dX4_countSearched_25 0 rfl ?_
      exact r_iret C hr hlocks (Nat.le_of_ble_eq_true rfl) (Nat.le_of_ble_eq_true rfl) dX4_countSearched_27 (hpo _ _ _ ⟨by rw [c18, lkA_0 (by rw [gpR_00 kd hL.2.1]; omega)], rfl, rfl⟩)
    · refine r_iload_n C dX4_countSearched_21 rfl 4 rfl ?_
      refine r_if_gtN (tgt := 28) C dX4_countSearched_22 (by decide) (by decide) (fun c22 => ?_) (fun c22 => ?_)
      · have hs0 := lkA_s (sr := sr) (last := lt) (show gpR kd N r ≤ 5 + 1 from c9) c18
        refine r_iconst (v := nI 1) C dX4_countSearched_28 (by decide) ?_
        refine r_istore (lv2 := [(5, .int (nI 1)), (4, .int (nI 1)), (0, .ref sa), (1, .int (nI r)), (2, .int (nb lt)), (3, .int (nI 6))]) C dX4_countSearched_29 (by decide) rfl ?_
        have L31 : ∀ (fu : Nat) (i : Nat) (cnt : Nat), (i ≤ N) → (cnt + srL kd sr N 5 r lt i = lkA kd sr N 6 r lt) → (N + 1 - i) < fu → V p l e rm_X4_countSearched_6 s m args below meth c G 6 (MQ below (gQ G po) args s rm_X4_countSearched_6.cells rm_X4_countSearched_6.slots (gF G)) 0 0 n σ 31 [(0, .ref sa), (1, .int (nI r)), (2, .int (nb lt)), (3, .int (nI 6)), (4, .int (nI cnt)), (5, .int (nI (i + 1)))] [] := by
          intro fu
          induction fu with
          | zero => intro i cnt hi hc hm; exact absurd hm (Nat.not_lt_zero _)
          | succ fu ih31 =>
            intro i cnt hi hc hm31
            refine r_iload C dX4_countSearched_31 5 rfl ?_
            refine r_aload_n C dX4_countSearched_33 rfl 0 rfl ?_
            refine r_get (Cn := RX2) (T := TX2) (N := 6) (v := .int (nI N)) C inlX2 hc0 rfl 2 (by decide) wF_X4_65 (fun _ h => h) rfl dX4_countSearched_34 ?_
            refine r_icmp_gtN (tgt := 86) C dX4_countSearched_37 (by decide) (by omega) (by omega) (fun c37 => ?_) (fun c37 => ?_)
            · have hiN : i = N := by omega
              refine r_iload C dX4_countSearched_86 4 rfl ?_
              exact r_iret C hr hlocks (Nat.le_of_ble_eq_true rfl) (Nat.le_of_ble_eq_true rfl) dX4_countSearched_88 (hpo _ _ _ ⟨by rw [hiN, srL_N] at hc; rw [← hc]; rfl, rfl, rfl⟩)
            · refine r_iload C dX4_countSearched_40 5 rfl ?_
              refine r_iload_n C dX4_countSearched_42 rfl 2 rfl ?_
              refine r_icmp_eq (tgt := 80) C dX4_countSearched_43 (by decide) (fun c43 => ?_) (fun c43 => ?_)
              · have hcn : conL kd sr N 5 r lt i = 0 := con_no (Or.inr (Or.inl (nb_eq (by omega) (by omega) c43)))
                have hst := srL_s (kd := kd) (sr := sr) (w := 5) (r := r) (last := lt) (show i < N by omega)
                refine r_iinc (v := nI (i + 2)) (lv2 := [(5, .int (nI (i + 2))), (0, .ref sa), (1, .int (nI r)), (2, .int (nb lt)), (3, .int (nI 6)), (4, .int (nI cnt))]) C dX4_countSearched_80 (k := 5) rfl (nI_add _ 1) (by decide) rfl ?_
                refine r_goto (tgt := 31) C dX4_countSearched_83 (by decide) ?_
                refine V.sub (lv2 := [(0, .ref sa), (1, .int (nI r)), (2, .int (nb lt)), (3, .int (nI 6)), (4, .int (nI cnt)), (5, .int (nI (i + 2)))]) [1, 2, 3, 4, 5, 0] rfl ?_
                refine V.eq (σ2 := σ) (lv2 := [(0, .ref sa), (1, .int (nI r)), (2, .int (nb lt)), (3, .int (nI 6)), (4, .int (nI cnt)), (5, .int (nI ((i + 1) + 1)))]) (st2 := []) rfl rfl rfl rfl ?_
                exact ih31 (i + 1) cnt (by omega) (by omega) (by omega)
              · refine r_aload_n C dX4_countSearched_46 rfl 0 rfl ?_
                refine r_iload_n C dX4_countSearched_47 rfl 1 rfl ?_
                refine r_iload C dX4_countSearched_48 5 rfl ?_
                refine r_callV (As := [.int (nI r), .int (nI (i + 1))]) C (c_X2_allows (sa := sa) (la := la) (kd := kd) (N := N) (sr := sr) (sv := sv) (f5 := f5) (r := r) (k := i + 1) hc0 hc1 (by first | assumption | omega) (by first | assumption | omega) (by first | assumption | omega) (by omega)) wM_X4_68 wI_X2_allows wN_X2 wC_X2_allows wV_X2_allows hd_X2_allows ⟨Nat.le_of_ble_eq_true rfl, Nat.le_of_ble_eq_true rfl⟩ rfl hc0 rfl rfl (Nat.le_of_ble_eq_true rfl) dX4_countSearched_50 ⟨(Nat.le_of_ble_eq_true rfl), (Nat.le_of_ble_eq_true rfl)⟩ (fun rv n2 σ2 hp => ?_)
                obtain ⟨rfl, rfl, rfl⟩ := hp
                refine V.eq (σ2 := σ) (n2 := n) (st2 := [.int (bI (okR kd sr N r (i + 1)))]) rfl rfl rfl rfl ?_
                refine r_if_eqB (tgt := 80) C dX4_countSearched_53 (by decide) (fun c53 => ?_) (fun c53 => ?_)
                · have hcn : conL kd sr N 5 r lt i = 0 := con_no (Or.inl (okR_f c53 (by omega)))
                  have hst := srL_s (kd := kd) (sr := sr) (w := 5) (r := r) (last := lt) (show i < N by omega)
                  refine r_iinc (v := nI (i + 2)) (lv2 := [(5, .int (nI (i + 2))), (0, .ref sa), (1, .int (nI r)), (2, .int (nb lt)), (3, .int (nI 6)), (4, .int (nI cnt))]) C dX4_countSearched_80 (k := 5) rfl (nI_add _ 1) (by decide) rfl ?_
                  refine r_goto (tgt := 31) C dX4_countSearched_83 (by decide) ?_
                  refine V.sub (lv2 := [(0, .ref sa), (1, .int (nI r)), (2, .int (nb lt)), (3, .int (nI 6)), (4, .int (nI cnt)), (5, .int (nI (i + 2)))]) [1, 2, 3, 4, 5, 0] rfl ?_
                  refine V.eq (σ2 := σ) (lv2 := [(0, .ref sa), (1, .int (nI r)), (2, .int (nb lt)), (3, .int (nI 6)), (4, .int (nI cnt)), (5, .int (nI ((i + 1) + 1)))]) (st2 := []) rfl rfl rfl rfl ?_
                  exact ih31 (i + 1) cnt (by omega) (by omega) (by omega)
                · have hcn := con_yes (sr := sr) (w := 5) (last := lt) (show aR1 kd sr N r (i + 1) = true from okR_al c53) (fun z => c43 (nb_eq2 z))
                  refine r_iload C dX4_countSearched_56 4 rfl ?_
                  refine r_aload_n C dX4_countSearched_58 rfl 0 rfl ?_
                  refine r_aload_n C dX4_countSearched_59 rfl 0 rfl ?_
                  refine r_get (Cn := RX2) (T := TX2) (N := 6) (v := .ref la) C inlX2 hc0 rfl 3 (by decide) wF_X4_22 (fun _ h => h) rfl dX4_countSearched_60 ?_
                  refine r_iload_n C dX4_countSearched_63 rfl 1 rfl ?_
                  refine r_iload C dX4_countSearched_64 5 rfl ?_
                  refine r_callV (As := [.int (nI r), .int (nI (i + 1))]) C (c_X1_behind (la := la) (N := N) (cfl := cfl) (sb := (sid kd)) (f3 := f3) (r := r) (k := i + 1) hc2 hc3 (by first | assumption | omega) (by first | assumption | omega) (by first | assumption | omega) (by first | assumption | omega) (by first | assumption | omega)) wM_X4_62 wI_X1_behind wN_X1 wC_X1_behind wV_X1_behind hd_X1_behind ⟨Nat.le_of_ble_eq_true rfl, Nat.le_of_ble_eq_true rfl⟩ rfl hc2 rfl rfl (Nat.le_of_ble_eq_true rfl) dX4_countSearched_66 ⟨(Nat.le_of_ble_eq_true rfl), (Nat.le_of_ble_eq_true rfl)⟩ (fun rv n2 σ2 hp => ?_)
                  obtain ⟨rfl, rfl, rfl⟩ := hp
                  refine V.eq (σ2 := σ) (n2 := n) (st2 := [.int (nI (nx (sid kd) N r (i + 1))), .ref sa, .int (nI cnt)]) rfl rfl rfl rfl ?_
                  refine r_iload C dX4_countSearched_69 5 rfl ?_
                  refine r_iload_n C dX4_countSearched_71 rfl 3 rfl ?_
                  refine r_iconst (v := nI 1) C dX4_countSearched_72 (by decide) ?_
                  refine r_isubE (v := nI 5) C dX4_countSearched_73 (by decide) ?_
                  refine r_callS (As := [.ref sa, .int (nI (nx (sid kd) N r (i + 1))), .int (nI (i + 1)), .int (nI 5)]) C (c_X4_countSearched_5 (sa := sa) (la := la) (kd := kd) (N := N) (sr := sr) (sv := sv) (f3 := f3) (f4 := f4) (f5 := f5) (r := nx (sid kd) N r (i + 1)) (lt := i + 1) (cfl := cfl) hc0 hc1 hc2 hc3 hc4 (by first | assumption | omega) (by first | assumption | omega) (by first | assumption | omega) (by first | assumption | omega) (nx_lt hL.2.1 hrk (by omega)) (by omega)) wM_X4_92 wS_X4_countSearched wN_X4 wC_X4_countSearched hd_X4_countSearched ⟨Nat.le_of_ble_eq_true rfl, Nat.le_of_ble_eq_true rfl⟩ rfl rfl (Nat.le_of_ble_eq_true rfl) dX4_countSearched_74 ⟨(Nat.le_of_ble_eq_true rfl), (Nat.le_of_ble_eq_true rfl)⟩ (fun rv n2 σ2 hp => ?_)
                  obtain ⟨rfl, rfl, rfl⟩ := hp
                  refine V.eq (σ2 := σ) (n2 := n) (st2 := [.int (nI (lkA kd sr N 5 (nx (sid kd) N r (i + 1)) (i + 1))), .int (nI cnt)]) rfl rfl rfl rfl ?_
                  refine r_iaddN C dX4_countSearched_77 ?_
                  refine r_istore (lv2 := [(4, .int (nI (cnt + (lkA kd sr N 5 (nx (sid kd) N r (i + 1)) (i + 1))))), (0, .ref sa), (1, .int (nI r)), (2, .int (nb lt)), (3, .int (nI 6)), (5, .int (nI (i + 1)))]) C dX4_countSearched_78 (by decide) rfl ?_
                  have hst := srL_s (kd := kd) (sr := sr) (w := 5) (r := r) (last := lt) (show i < N by omega)
                  refine r_iinc (v := nI (i + 2)) (lv2 := [(5, .int (nI (i + 2))), (4, .int (nI (cnt + (lkA kd sr N 5 (nx (sid kd) N r (i + 1)) (i + 1))))), (0, .ref sa), (1, .int (nI r)), (2, .int (nb lt)), (3, .int (nI 6))]) C dX4_countSearched_80 (k := 5) rfl (nI_add _ 1) (by decide) rfl ?_
                  refine r_goto (tgt := 31) C dX4_countSearched_83 (by decide) ?_
                  refine V.sub (lv2 := [(0, .ref sa), (1, .int (nI r)), (2, .int (nb lt)), (3, .int (nI 6)), (4, .int (nI (cnt + (lkA kd sr N 5 (nx (sid kd) N r (i + 1)) (i + 1))))), (5, .int (nI (i + 2)))]) [2, 3, 4, 5, 1, 0] rfl ?_
                  refine V.eq (σ2 := σ) (lv2 := [(0, .ref sa), (1, .int (nI r)), (2, .int (nb lt)), (3, .int (nI 6)), (4, .int (nI (cnt + (lkA kd sr N 5 (nx (sid kd) N r (i + 1)) (i + 1))))), (5, .int (nI ((i + 1) + 1)))]) (st2 := []) rfl rfl rfl rfl ?_
                  exact ih31 (i + 1) (cnt + (lkA kd sr N 5 (nx (sid kd) N r (i + 1)) (i + 1))) (by omega) (by omega) (by omega)
        refine V.sub (lv2 := [(0, .ref sa), (1, .int (nI r)), (2, .int (nb lt)), (3, .int (nI 6)), (4, .int (nI 1)), (5, .int (nI 1))]) [2, 3, 4, 5, 1, 0] rfl ?_
        refine V.eq (σ2 := σ) (lv2 := [(0, .ref sa), (1, .int (nI r)), (2, .int (nb lt)), (3, .int (nI 6)), (4, .int (nI 1)), (5, .int (nI (0 + 1)))]) (st2 := []) rfl rfl rfl rfl ?_
        exact L31 _ 0 1 (by omega) (hs0.symm) (Nat.lt_succ_self _)
      · exact absurd c22 (by decide)
  · refine r_iconst (v := nI 0) C dX4_countSearched_12 (by decide) ?_
    exact r_iret C hr hlocks (Nat.le_of_ble_eq_true rfl) (Nat.le_of_ble_eq_true rfl) dX4_countSearched_13 (hpo _ _ _ ⟨by rw [lk_cut (show 6 < gpR kd N r from c9)], rfl, rfl⟩)

abbrev rm_X4_searchedRows_0 : Room := { frames := 3, cells := 0, slots := 0, locals := 67 }
set_option maxRecDepth 100000 in
set_option maxHeartbeats 4000000 in
theorem c_X4_searchedRows_0 {l : Launch} {G : gG} {n : Nat} {σ : gS} {va sa la : Nat} {kd N sr cfl : Nat} {sv : Value} {tk wk : Bool} {f3 : Nat → Int32} {f4 : Nat → Int32} {f5 : Nat → Int32} {r : Nat} (hc0 : σ va = some (.inr (4, [.ref sa, .ref la, .ref (va + 1), .int (bI tk), .ref (va + 2), .int (bI wk)]))) (hc1 : σ sa = some (.inr (2, [.int (nI kd), .int (nI sr), .int (nI N), .ref la, .ref (sa + 1), sv]))) (hc2 : σ (sa + 1) = some (aI G (rR (sid kd) N) f5)) (hc3 : σ la = some (.inr (1, [.int (nI N), .int (nI (rR (sid kd) N)), .int (nI (sbN (sid kd) N)), .int (nI (sm (sid kd) N - 1)), .ref (la + 1), .ref (la + 2), .ref (la + 3), .ref (la + 4)]))) (hc4 : σ (la + 3) = some (aI G (rR (sid kd) N * N) f3)) (hc5 : σ (la + 4) = some (aI G (rR (sid kd) N) f4)) (hL : LOK (sid kd) N) (h5 : ∀ r, r < rR (sid kd) N → f5 r = nI (psR kd sr N r)) (h3 : ∀ r, r < rR (sid kd) N → ∀ k, 1 ≤ k → k ≤ N → f3 (r * N + k - 1) = nI (nx (sid kd) N r k)) (h4 : ∀ r, r < rR (sid kd) N → f4 r = nI (jw (sid kd) N r)) (hrk : r < rR (sid kd) N) : GM l G yX4_searchedRows cX4_searchedRows 3 (some .int) rm_X4_searchedRows_0 n σ [.ref va, .int (nI r), .int (nI 0)] (fun rv n2 σ2 => some (.int (nI (lkA kd sr N 0 r 0))) = rv ∧ n = n2 ∧ σ = σ2) := by
  refine GM.intro (by decide +kernel) (Nat.le_of_ble_eq_true rfl) (fun p e s m args below meth c C hr hlocks hname po hpo => ?_)
  have C : Cx p s m args c cX4_searchedRows 3 RX4 G := C
  have hb9 := hL.b
  refine r_aload_n C dX4_searchedRows_0 rfl 0 rfl ?_
  refine r_get (Cn := RX4) (T := TX4) (N := 6) (v := .ref sa) C inlX4 hc0 rfl 0 (by decide) wF_X4_18 (fun _ h => h) rfl dX4_searchedRows_1 ?_
  refine r_iload_n C dX4_searchedRows_4 rfl 1 rfl ?_
  refine r_iconst (v := (-1)) C dX4_searchedRows_5 (by decide) ?_
  refine r_iload_n C dX4_searchedRows_6 rfl 2 rfl ?_
  refine r_callS (As := [.ref sa, .int (nI r), .int (nb 0), .int (nI 0)]) C (c_X4_countSearched_0 (sa := sa) (la := la) (kd := kd) (N := N) (sr := sr) (sv := sv) (f3 := f3) (f4 := f4) (f5 := f5) (r := r) (lt := 0) (cfl := cfl) hc1 hc2 hc3 hc4 hc5 (by first | assumption | omega) (by first | assumption | omega) (by first | assumption | omega) (by first | assumption | omega) (by first | assumption | omega) (by decide)) wM_X4_92 wS_X4_countSearched wN_X4 wC_X4_countSearched hd_X4_countSearched ⟨Nat.le_of_ble_eq_true rfl, Nat.le_of_ble_eq_true rfl⟩ rfl rfl (Nat.le_of_ble_eq_true rfl) dX4_searchedRows_7 ⟨(Nat.le_of_ble_eq_true rfl), (Nat.le_of_ble_eq_true rfl)⟩ (fun rv n2 σ2 hp => ?_)
  obtain ⟨rfl, rfl, rfl⟩ := hp
  refine V.eq (σ2 := σ) (n2 := n) (st2 := [.int (nI (lkA kd sr N 0 r 0))]) rfl rfl rfl rfl ?_
  exact r_iret C hr hlocks (Nat.le_of_ble_eq_true rfl) (Nat.le_of_ble_eq_true rfl) dX4_searchedRows_10 (hpo _ _ _ ⟨rfl, rfl, rfl⟩)

abbrev rm_X4_searchedRows_1 : Room := { frames := 4, cells := 0, slots := 0, locals := 92 }
set_option maxRecDepth 100000 in
set_option maxHeartbeats 4000000 in
theorem c_X4_searchedRows_1 {l : Launch} {G : gG} {n : Nat} {σ : gS} {va sa la : Nat} {kd N sr cfl : Nat} {sv : Value} {tk wk : Bool} {f3 : Nat → Int32} {f4 : Nat → Int32} {f5 : Nat → Int32} {r : Nat} (hc0 : σ va = some (.inr (4, [.ref sa, .ref la, .ref (va + 1), .int (bI tk), .ref (va + 2), .int (bI wk)]))) (hc1 : σ sa = some (.inr (2, [.int (nI kd), .int (nI sr), .int (nI N), .ref la, .ref (sa + 1), sv]))) (hc2 : σ (sa + 1) = some (aI G (rR (sid kd) N) f5)) (hc3 : σ la = some (.inr (1, [.int (nI N), .int (nI (rR (sid kd) N)), .int (nI (sbN (sid kd) N)), .int (nI (sm (sid kd) N - 1)), .ref (la + 1), .ref (la + 2), .ref (la + 3), .ref (la + 4)]))) (hc4 : σ (la + 3) = some (aI G (rR (sid kd) N * N) f3)) (hc5 : σ (la + 4) = some (aI G (rR (sid kd) N) f4)) (hL : LOK (sid kd) N) (h5 : ∀ r, r < rR (sid kd) N → f5 r = nI (psR kd sr N r)) (h3 : ∀ r, r < rR (sid kd) N → ∀ k, 1 ≤ k → k ≤ N → f3 (r * N + k - 1) = nI (nx (sid kd) N r k)) (h4 : ∀ r, r < rR (sid kd) N → f4 r = nI (jw (sid kd) N r)) (hrk : r < rR (sid kd) N) : GM l G yX4_searchedRows cX4_searchedRows 3 (some .int) rm_X4_searchedRows_1 n σ [.ref va, .int (nI r), .int (nI 1)] (fun rv n2 σ2 => some (.int (nI (lkA kd sr N 1 r 0))) = rv ∧ n = n2 ∧ σ = σ2) := by
  refine GM.intro (by decide +kernel) (Nat.le_of_ble_eq_true rfl) (fun p e s m args below meth c C hr hlocks hname po hpo => ?_)
  have C : Cx p s m args c cX4_searchedRows 3 RX4 G := C
  have hb9 := hL.b
  refine r_aload_n C dX4_searchedRows_0 rfl 0 rfl ?_
  refine r_get (Cn := RX4) (T := TX4) (N := 6) (v := .ref sa) C inlX4 hc0 rfl 0 (by decide) wF_X4_18 (fun _ h => h) rfl dX4_searchedRows_1 ?_
  refine r_iload_n C dX4_searchedRows_4 rfl 1 rfl ?_
  refine r_iconst (v := (-1)) C dX4_searchedRows_5 (by decide) ?_
  refine r_iload_n C dX4_searchedRows_6 rfl 2 rfl ?_
  refine r_callS (As := [.ref sa, .int (nI r), .int (nb 0), .int (nI 1)]) C (c_X4_countSearched_1 (sa := sa) (la := la) (kd := kd) (N := N) (sr := sr) (sv := sv) (f3 := f3) (f4 := f4) (f5 := f5) (r := r) (lt := 0) (cfl := cfl) hc1 hc2 hc3 hc4 hc5 (by first | assumption | omega) (by first | assumption | omega) (by first | assumption | omega) (by first | assumption | omega) (by first | assumption | omega) (by decide)) wM_X4_92 wS_X4_countSearched wN_X4 wC_X4_countSearched hd_X4_countSearched ⟨Nat.le_of_ble_eq_true rfl, Nat.le_of_ble_eq_true rfl⟩ rfl rfl (Nat.le_of_ble_eq_true rfl) dX4_searchedRows_7 ⟨(Nat.le_of_ble_eq_true rfl), (Nat.le_of_ble_eq_true rfl)⟩ (fun rv n2 σ2 hp => ?_)
  obtain ⟨rfl, rfl, rfl⟩ := hp
  refine V.eq (σ2 := σ) (n2 := n) (st2 := [.int (nI (lkA kd sr N 1 r 0))]) rfl rfl rfl rfl ?_
  exact r_iret C hr hlocks (Nat.le_of_ble_eq_true rfl) (Nat.le_of_ble_eq_true rfl) dX4_searchedRows_10 (hpo _ _ _ ⟨rfl, rfl, rfl⟩)

abbrev rm_X4_searchedRows_2 : Room := { frames := 5, cells := 0, slots := 0, locals := 117 }
set_option maxRecDepth 100000 in
set_option maxHeartbeats 4000000 in
theorem c_X4_searchedRows_2 {l : Launch} {G : gG} {n : Nat} {σ : gS} {va sa la : Nat} {kd N sr cfl : Nat} {sv : Value} {tk wk : Bool} {f3 : Nat → Int32} {f4 : Nat → Int32} {f5 : Nat → Int32} {r : Nat} (hc0 : σ va = some (.inr (4, [.ref sa, .ref la, .ref (va + 1), .int (bI tk), .ref (va + 2), .int (bI wk)]))) (hc1 : σ sa = some (.inr (2, [.int (nI kd), .int (nI sr), .int (nI N), .ref la, .ref (sa + 1), sv]))) (hc2 : σ (sa + 1) = some (aI G (rR (sid kd) N) f5)) (hc3 : σ la = some (.inr (1, [.int (nI N), .int (nI (rR (sid kd) N)), .int (nI (sbN (sid kd) N)), .int (nI (sm (sid kd) N - 1)), .ref (la + 1), .ref (la + 2), .ref (la + 3), .ref (la + 4)]))) (hc4 : σ (la + 3) = some (aI G (rR (sid kd) N * N) f3)) (hc5 : σ (la + 4) = some (aI G (rR (sid kd) N) f4)) (hL : LOK (sid kd) N) (h5 : ∀ r, r < rR (sid kd) N → f5 r = nI (psR kd sr N r)) (h3 : ∀ r, r < rR (sid kd) N → ∀ k, 1 ≤ k → k ≤ N → f3 (r * N + k - 1) = nI (nx (sid kd) N r k)) (h4 : ∀ r, r < rR (sid kd) N → f4 r = nI (jw (sid kd) N r)) (hrk : r < rR (sid kd) N) : GM l G yX4_searchedRows cX4_searchedRows 3 (some .int) rm_X4_searchedRows_2 n σ [.ref va, .int (nI r), .int (nI 2)] (fun rv n2 σ2 => some (.int (nI (lkA kd sr N 2 r 0))) = rv ∧ n = n2 ∧ σ = σ2) := by
  refine GM.intro (by decide +kernel) (Nat.le_of_ble_eq_true rfl) (fun p e s m args below meth c C hr hlocks hname po hpo => ?_)
  have C : Cx p s m args c cX4_searchedRows 3 RX4 G := C
  have hb9 := hL.b
  refine r_aload_n C dX4_searchedRows_0 rfl 0 rfl ?_
  refine r_get (Cn := RX4) (T := TX4) (N := 6) (v := .ref sa) C inlX4 hc0 rfl 0 (by decide) wF_X4_18 (fun _ h => h) rfl dX4_searchedRows_1 ?_
  refine r_iload_n C dX4_searchedRows_4 rfl 1 rfl ?_
  refine r_iconst (v := (-1)) C dX4_searchedRows_5 (by decide) ?_
  refine r_iload_n C dX4_searchedRows_6 rfl 2 rfl ?_
  refine r_callS (As := [.ref sa, .int (nI r), .int (nb 0), .int (nI 2)]) C (c_X4_countSearched_2 (sa := sa) (la := la) (kd := kd) (N := N) (sr := sr) (sv := sv) (f3 := f3) (f4 := f4) (f5 := f5) (r := r) (lt := 0) (cfl := cfl) hc1 hc2 hc3 hc4 hc5 (by first | assumption | omega) (by first | assumption | omega) (by first | assumption | omega) (by first | assumption | omega) (by first | assumption | omega) (by decide)) wM_X4_92 wS_X4_countSearched wN_X4 wC_X4_countSearched hd_X4_countSearched ⟨Nat.le_of_ble_eq_true rfl, Nat.le_of_ble_eq_true rfl⟩ rfl rfl (Nat.le_of_ble_eq_true rfl) dX4_searchedRows_7 ⟨(Nat.le_of_ble_eq_true rfl), (Nat.le_of_ble_eq_true rfl)⟩ (fun rv n2 σ2 hp => ?_)
  obtain ⟨rfl, rfl, rfl⟩ := hp
  refine V.eq (σ2 := σ) (n2 := n) (st2 := [.int (nI (lkA kd sr N 2 r 0))]) rfl rfl rfl rfl ?_
  exact r_iret C hr hlocks (Nat.le_of_ble_eq_true rfl) (Nat.le_of_ble_eq_true rfl) dX4_searchedRows_10 (hpo _ _ _ ⟨rfl, rfl, rfl⟩)

abbrev rm_X4_searchedRows_3 : Room := { frames := 6, cells := 0, slots := 0, locals := 142 }
set_option maxRecDepth 100000 in
set_option maxHeartbeats 4000000 in
theorem c_X4_searchedRows_3 {l : Launch} {G : gG} {n : Nat} {σ : gS} {va sa la : Nat} {kd N sr cfl : Nat} {sv : Value} {tk wk : Bool} {f3 : Nat → Int32} {f4 : Nat → Int32} {f5 : Nat → Int32} {r : Nat} (hc0 : σ va = some (.inr (4, [.ref sa, .ref la, .ref (va + 1), .int (bI tk), .ref (va + 2), .int (bI wk)]))) (hc1 : σ sa = some (.inr (2, [.int (nI kd), .int (nI sr), .int (nI N), .ref la, .ref (sa + 1), sv]))) (hc2 : σ (sa + 1) = some (aI G (rR (sid kd) N) f5)) (hc3 : σ la = some (.inr (1, [.int (nI N), .int (nI (rR (sid kd) N)), .int (nI (sbN (sid kd) N)), .int (nI (sm (sid kd) N - 1)), .ref (la + 1), .ref (la + 2), .ref (la + 3), .ref (la + 4)]))) (hc4 : σ (la + 3) = some (aI G (rR (sid kd) N * N) f3)) (hc5 : σ (la + 4) = some (aI G (rR (sid kd) N) f4)) (hL : LOK (sid kd) N) (h5 : ∀ r, r < rR (sid kd) N → f5 r = nI (psR kd sr N r)) (h3 : ∀ r, r < rR (sid kd) N → ∀ k, 1 ≤ k → k ≤ N → f3 (r * N + k - 1) = nI (nx (sid kd) N r k)) (h4 : ∀ r, r < rR (sid kd) N → f4 r = nI (jw (sid kd) N r)) (hrk : r < rR (sid kd) N) : GM l G yX4_searchedRows cX4_searchedRows 3 (some .int) rm_X4_searchedRows_3 n σ [.ref va, .int (nI r), .int (nI 3)] (fun rv n2 σ2 => some (.int (nI (lkA kd sr N 3 r 0))) = rv ∧ n = n2 ∧ σ = σ2) := by
  refine GM.intro (by decide +kernel) (Nat.le_of_ble_eq_true rfl) (fun p e s m args below meth c C hr hlocks hname po hpo => ?_)
  have C : Cx p s m args c cX4_searchedRows 3 RX4 G := C
  have hb9 := hL.b
  refine r_aload_n C dX4_searchedRows_0 rfl 0 rfl ?_
  refine r_get (Cn := RX4) (T := TX4) (N := 6) (v := .ref sa) C inlX4 hc0 rfl 0 (by decide) wF_X4_18 (fun _ h => h) rfl dX4_searchedRows_1 ?_
  refine r_iload_n C dX4_searchedRows_4 rfl 1 rfl ?_
  refine r_iconst (v := (-1)) C dX4_searchedRows_5 (by decide) ?_
  refine r_iload_n C dX4_searchedRows_6 rfl 2 rfl ?_
  refine r_callS (As := [.ref sa, .int (nI r), .int (nb 0), .int (nI 3)]) C (c_X4_countSearched_3 (sa := sa) (la := la) (kd := kd) (N := N) (sr := sr) (sv := sv) (f3 := f3) (f4 := f4) (f5 := f5) (r := r) (lt := 0) (cfl := cfl) hc1 hc2 hc3 hc4 hc5 (by first | assumption | omega) (by first | assumption | omega) (by first | assumption | omega) (by first | assumption | omega) (by first | assumption | omega) (by decide)) wM_X4_92 wS_X4_countSearched wN_X4 wC_X4_countSearched hd_X4_countSearched ⟨Nat.le_of_ble_eq_true rfl, Nat.le_of_ble_eq_true rfl⟩ rfl rfl (Nat.le_of_ble_eq_true rfl) dX4_searchedRows_7 ⟨(Nat.le_of_ble_eq_true rfl), (Nat.le_of_ble_eq_true rfl)⟩ (fun rv n2 σ2 hp => ?_)
  obtain ⟨rfl, rfl, rfl⟩ := hp
  refine V.eq (σ2 := σ) (n2 := n) (st2 := [.int (nI (lkA kd sr N 3 r 0))]) rfl rfl rfl rfl ?_
  exact r_iret C hr hlocks (Nat.le_of_ble_eq_true rfl) (Nat.le_of_ble_eq_true rfl) dX4_searchedRows_10 (hpo _ _ _ ⟨rfl, rfl, rfl⟩)

abbrev rm_X4_searchedRows_4 : Room := { frames := 7, cells := 0, slots := 0, locals := 167 }
set_option maxRecDepth 100000 in
set_option maxHeartbeats 4000000 in
theorem c_X4_searchedRows_4 {l : Launch} {G : gG} {n : Nat} {σ : gS} {va sa la : Nat} {kd N sr cfl : Nat} {sv : Value} {tk wk : Bool} {f3 : Nat → Int32} {f4 : Nat → Int32} {f5 : Nat → Int32} {r : Nat} (hc0 : σ va = some (.inr (4, [.ref sa, .ref la, .ref (va + 1), .int (bI tk), .ref (va + 2), .int (bI wk)]))) (hc1 : σ sa = some (.inr (2, [.int (nI kd), .int (nI sr), .int (nI N), .ref la, .ref (sa + 1), sv]))) (hc2 : σ (sa + 1) = some (aI G (rR (sid kd) N) f5)) (hc3 : σ la = some (.inr (1, [.int (nI N), .int (nI (rR (sid kd) N)), .int (nI (sbN (sid kd) N)), .int (nI (sm (sid kd) N - 1)), .ref (la + 1), .ref (la + 2), .ref (la + 3), .ref (la + 4)]))) (hc4 : σ (la + 3) = some (aI G (rR (sid kd) N * N) f3)) (hc5 : σ (la + 4) = some (aI G (rR (sid kd) N) f4)) (hL : LOK (sid kd) N) (h5 : ∀ r, r < rR (sid kd) N → f5 r = nI (psR kd sr N r)) (h3 : ∀ r, r < rR (sid kd) N → ∀ k, 1 ≤ k → k ≤ N → f3 (r * N + k - 1) = nI (nx (sid kd) N r k)) (h4 : ∀ r, r < rR (sid kd) N → f4 r = nI (jw (sid kd) N r)) (hrk : r < rR (sid kd) N) : GM l G yX4_searchedRows cX4_searchedRows 3 (some .int) rm_X4_searchedRows_4 n σ [.ref va, .int (nI r), .int (nI 4)] (fun rv n2 σ2 => some (.int (nI (lkA kd sr N 4 r 0))) = rv ∧ n = n2 ∧ σ = σ2) := by
  refine GM.intro (by decide +kernel) (Nat.le_of_ble_eq_true rfl) (fun p e s m args below meth c C hr hlocks hname po hpo => ?_)
  have C : Cx p s m args c cX4_searchedRows 3 RX4 G := C
  have hb9 := hL.b
  refine r_aload_n C dX4_searchedRows_0 rfl 0 rfl ?_
  refine r_get (Cn := RX4) (T := TX4) (N := 6) (v := .ref sa) C inlX4 hc0 rfl 0 (by decide) wF_X4_18 (fun _ h => h) rfl dX4_searchedRows_1 ?_
  refine r_iload_n C dX4_searchedRows_4 rfl 1 rfl ?_
  refine r_iconst (v := (-1)) C dX4_searchedRows_5 (by decide) ?_
  refine r_iload_n C dX4_searchedRows_6 rfl 2 rfl ?_
  refine r_callS (As := [.ref sa, .int (nI r), .int (nb 0), .int (nI 4)]) C (c_X4_countSearched_4 (sa := sa) (la := la) (kd := kd) (N := N) (sr := sr) (sv := sv) (f3 := f3) (f4 := f4) (f5 := f5) (r := r) (lt := 0) (cfl := cfl) hc1 hc2 hc3 hc4 hc5 (by first | assumption | omega) (by first | assumption | omega) (by first | assumption | omega) (by first | assumption | omega) (by first | assumption | omega) (by decide)) wM_X4_92 wS_X4_countSearched wN_X4 wC_X4_countSearched hd_X4_countSearched ⟨Nat.le_of_ble_eq_true rfl, Nat.le_of_ble_eq_true rfl⟩ rfl rfl (Nat.le_of_ble_eq_true rfl) dX4_searchedRows_7 ⟨(Nat.le_of_ble_eq_true rfl), (Nat.le_of_ble_eq_true rfl)⟩ (fun rv n2 σ2 hp => ?_)
  obtain ⟨rfl, rfl, rfl⟩ := hp
  refine V.eq (σ2 := σ) (n2 := n) (st2 := [.int (nI (lkA kd sr N 4 r 0))]) rfl rfl rfl rfl ?_
  exact r_iret C hr hlocks (Nat.le_of_ble_eq_true rfl) (Nat.le_of_ble_eq_true rfl) dX4_searchedRows_10 (hpo _ _ _ ⟨rfl, rfl, rfl⟩)

abbrev rm_X4_searchedRows_5 : Room := { frames := 8, cells := 0, slots := 0, locals := 192 }
set_option maxRecDepth 100000 in
set_option maxHeartbeats 4000000 in
theorem c_X4_searchedRows_5 {l : Launch} {G : gG} {n : Nat} {σ : gS} {va sa la : Nat} {kd N sr cfl : Nat} {sv : Value} {tk wk : Bool} {f3 : Nat → Int32} {f4 : Nat → Int32} {f5 : Nat → Int32} {r : Nat} (hc0 : σ va = some (.inr (4, [.ref sa, .ref la, .ref (va + 1), .int (bI tk), .ref (va + 2), .int (bI wk)]))) (hc1 : σ sa = some (.inr (2, [.int (nI kd), .int (nI sr), .int (nI N), .ref la, .ref (sa + 1), sv]))) (hc2 : σ (sa + 1) = some (aI G (rR (sid kd) N) f5)) (hc3 : σ la = some (.inr (1, [.int (nI N), .int (nI (rR (sid kd) N)), .int (nI (sbN (sid kd) N)), .int (nI (sm (sid kd) N - 1)), .ref (la + 1), .ref (la + 2), .ref (la + 3), .ref (la + 4)]))) (hc4 : σ (la + 3) = some (aI G (rR (sid kd) N * N) f3)) (hc5 : σ (la + 4) = some (aI G (rR (sid kd) N) f4)) (hL : LOK (sid kd) N) (h5 : ∀ r, r < rR (sid kd) N → f5 r = nI (psR kd sr N r)) (h3 : ∀ r, r < rR (sid kd) N → ∀ k, 1 ≤ k → k ≤ N → f3 (r * N + k - 1) = nI (nx (sid kd) N r k)) (h4 : ∀ r, r < rR (sid kd) N → f4 r = nI (jw (sid kd) N r)) (hrk : r < rR (sid kd) N) : GM l G yX4_searchedRows cX4_searchedRows 3 (some .int) rm_X4_searchedRows_5 n σ [.ref va, .int (nI r), .int (nI 5)] (fun rv n2 σ2 => some (.int (nI (lkA kd sr N 5 r 0))) = rv ∧ n = n2 ∧ σ = σ2) := by
  refine GM.intro (by decide +kernel) (Nat.le_of_ble_eq_true rfl) (fun p e s m args below meth c C hr hlocks hname po hpo => ?_)
  have C : Cx p s m args c cX4_searchedRows 3 RX4 G := C
  have hb9 := hL.b
  refine r_aload_n C dX4_searchedRows_0 rfl 0 rfl ?_
  refine r_get (Cn := RX4) (T := TX4) (N := 6) (v := .ref sa) C inlX4 hc0 rfl 0 (by decide) wF_X4_18 (fun _ h => h) rfl dX4_searchedRows_1 ?_
  refine r_iload_n C dX4_searchedRows_4 rfl 1 rfl ?_
  refine r_iconst (v := (-1)) C dX4_searchedRows_5 (by decide) ?_
  refine r_iload_n C dX4_searchedRows_6 rfl 2 rfl ?_
  refine r_callS (As := [.ref sa, .int (nI r), .int (nb 0), .int (nI 5)]) C (c_X4_countSearched_5 (sa := sa) (la := la) (kd := kd) (N := N) (sr := sr) (sv := sv) (f3 := f3) (f4 := f4) (f5 := f5) (r := r) (lt := 0) (cfl := cfl) hc1 hc2 hc3 hc4 hc5 (by first | assumption | omega) (by first | assumption | omega) (by first | assumption | omega) (by first | assumption | omega) (by first | assumption | omega) (by decide)) wM_X4_92 wS_X4_countSearched wN_X4 wC_X4_countSearched hd_X4_countSearched ⟨Nat.le_of_ble_eq_true rfl, Nat.le_of_ble_eq_true rfl⟩ rfl rfl (Nat.le_of_ble_eq_true rfl) dX4_searchedRows_7 ⟨(Nat.le_of_ble_eq_true rfl), (Nat.le_of_ble_eq_true rfl)⟩ (fun rv n2 σ2 hp => ?_)
  obtain ⟨rfl, rfl, rfl⟩ := hp
  refine V.eq (σ2 := σ) (n2 := n) (st2 := [.int (nI (lkA kd sr N 5 r 0))]) rfl rfl rfl rfl ?_
  exact r_iret C hr hlocks (Nat.le_of_ble_eq_true rfl) (Nat.le_of_ble_eq_true rfl) dX4_searchedRows_10 (hpo _ _ _ ⟨rfl, rfl, rfl⟩)

abbrev rm_X4_searchedRows_6 : Room := { frames := 9, cells := 0, slots := 0, locals := 217 }
set_option maxRecDepth 100000 in
set_option maxHeartbeats 4000000 in
theorem c_X4_searchedRows_6 {l : Launch} {G : gG} {n : Nat} {σ : gS} {va sa la : Nat} {kd N sr cfl : Nat} {sv : Value} {tk wk : Bool} {f3 : Nat → Int32} {f4 : Nat → Int32} {f5 : Nat → Int32} {r : Nat} (hc0 : σ va = some (.inr (4, [.ref sa, .ref la, .ref (va + 1), .int (bI tk), .ref (va + 2), .int (bI wk)]))) (hc1 : σ sa = some (.inr (2, [.int (nI kd), .int (nI sr), .int (nI N), .ref la, .ref (sa + 1), sv]))) (hc2 : σ (sa + 1) = some (aI G (rR (sid kd) N) f5)) (hc3 : σ la = some (.inr (1, [.int (nI N), .int (nI (rR (sid kd) N)), .int (nI (sbN (sid kd) N)), .int (nI (sm (sid kd) N - 1)), .ref (la + 1), .ref (la + 2), .ref (la + 3), .ref (la + 4)]))) (hc4 : σ (la + 3) = some (aI G (rR (sid kd) N * N) f3)) (hc5 : σ (la + 4) = some (aI G (rR (sid kd) N) f4)) (hL : LOK (sid kd) N) (h5 : ∀ r, r < rR (sid kd) N → f5 r = nI (psR kd sr N r)) (h3 : ∀ r, r < rR (sid kd) N → ∀ k, 1 ≤ k → k ≤ N → f3 (r * N + k - 1) = nI (nx (sid kd) N r k)) (h4 : ∀ r, r < rR (sid kd) N → f4 r = nI (jw (sid kd) N r)) (hrk : r < rR (sid kd) N) : GM l G yX4_searchedRows cX4_searchedRows 3 (some .int) rm_X4_searchedRows_6 n σ [.ref va, .int (nI r), .int (nI 6)] (fun rv n2 σ2 => some (.int (nI (lkA kd sr N 6 r 0))) = rv ∧ n = n2 ∧ σ = σ2) := by
  refine GM.intro (by decide +kernel) (Nat.le_of_ble_eq_true rfl) (fun p e s m args below meth c C hr hlocks hname po hpo => ?_)
  have C : Cx p s m args c cX4_searchedRows 3 RX4 G := C
  have hb9 := hL.b
  refine r_aload_n C dX4_searchedRows_0 rfl 0 rfl ?_
  refine r_get (Cn := RX4) (T := TX4) (N := 6) (v := .ref sa) C inlX4 hc0 rfl 0 (by decide) wF_X4_18 (fun _ h => h) rfl dX4_searchedRows_1 ?_
  refine r_iload_n C dX4_searchedRows_4 rfl 1 rfl ?_
  refine r_iconst (v := (-1)) C dX4_searchedRows_5 (by decide) ?_
  refine r_iload_n C dX4_searchedRows_6 rfl 2 rfl ?_
  refine r_callS (As := [.ref sa, .int (nI r), .int (nb 0), .int (nI 6)]) C (c_X4_countSearched_6 (sa := sa) (la := la) (kd := kd) (N := N) (sr := sr) (sv := sv) (f3 := f3) (f4 := f4) (f5 := f5) (r := r) (lt := 0) (cfl := cfl) hc1 hc2 hc3 hc4 hc5 (by first | assumption | omega) (by first | assumption | omega) (by first | assumption | omega) (by first | assumption | omega) (by first | assumption | omega) (by decide)) wM_X4_92 wS_X4_countSearched wN_X4 wC_X4_countSearched hd_X4_countSearched ⟨Nat.le_of_ble_eq_true rfl, Nat.le_of_ble_eq_true rfl⟩ rfl rfl (Nat.le_of_ble_eq_true rfl) dX4_searchedRows_7 ⟨(Nat.le_of_ble_eq_true rfl), (Nat.le_of_ble_eq_true rfl)⟩ (fun rv n2 σ2 hp => ?_)
  obtain ⟨rfl, rfl, rfl⟩ := hp
  refine V.eq (σ2 := σ) (n2 := n) (st2 := [.int (nI (lkA kd sr N 6 r 0))]) rfl rfl rfl rfl ?_
  exact r_iret C hr hlocks (Nat.le_of_ble_eq_true rfl) (Nat.le_of_ble_eq_true rfl) dX4_searchedRows_10 (hpo _ _ _ ⟨rfl, rfl, rfl⟩)
