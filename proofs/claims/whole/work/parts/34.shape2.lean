def nb (b : Nat) : Int32 := if b = 0 then (-1) else nI b
def fwg (b g : Nat) : Nat := if b = 0 then 0 else g
theorem okR_al {kd sr N r k : Nat} (h : okR kd sr N r k = true) : al kd sr N (oR (sid kd) N r) (sR (sid kd) N r) k = true := by
  rw [okR, Bool.and_eq_true] at h
  exact h.2
theorem okR_na {kd sr N r k : Nat} (h : okR kd sr N r k = false) (h2 : 1 ≤ k ∧ k ≤ N) : al kd sr N (oR (sid kd) N r) (sR (sid kd) N r) k = false := by
  rw [okR, decide_eq_true h2, Bool.true_and] at h
  exact h
theorem bv_nx {kd sr N r k : Nat} (hN : N ≤ 6) (h : al kd sr N (oR (sid kd) N r) (sR (sid kd) N r) k = true) (hk : k ≤ N) : bv kd N sr (oR (sid kd) N r) (sR (sid kd) N r) k = gp (sid kd) N (oR (sid kd) N (nx (sid kd) N r k)) (sR (sid kd) N (nx (sid kd) N r k)) := by
  rw [bv, if_pos h, nx, oR_rk (tnS_lt hN sR_lt hk), sR_rk (tnS_lt hN sR_lt hk)]
theorem bst_no {kd N sr o sd i : Nat} (h : al kd sr N o sd (i + 1) = false) : bst kd N sr o sd (i + 1) = bst kd N sr o sd i := by
  have := bst_le kd N sr o sd i
  rw [bst, if_neg]
  rw [bv, if_neg (by rw [h]; decide)]
  omega
theorem bst_not {kd N sr o sd i : Nat} (h : ¬ bv kd N sr o sd (i + 1) < (bst kd N sr o sd i).2) : bst kd N sr o sd (i + 1) = bst kd N sr o sd i := by rw [bst, if_neg h]
theorem bst_yes {kd N sr o sd i : Nat} (h : bv kd N sr o sd (i + 1) < (bst kd N sr o sd i).2) : bst kd N sr o sd (i + 1) = (i + 1, bv kd N sr o sd (i + 1)) := by rw [bst, if_pos h]
theorem bst_i (kd N sr o sd : Nat) : ∀ i, i < 2 ^ 31 → (bst kd N sr o sd i).1 < 2 ^ 31
  | 0, _ => by simp [bst]
  | i + 1, h => by
    have := bst_i kd N sr o sd i (by omega)
    rw [bst]
    split
    · exact h
    · exact this
theorem bst_0 {kd N sr o sd : Nat} : ∀ {i : Nat}, (bst kd N sr o sd i).1 = 0 → (bst kd N sr o sd i).2 = 9
  | 0, _ => rfl
  | i + 1, h => by
    rw [bst] at h ⊢
    split at h
    · exact absurd h (Nat.succ_ne_zero i)
    · next g => rw [if_neg g]; exact bst_0 h
theorem nb_0 {b : Nat} (hb : b < 2 ^ 31) (h : nb b = (-1)) : b = 0 := by
  rw [nb] at h
  split at h
  · assumption
  · exact absurd h (nI_m1n hb)

abbrev rm_X2_turnToFewestGaps : Room := { frames := 2, cells := 0, slots := 0, locals := 43 }
set_option maxRecDepth 100000 in
set_option maxHeartbeats 4000000 in
theorem c_X2_turnToFewestGaps {l : Launch} {G : gG} {n : Nat} {σ : gS} {sa la : Nat} {kd N sr : Nat} {sv : Value} {f3 : Nat → Int32} {f4 : Nat → Int32} {f5 : Nat → Int32} {r cfl : Nat} (hc0 : σ sa = some (.inr (2, [.int (nI kd), .int (nI sr), .int (nI N), .ref la, .ref (sa + 1), sv]))) (hc1 : σ (sa + 1) = some (aI G (rR (sid kd) N) f5)) (hc2 : σ la = some (.inr (1, [.int (nI N), .int (nI (rR (sid kd) N)), .int (nI (sbN (sid kd) N)), .int (nI (sm (sid kd) N - 1)), .ref (la + 1), .ref (la + 2), .ref (la + 3), .ref (la + 4)]))) (hc3 : σ (la + 3) = some (aI G (rR (sid kd) N * N) f3)) (hc4 : σ (la + 4) = some (aI G (rR (sid kd) N) f4)) (hL : LOK (sid kd) N) (h5 : ∀ r, r < rR (sid kd) N → f5 r = nI (psR kd sr N r)) (h3 : ∀ r, r < rR (sid kd) N → ∀ k, 1 ≤ k → k ≤ N → f3 (r * N + k - 1) = nI (nx (sid kd) N r k)) (h4 : ∀ r, r < rR (sid kd) N → f4 r = nI (jw (sid kd) N r)) (hrk : r < rR (sid kd) N) : GM l G yX2_turnToFewestGaps cX2_turnToFewestGaps 6 (some .int) rm_X2_turnToFewestGaps n σ [.ref sa, .int (nI r)] (fun rv n2 σ2 => some (.int (nb (bst kd N sr (oR (sid kd) N r) (sR (sid kd) N r) N).1)) = rv ∧ n = n2 ∧ σ = σ2) := by
  refine GM.intro (by decide +kernel) (Nat.le_of_ble_eq_true rfl) (fun p e s m args below meth c C hr hlocks hname po hpo => ?_)
  have C : Cx p s m args c cX2_turnToFewestGaps 6 RX2 G := C
  have hb9 := hL.b
  refine r_iconst (v := (-1)) C dX2_turnToFewestGaps_0 (by decide) ?_
  refine r_istore_n (lv2 := [(2, .int (-1)), (0, .ref sa), (1, .int (nI r))]) C dX2_turnToFewestGaps_1 rfl (by decide) rfl ?_
  refine r_iconst (v := nI 0) C dX2_turnToFewestGaps_2 (by decide) ?_
  refine r_istore_n (lv2 := [(3, .int (nI 0)), (2, .int (-1)), (0, .ref sa), (1, .int (nI r))]) C dX2_turnToFewestGaps_3 rfl (by decide) rfl ?_
  refine r_iconst (v := nI 1) C dX2_turnToFewestGaps_4 (by decide) ?_
  refine r_istore (lv2 := [(4, .int (nI 1)), (3, .int (nI 0)), (2, .int (-1)), (0, .ref sa), (1, .int (nI r))]) C dX2_turnToFewestGaps_5 (by decide) rfl ?_
  have L7 : ∀ (fu : Nat) (i : Nat), (i ≤ N) → (N + 1 - i) < fu → V p l e rm_X2_turnToFewestGaps s m args below meth c G 6 (MQ below (gQ G po) args s rm_X2_turnToFewestGaps.cells rm_X2_turnToFewestGaps.slots (gF G)) 0 0 n σ 7 [(0, .ref sa), (1, .int (nI r)), (2, .int (nb (bst kd N sr (oR (sid kd) N r) (sR (sid kd) N r) i).1)), (3, .int (nI (fwg (bst kd N sr (oR (sid kd) N r) (sR (sid kd) N r) i).1 (bst kd N sr (oR (sid kd) N r) (sR (sid kd) N r) i).2))), (4, .int (nI (i + 1)))] [] := by
    intro fu
    induction fu with
    | zero => intro i hi hm; exact absurd hm (Nat.not_lt_zero _)
    | succ fu ih7 =>
      intro i hi hm7
      have hiL : i < 2 ^ 31 := by have := hL.b; omega
      refine r_iload C dX2_turnToFewestGaps_7 4 rfl ?_
      refine r_aload_n C dX2_turnToFewestGaps_9 rfl 0 rfl ?_
      refine r_get (Cn := RX2) (T := TX2) (N := 6) (v := .int (nI N)) C inlX2 hc0 rfl 2 (by decide) wF_X2_31 (fun _ h => h) rfl dX2_turnToFewestGaps_10 ?_
      refine r_icmp_gtN (tgt := 68) C dX2_turnToFewestGaps_13 (by decide) (by omega) (by omega) (fun c13 => ?_) (fun c13 => ?_)
      · have hiN : i = N := by omega
        refine r_iload_n C dX2_turnToFewestGaps_68 rfl 2 rfl ?_
        exact r_iret C hr hlocks (Nat.le_of_ble_eq_true rfl) (Nat.le_of_ble_eq_true rfl) dX2_turnToFewestGaps_69 (hpo _ _ _ ⟨by rw [hiN], rfl, rfl⟩)
      · refine r_aload_n C dX2_turnToFewestGaps_16 rfl 0 rfl ?_
        refine r_iload_n C dX2_turnToFewestGaps_17 rfl 1 rfl ?_
        refine r_iload C dX2_turnToFewestGaps_18 4 rfl ?_
        refine r_callV (As := [.int (nI r), .int (nI (i + 1))]) C (c_X2_allows (sa := sa) (la := la) (kd := kd) (N := N) (sr := sr) (sv := sv) (f5 := f5) (r := r) (k := i + 1) hc0 hc1 (by first | assumption | omega) (by first | assumption | omega) (by first | assumption | omega) (by omega)) wM_X2_64 wI_X2_allows wN_X2 wC_X2_allows wV_X2_allows hd_X2_allows ⟨Nat.le_of_ble_eq_true rfl, Nat.le_of_ble_eq_true rfl⟩ rfl hc0 rfl rfl (Nat.le_of_ble_eq_true rfl) dX2_turnToFewestGaps_20 ⟨(Nat.le_of_ble_eq_true rfl), (Nat.le_of_ble_eq_true rfl)⟩ (fun rv n2 σ2 hp => ?_)
        obtain ⟨rfl, rfl, rfl⟩ := hp
        refine V.eq (σ2 := σ) (n2 := n) (st2 := [.int (bI (okR kd sr N r (i + 1)))]) rfl rfl rfl rfl ?_
        refine r_if_eqB (tgt := 62) C dX2_turnToFewestGaps_23 (by decide) (fun c23 => ?_) (fun c23 => ?_)
        · have hbs := bst_no (i := i) (okR_na c23 (show 1 ≤ i + 1 ∧ i + 1 ≤ N by omega))
          refine r_iinc (v := nI (i + 2)) (lv2 := [(4, .int (nI (i + 2))), (0, .ref sa), (1, .int (nI r)), (2, .int (nb (bst kd N sr (oR (sid kd) N r) (sR (sid kd) N r) i).1)), (3, .int (nI (fwg (bst kd N sr (oR (sid kd) N r) (sR (sid kd) N r) i).1 (bst kd N sr (oR (sid kd) N r) (sR (sid kd) N r) i).2)))]) C dX2_turnToFewestGaps_62 (k := 4) rfl (nI_add _ 1) (by decide) rfl ?_
          refine r_goto (tgt := 7) C dX2_turnToFewestGaps_65 (by decide) ?_
          refine V.sub (lv2 := [(0, .ref sa), (1, .int (nI r)), (2, .int (nb (bst kd N sr (oR (sid kd) N r) (sR (sid kd) N r) i).1)), (3, .int (nI (fwg (bst kd N sr (oR (sid kd) N r) (sR (sid kd) N r) i).1 (bst kd N sr (oR (sid kd) N r) (sR (sid kd) N r) i).2))), (4, .int (nI (i + 2)))]) [1, 2, 3, 4, 0] rfl ?_
          refine V.eq (σ2 := σ) (lv2 := [(0, .ref sa), (1, .int (nI r)), (2, .int (nb (bst kd N sr (oR (sid kd) N r) (sR (sid kd) N r) (i + 1)).1)), (3, .int (nI (fwg (bst kd N sr (oR (sid kd) N r) (sR (sid kd) N r) (i + 1)).1 (bst kd N sr (oR (sid kd) N r) (sR (sid kd) N r) (i + 1)).2))), (4, .int (nI ((i + 1) + 1)))]) (st2 := []) rfl rfl (by rw [(show nb (bst kd N sr (oR (sid kd) N r) (sR (sid kd) N r) i).1 = nb (bst kd N sr (oR (sid kd) N r) (sR (sid kd) N r) (i + 1)).1 from by rw [hbs]), (show nI (fwg (bst kd N sr (oR (sid kd) N r) (sR (sid kd) N r) i).1 (bst kd N sr (oR (sid kd) N r) (sR (sid kd) N r) i).2) = nI (fwg (bst kd N sr (oR (sid kd) N r) (sR (sid kd) N r) (i + 1)).1 (bst kd N sr (oR (sid kd) N r) (sR (sid kd) N r) (i + 1)).2) from by first | (rw [hbs]; done) | (rw [hbs, fwg, if_neg hb1])), (show nI (i + 2) = nI ((i + 1) + 1) from rfl)]) rfl ?_
          exact ih7 (i + 1) (by omega) (by omega)
        · have hal : al kd sr N (oR (sid kd) N r) (sR (sid kd) N r) (i + 1) = true := okR_al c23
          have hnx := nx_lt hL.2.1 hrk (show i + 1 ≤ N by omega)
          have hgl := gp_lt (sid kd) hL.2.1 (oR (sid kd) N (nx (sid kd) N r (i + 1))) (sR (sid kd) N (nx (sid kd) N r (i + 1)))
          have hg6 : gp (sid kd) N (oR (sid kd) N (nx (sid kd) N r (i + 1))) (sR (sid kd) N (nx (sid kd) N r (i + 1))) ≤ 6 := gpR_le kd hL.2.1 _
          have hbv : bv kd N sr (oR (sid kd) N r) (sR (sid kd) N r) (i + 1) = gp (sid kd) N (oR (sid kd) N (nx (sid kd) N r (i + 1))) (sR (sid kd) N (nx (sid kd) N r (i + 1))) := bv_nx hL.2.1 hal (by omega)
          have hb2 := bst_le kd N sr (oR (sid kd) N r) (sR (sid kd) N r) i
          refine r_aload_n C dX2_turnToFewestGaps_26 rfl 0 rfl ?_
          refine r_get (Cn := RX2) (T := TX2) (N := 6) (v := .ref la) C inlX2 hc0 rfl 3 (by decide) wF_X2_22 (fun _ h => h) rfl dX2_turnToFewestGaps_27 ?_
          refine r_aload_n C dX2_turnToFewestGaps_30 rfl 0 rfl ?_
          refine r_get (Cn := RX2) (T := TX2) (N := 6) (v := .ref la) C inlX2 hc0 rfl 3 (by decide) wF_X2_22 (fun _ h => h) rfl dX2_turnToFewestGaps_31 ?_
          refine r_iload_n C dX2_turnToFewestGaps_34 rfl 1 rfl ?_
          refine r_iload C dX2_turnToFewestGaps_35 4 rfl ?_
          refine r_callV (As := [.int (nI r), .int (nI (i + 1))]) C (c_X1_behind (la := la) (N := N) (cfl := cfl) (sb := (sid kd)) (f3 := f3) (r := r) (k := i + 1) hc2 hc3 (by first | assumption | omega) (by first | assumption | omega) (by first | assumption | omega) (by first | assumption | omega) (by first | assumption | omega)) wM_X2_67 wI_X1_behind wN_X1 wC_X1_behind wV_X1_behind hd_X1_behind ⟨Nat.le_of_ble_eq_true rfl, Nat.le_of_ble_eq_true rfl⟩ rfl hc2 rfl rfl (Nat.le_of_ble_eq_true rfl) dX2_turnToFewestGaps_37 ⟨(Nat.le_of_ble_eq_true rfl), (Nat.le_of_ble_eq_true rfl)⟩ (fun rv n2 σ2 hp => ?_)
          obtain ⟨rfl, rfl, rfl⟩ := hp
          refine V.eq (σ2 := σ) (n2 := n) (st2 := [.int (nI (nx (sid kd) N r (i + 1))), .ref la]) rfl rfl rfl rfl ?_
          refine r_callV (As := [.int (nI (nx (sid kd) N r (i + 1)))]) C (c_X1_gaps (la := la) (N := N) (cfl := cfl) (sb := (sid kd)) (f4 := f4) (r := nx (sid kd) N r (i + 1)) hc2 hc4 (by first | assumption | omega) (by first | assumption | omega) (hnx)) wM_X2_70 wI_X1_gaps wN_X1 wC_X1_gaps wV_X1_gaps hd_X1_gaps ⟨Nat.le_of_ble_eq_true rfl, Nat.le_of_ble_eq_true rfl⟩ rfl hc2 rfl rfl (Nat.le_of_ble_eq_true rfl) dX2_turnToFewestGaps_40 ⟨(Nat.le_of_ble_eq_true rfl), (Nat.le_of_ble_eq_true rfl)⟩ (fun rv n2 σ2 hp => ?_)
          obtain ⟨rfl, rfl, rfl⟩ := hp
          refine V.eq (σ2 := σ) (n2 := n) (st2 := [.int (nI (gp (sid kd) N (oR (sid kd) N (nx (sid kd) N r (i + 1))) (sR (sid kd) N (nx (sid kd) N r (i + 1)))))]) rfl rfl rfl rfl ?_
          refine r_istore (lv2 := [(5, .int (nI (gp (sid kd) N (oR (sid kd) N (nx (sid kd) N r (i + 1))) (sR (sid kd) N (nx (sid kd) N r (i + 1)))))), (0, .ref sa), (1, .int (nI r)), (2, .int (nb (bst kd N sr (oR (sid kd) N r) (sR (sid kd) N r) i).1)), (3, .int (nI (fwg (bst kd N sr (oR (sid kd) N r) (sR (sid kd) N r) i).1 (bst kd N sr (oR (sid kd) N r) (sR (sid kd) N r) i).2))), (4, .int (nI (i + 1)))]) C dX2_turnToFewestGaps_43 (by decide) rfl ?_
          refine r_iload_n C dX2_turnToFewestGaps_45 rfl 3 rfl ?_
          refine r_iconst (v := (-1)) C dX2_turnToFewestGaps_46 (by decide) ?_
          refine r_icmp_eq (tgt := 56) C dX2_turnToFewestGaps_47 (by decide) (fun c47 => ?_) (fun c47 => ?_)
          · have hbs := bst_yes (i := i) (kd := kd) (N := N) (sr := sr) (o := oR (sid kd) N r) (sd := sR (sid kd) N r) (by rw [hbv]; first | (have h8 := bst_0 (nb_0 (bst_i kd N sr (oR (sid kd) N r) (sR (sid kd) N r) i hiL) c47); omega) | exact c53)
            refine r_iload C dX2_turnToFewestGaps_56 5 rfl ?_
            refine r_istore_n (lv2 := [(2, .int (nI (i + 1))), (5, .int (nI (gp (sid kd) N (oR (sid kd) N (nx (sid kd) N r (i + 1))) (sR (sid kd) N (nx (sid kd) N r (i + 1)))))), (0, .ref sa), (1, .int (nI r)), (3, .int (nI (fwg (bst kd N sr (oR (sid kd) N r) (sR (sid kd) N r) i).1 (bst kd N sr (oR (sid kd) N r) (sR (sid kd) N r) i).2))), (4, .int (nI (i + 1)))]) C dX2_turnToFewestGaps_58 rfl (by decide) rfl ?_
            refine r_iload C dX2_turnToFewestGaps_59 1 rfl ?_
            refine r_istore_n (lv2 := [(3, .int (nI (gp (sid kd) N (oR (sid kd) N (nx (sid kd) N r (i + 1))) (sR (sid kd) N (nx (sid kd) N r (i + 1)))))), (2, .int (nI (i + 1))), (5, .int (nI (gp (sid kd) N (oR (sid kd) N (nx (sid kd) N r (i + 1))) (sR (sid kd) N (nx (sid kd) N r (i + 1)))))), (0, .ref sa), (1, .int (nI r)), (4, .int (nI (i + 1)))]) C dX2_turnToFewestGaps_61 rfl (by decide) rfl ?_
            refine r_iinc (v := nI (i + 2)) (lv2 := [(4, .int (nI (i + 2))), (3, .int (nI (gp (sid kd) N (oR (sid kd) N (nx (sid kd) N r (i + 1))) (sR (sid kd) N (nx (sid kd) N r (i + 1)))))), (2, .int (nI (i + 1))), (5, .int (nI (gp (sid kd) N (oR (sid kd) N (nx (sid kd) N r (i + 1))) (sR (sid kd) N (nx (sid kd) N r (i + 1)))))), (0, .ref sa), (1, .int (nI r))]) C dX2_turnToFewestGaps_62 (k := 5) rfl (nI_add _ 1) (by decide) rfl ?_
            refine r_goto (tgt := 7) C dX2_turnToFewestGaps_65 (by decide) ?_
            refine V.sub (lv2 := [(0, .ref sa), (1, .int (nI r)), (2, .int (nI (i + 1))), (3, .int (nI (gp (sid kd) N (oR (sid kd) N (nx (sid kd) N r (i + 1))) (sR (sid kd) N (nx (sid kd) N r (i + 1)))))), (4, .int (nI (i + 2)))]) [4, 5, 2, 1, 0] rfl ?_
            refine V.eq (σ2 := σ) (lv2 := [(0, .ref sa), (1, .int (nI r)), (2, .int (nb (bst kd N sr (oR (sid kd) N r) (sR (sid kd) N r) (i + 1)).1)), (3, .int (nI (fwg (bst kd N sr (oR (sid kd) N r) (sR (sid kd) N r) (i + 1)).1 (bst kd N sr (oR (sid kd) N r) (sR (sid kd) N r) (i + 1)).2))), (4, .int (nI ((i + 1) + 1)))]) (st2 := []) rfl rfl (by rw [(show nI (i + 1) = nb (bst kd N sr (oR (sid kd) N r) (sR (sid kd) N r) (i + 1)).1 from by rw [hbs]; rfl), (show nI (gp (sid kd) N (oR (sid kd) N (nx (sid kd) N r (i + 1))) (sR (sid kd) N (nx (sid kd) N r (i + 1)))) = nI (fwg (bst kd N sr (oR (sid kd) N r) (sR (sid kd) N r) (i + 1)).1 (bst kd N sr (oR (sid kd) N r) (sR (sid kd) N r) (i + 1)).2) from by rw [hbs, hbv]; rfl), (show nI (i + 2) = nI ((i + 1) + 1) from rfl)]) rfl ?_
            exact ih7 (i + 1) (by omega) (by omega)
          · have hb1 : (bst kd N sr (oR (sid kd) N r) (sR (sid kd) N r) i).1 ≠ 0 := fun z => c47 (by rw [nb, if_pos z])
            refine V.eq (lv2 := [(5, .int (nI (gp (sid kd) N (oR (sid kd) N (nx (sid kd) N r (i + 1))) (sR (sid kd) N (nx (sid kd) N r (i + 1)))))), (0, .ref sa), (1, .int (nI r)), (2, .int (nb (bst kd N sr (oR (sid kd) N r) (sR (sid kd) N r) i).1)), (3, .int (nI ((bst kd N sr (oR (sid kd) N r) (sR (sid kd) N r) i).2))), (4, .int (nI (i + 1)))]) rfl rfl (by rw [(show nI (fwg (bst kd N sr (oR (sid kd) N r) (sR (sid kd) N r) i).1 (bst kd N sr (oR (sid kd) N r) (sR (sid kd) N r) i).2) = nI ((bst kd N sr (oR (sid kd) N r) (sR (sid kd) N r) i).2) from congrArg nI (if_neg hb1))]) rfl ?_
            refine r_iload C dX2_turnToFewestGaps_50 0 rfl ?_
            refine r_iload_n C dX2_turnToFewestGaps_52 rfl 4 rfl ?_
            refine r_icmp_geN (tgt := 62) C dX2_turnToFewestGaps_53 (by decide) (by omega) (by omega) (fun c53 => ?_) (fun c53 => ?_)
            · have hbs := bst_not (i := i) (kd := kd) (N := N) (sr := sr) (o := oR (sid kd) N r) (sd := sR (sid kd) N r) (by rw [hbv]; omega)
              refine r_iinc (v := nI (i + 2)) (lv2 := [(4, .int (nI (i + 2))), (5, .int (nI (gp (sid kd) N (oR (sid kd) N (nx (sid kd) N r (i + 1))) (sR (sid kd) N (nx (sid kd) N r (i + 1)))))), (0, .ref sa), (1, .int (nI r)), (2, .int (nb (bst kd N sr (oR (sid kd) N r) (sR (sid kd) N r) i).1)), (3, .int (nI ((bst kd N sr (oR (sid kd) N r) (sR (sid kd) N r) i).2)))]) C dX2_turnToFewestGaps_62 (k := 5) rfl (nI_add _ 1) (by decide) rfl ?_
              refine r_goto (tgt := 7) C dX2_turnToFewestGaps_65 (by decide) ?_
              refine V.sub (lv2 := [(0, .ref sa), (1, .int (nI r)), (2, .int (nb (bst kd N sr (oR (sid kd) N r) (sR (sid kd) N r) i).1)), (3, .int (nI ((bst kd N sr (oR (sid kd) N r) (sR (sid kd) N r) i).2))), (4, .int (nI (i + 2)))]) [2, 3, 4, 5, 0] rfl ?_
              refine V.eq (σ2 := σ) (lv2 := [(0, .ref sa), (1, .int (nI r)), (2, .int (nb (bst kd N sr (oR (sid kd) N r) (sR (sid kd) N r) (i + 1)).1)), (3, .int (nI (fwg (bst kd N sr (oR (sid kd) N r) (sR (sid kd) N r) (i + 1)).1 (bst kd N sr (oR (sid kd) N r) (sR (sid kd) N r) (i + 1)).2))), (4, .int (nI ((i + 1) + 1)))]) (st2 := []) rfl rfl (by rw [(show nb (bst kd N sr (oR (sid kd) N r) (sR (sid kd) N r) i).1 = nb (bst kd N sr (oR (sid kd) N r) (sR (sid kd) N r) (i + 1)).1 from by rw [hbs]), (show nI ((bst kd N sr (oR (sid kd) N r) (sR (sid kd) N r) i).2) = nI (fwg (bst kd N sr (oR (sid kd) N r) (sR (sid kd) N r) (i + 1)).1 (bst kd N sr (oR (sid kd) N r) (sR (sid kd) N r) (i + 1)).2) from by first | (rw [hbs]; done) | (rw [hbs, fwg, if_neg hb1])), (show nI (i + 2) = nI ((i + 1) + 1) from rfl)]) rfl ?_
              exact ih7 (i + 1) (by omega) (by omega)
            · have hbs := bst_yes (i := i) (kd := kd) (N := N) (sr := sr) (o := oR (sid kd) N r) (sd := sR (sid kd) N r) (by rw [hbv]; first | (have h8 := bst_0 (nb_0 (bst_i kd N sr (oR (sid kd) N r) (sR (sid kd) N r) i hiL) c47); omega) | exact c53)
              refine r_iload C dX2_turnToFewestGaps_56 5 rfl ?_
              refine r_istore_n (lv2 := [(2, .int (nI (i + 1))), (5, .int (nI (gp (sid kd) N (oR (sid kd) N (nx (sid kd) N r (i + 1))) (sR (sid kd) N (nx (sid kd) N r (i + 1)))))), (0, .ref sa), (1, .int (nI r)), (3, .int (nI ((bst kd N sr (oR (sid kd) N r) (sR (sid kd) N r) i).2))), (4, .int (nI (i + 1)))]) C dX2_turnToFewestGaps_58 rfl (by decide) rfl ?_
              refine r_iload C dX2_turnToFewestGaps_59 1 rfl ?_
              refine r_istore_n (lv2 := [(3, .int (nI (gp (sid kd) N (oR (sid kd) N (nx (sid kd) N r (i + 1))) (sR (sid kd) N (nx (sid kd) N r (i + 1)))))), (2, .int (nI (i + 1))), (5, .int (nI (gp (sid kd) N (oR (sid kd) N (nx (sid kd) N r (i + 1))) (sR (sid kd) N (nx (sid kd) N r (i + 1)))))), (0, .ref sa), (1, .int (nI r)), (4, .int (nI (i + 1)))]) C dX2_turnToFewestGaps_61 rfl (by decide) rfl ?_
              refine r_iinc (v := nI (i + 2)) (lv2 := [(4, .int (nI (i + 2))), (3, .int (nI (gp (sid kd) N (oR (sid kd) N (nx (sid kd) N r (i + 1))) (sR (sid kd) N (nx (sid kd) N r (i + 1)))))), (2, .int (nI (i + 1))), (5, .int (nI (gp (sid kd) N (oR (sid kd) N (nx (sid kd) N r (i + 1))) (sR (sid kd) N (nx (sid kd) N r (i + 1)))))), (0, .ref sa), (1, .int (nI r))]) C dX2_turnToFewestGaps_62 (k := 5) rfl (nI_add _ 1) (by decide) rfl ?_
              refine r_goto (tgt := 7) C dX2_turnToFewestGaps_65 (by decide) ?_
              refine V.sub (lv2 := [(0, .ref sa), (1, .int (nI r)), (2, .int (nI (i + 1))), (3, .int (nI (gp (sid kd) N (oR (sid kd) N (nx (sid kd) N r (i + 1))) (sR (sid kd) N (nx (sid kd) N r (i + 1)))))), (4, .int (nI (i + 2)))]) [4, 5, 2, 1, 0] rfl ?_
              refine V.eq (σ2 := σ) (lv2 := [(0, .ref sa), (1, .int (nI r)), (2, .int (nb (bst kd N sr (oR (sid kd) N r) (sR (sid kd) N r) (i + 1)).1)), (3, .int (nI (fwg (bst kd N sr (oR (sid kd) N r) (sR (sid kd) N r) (i + 1)).1 (bst kd N sr (oR (sid kd) N r) (sR (sid kd) N r) (i + 1)).2))), (4, .int (nI ((i + 1) + 1)))]) (st2 := []) rfl rfl (by rw [(show nI (i + 1) = nb (bst kd N sr (oR (sid kd) N r) (sR (sid kd) N r) (i + 1)).1 from by rw [hbs]; rfl), (show nI (gp (sid kd) N (oR (sid kd) N (nx (sid kd) N r (i + 1))) (sR (sid kd) N (nx (sid kd) N r (i + 1)))) = nI (fwg (bst kd N sr (oR (sid kd) N r) (sR (sid kd) N r) (i + 1)).1 (bst kd N sr (oR (sid kd) N r) (sR (sid kd) N r) (i + 1)).2) from by rw [hbs, hbv]; rfl), (show nI (i + 2) = nI ((i + 1) + 1) from rfl)]) rfl ?_
              exact ih7 (i + 1) (by omega) (by omega)
  refine V.sub (lv2 := [(0, .ref sa), (1, .int (nI r)), (2, .int (-1)), (3, .int (nI 0)), (4, .int (nI 1))]) [3, 4, 2, 1, 0] rfl ?_
  refine V.eq (σ2 := σ) (lv2 := [(0, .ref sa), (1, .int (nI r)), (2, .int (nb (bst kd N sr (oR (sid kd) N r) (sR (sid kd) N r) 0).1)), (3, .int (nI (fwg (bst kd N sr (oR (sid kd) N r) (sR (sid kd) N r) 0).1 (bst kd N sr (oR (sid kd) N r) (sR (sid kd) N r) 0).2))), (4, .int (nI (0 + 1)))]) (st2 := []) rfl rfl rfl rfl ?_
  exact L7 _ 0 (by omega) (Nat.lt_succ_self _)
