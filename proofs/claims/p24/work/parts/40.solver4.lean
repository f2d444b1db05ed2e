def cI (d : Nat) : Int32 := if d = 1000000 then (-1) else nI d
theorem cI_n {d : Nat} (h : d < 1000000) : cI d = nI d := if_neg (by omega)
theorem cI_eq {d w : Nat} (hd : d ≤ 1000000) (hw : w < 1000000) (h : cI d = nI w) : d = w := by
  rw [cI] at h
  split at h
  · exact absurd h.symm (nI_m1n (by omega))
  · exact nI_inj7 (by omega) (by omega) h
theorem ft_go {kd sr N r i f : Nat} {dd : Nat → Nat} (hf : nrr kd sr N dd r f) (hi : i ≤ f) (h : aR1 kd sr N r i = false ∨ dd (nx (sid kd) N r i) ≠ dd r - 1) : i + 1 ≤ f := by
  rcases Nat.lt_or_eq_of_le hi with g | g
  · exact g
  · subst g
    rcases h with h | h
    · exact absurd (hf.1.symm.trans h) (by decide)
    · exact absurd hf.2 h
theorem ft_at {kd sr N r i f : Nat} {dd : Nat → Nat} (hf : ∀ m, 1 ≤ m → m < f → ¬ nrr kd sr N dd r m) (hi : 1 ≤ i) (hi2 : i ≤ f) (h1 : aR1 kd sr N r i = true) (h2 : dd (nx (sid kd) N r i) = dd r - 1) : i = f := by
  rcases Nat.lt_or_eq_of_le hi2 with g | g
  · exact absurd ⟨h1, h2⟩ (hf i hi g)
  · exact g

abbrev rm_X4_firstTurnToward : Room := { frames := 2, cells := 0, slots := 0, locals := 43 }
set_option maxRecDepth 100000 in
set_option maxHeartbeats 4000000 in
theorem c_X4_firstTurnToward {l : Launch} {G : gG} {n : Nat} {σ : gS} {va sa la : Nat} {kd N sr cfl : Nat} {sv : Value} {tk wk : Bool} {f3 : Nat → Int32} {f5 : Nat → Int32} {f6 : Nat → Int32} {r : Nat} {dd : Nat → Nat} (hc0 : σ va = some (.inr (4, [.ref sa, .ref la, .ref (va + 1), .int (bI tk), .ref (va + 2), .int (bI wk)]))) (hc1 : σ sa = some (.inr (2, [.int (nI kd), .int (nI sr), .int (nI N), .ref la, .ref (sa + 1), sv]))) (hc2 : σ (sa + 1) = some (aI G (rR (sid kd) N) f5)) (hc3 : σ la = some (.inr (1, [.int (nI N), .int (nI (rR (sid kd) N)), .int (nI (sbN (sid kd) N)), .int (nI (sm (sid kd) N - 1)), .ref (la + 1), .ref (la + 2), .ref (la + 3), .ref (la + 4)]))) (hc4 : σ (la + 3) = some (aI G (rR (sid kd) N * N) f3)) (hc5 : σ (va + 1) = some (aI G (rR (sid kd) N) f6)) (hL : LOK (sid kd) N) (hso : shOK kd N sr) (h5 : ∀ r, r < rR (sid kd) N → f5 r = nI (psR kd sr N r)) (h3 : ∀ r, r < rR (sid kd) N → ∀ k, 1 ≤ k → k ≤ N → f3 (r * N + k - 1) = nI (nx (sid kd) N r k)) (hrk : r < rR (sid kd) N) (h6 : ∀ r, r < rR (sid kd) N → f6 r = cI (dd r)) (hD : DistIs one kd sr N dd) (h0 : 0 < dd r) (h9 : dd r ≤ 9) : GM l G yX4_firstTurnToward cX4_firstTurnToward 4 (some .int) rm_X4_firstTurnToward n σ [.ref va, .int (nI r), .int (nI (dd r - 1))] (fun rv n2 σ2 => some (.int (nI (fst9 kd sr N dd r))) = rv ∧ n = n2 ∧ σ = σ2) := by
  refine GM.intro (by decide +kernel) (Nat.le_of_ble_eq_true rfl) (fun p e s m args below meth c C hr hlocks hname po hpo => ?_)
  have C : Cx p s m args c cX4_firstTurnToward 4 RX4 G := C
  have hb9 := hL.b
  have hfs := fst_ok hso hD hrk h0 h9
  refine r_iconst (v := nI 1) C dX4_firstTurnToward_0 (by decide) ?_
  refine r_istore_n (lv2 := [(3, .int (nI 1)), (0, .ref va), (1, .int (nI r)), (2, .int (nI (dd r - 1)))]) C dX4_firstTurnToward_1 rfl (by decide) rfl ?_
  have L2 : ∀ (fu : Nat) (i : Nat), (1 ≤ i) → (i ≤ fst9 kd sr N dd r) → (N + 1 - i) < fu → V p l e rm_X4_firstTurnToward s m args below meth c G 4 (MQ below (gQ G po) args s rm_X4_firstTurnToward.cells rm_X4_firstTurnToward.slots (gF G)) 0 0 n σ 2 [(0, .ref va), (1, .int (nI r)), (2, .int (nI (dd r - 1))), (3, .int (nI i))] [] := by
    intro fu
    induction fu with
    | zero => intro i hi hi2 hm; exact absurd hm (Nat.not_lt_zero _)
    | succ fu ih2 =>
      intro i hi hi2 hm2
      have hxl := nx_lt hL.2.1 hrk (show i ≤ N by omega)
      refine r_iload_n C dX4_firstTurnToward_2 rfl 3 rfl ?_
      refine r_aload_n C dX4_firstTurnToward_3 rfl 0 rfl ?_
      refine r_get (Cn := RX4) (T := TX4) (N := 6) (v := .ref sa) C inlX4 hc0 rfl 0 (by decide) wF_X4_18 (fun _ h => h) rfl dX4_firstTurnToward_4 ?_
      refine r_get (Cn := RX2) (T := TX2) (N := 6) (v := .int (nI N)) C inlX2 hc1 rfl 2 (by decide) wF_X4_65 (fun _ h => h) rfl dX4_firstTurnToward_7 ?_
      refine r_icmp_gtN (tgt := 53) C dX4_firstTurnToward_10 (by decide) (by omega) (by omega) (fun c10 => ?_) (fun c10 => ?_)
      · exact absurd c10 (by omega)
      · refine r_aload_n C dX4_firstTurnToward_13 rfl 0 rfl ?_
        refine r_get (Cn := RX4) (T := TX4) (N := 6) (v := .ref sa) C inlX4 hc0 rfl 0 (by decide) wF_X4_18 (fun _ h => h) rfl dX4_firstTurnToward_14 ?_
        refine r_iload_n C dX4_firstTurnToward_17 rfl 1 rfl ?_
        refine r_iload_n C dX4_firstTurnToward_18 rfl 3 rfl ?_
        refine r_callV (As := [.int (nI r), .int (nI i)]) C (c_X2_allows (sa := sa) (la := la) (kd := kd) (N := N) (sr := sr) (sv := sv) (f5 := f5) (r := r) (k := i) hc1 hc2 (by first | assumption | omega) (by first | assumption | omega) (by first | assumption | omega) (by omega)) wM_X4_68 wI_X2_allows wN_X2 wC_X2_allows wV_X2_allows hd_X2_allows ⟨Nat.le_of_ble_eq_true rfl, Nat.le_of_ble_eq_true rfl⟩ rfl hc1 rfl rfl (Nat.le_of_ble_eq_true rfl) dX4_firstTurnToward_19 ⟨(Nat.le_of_ble_eq_true rfl), (Nat.le_of_ble_eq_true rfl)⟩ (fun rv n2 σ2 hp => ?_)
        obtain ⟨rfl, rfl, rfl⟩ := hp
        refine V.eq (σ2 := σ) (n2 := n) (st2 := [.int (bI (okR kd sr N r i))]) rfl rfl rfl rfl ?_
        refine r_if_eqB (tgt := 47) C dX4_firstTurnToward_22 (by decide) (fun c22 => ?_) (fun c22 => ?_)
        · refine r_iinc (v := nI (i + 1)) (lv2 := [(3, .int (nI (i + 1))), (0, .ref va), (1, .int (nI r)), (2, .int (nI (dd r - 1)))]) C dX4_firstTurnToward_47 (k := 3) rfl (nI_add _ 1) (by decide) rfl ?_
          refine r_goto (tgt := 2) C dX4_firstTurnToward_50 (by decide) ?_
          refine V.sub (lv2 := [(0, .ref va), (1, .int (nI r)), (2, .int (nI (dd r - 1))), (3, .int (nI (i + 1)))]) [1, 2, 3, 0] rfl ?_
          exact ih2 (i + 1) (by omega) (by first | exact ft_go hfs.2.2.1 hi2 (Or.inl (okR_f c22 (by omega))) | exact ft_go hfs.2.2.1 hi2 (Or.inr c42)) (by omega)
        · refine r_aload_n C dX4_firstTurnToward_25 rfl 0 rfl ?_
          refine r_get (Cn := RX4) (T := TX4) (N := 6) (v := .ref (va + 1)) C inlX4 hc0 rfl 2 (by decide) wF_X4_39 (fun _ h => h) rfl dX4_firstTurnToward_26 ?_
          refine r_aload_n C dX4_firstTurnToward_29 rfl 0 rfl ?_
          refine r_get (Cn := RX4) (T := TX4) (N := 6) (v := .ref la) C inlX4 hc0 rfl 1 (by decide) wF_X4_28 (fun _ h => h) rfl dX4_firstTurnToward_30 ?_
          refine r_iload_n C dX4_firstTurnToward_33 rfl 1 rfl ?_
          refine r_iload_n C dX4_firstTurnToward_34 rfl 3 rfl ?_
          refine r_callV (As := [.int (nI r), .int (nI i)]) C (c_X1_behind (la := la) (N := N) (cfl := cfl) (sb := (sid kd)) (f3 := f3) (r := r) (k := i) hc3 hc4 (by first | assumption | omega) (by first | assumption | omega) (by first | assumption | omega) (by first | assumption | omega) (by first | assumption | omega)) wM_X4_62 wI_X1_behind wN_X1 wC_X1_behind wV_X1_behind hd_X1_behind ⟨Nat.le_of_ble_eq_true rfl, Nat.le_of_ble_eq_true rfl⟩ rfl hc3 rfl rfl (Nat.le_of_ble_eq_true rfl) dX4_firstTurnToward_35 ⟨(Nat.le_of_ble_eq_true rfl), (Nat.le_of_ble_eq_true rfl)⟩ (fun rv n2 σ2 hp => ?_)
          obtain ⟨rfl, rfl, rfl⟩ := hp
          refine V.eq (σ2 := σ) (n2 := n) (st2 := [.int (nI (nx (sid kd) N r i)), .ref (va + 1)]) rfl rfl rfl rfl ?_
          refine r_callSN (As := [.ref (va + 1), .int (nI (nx (sid kd) N r i))]) C (c_X6_at_y (a := va + 1) (len := rR (sid kd) N) (f := f6) (i := nx (sid kd) N r i) hc5 (hxl) (by first | assumption | omega)) wZ_X4_50 wS_X6_at wN_X6 wC_X6_at hd_X6_at ⟨Nat.le_of_ble_eq_true rfl, Nat.le_of_ble_eq_true rfl⟩ rfl rfl (Nat.le_of_ble_eq_true rfl) dX4_firstTurnToward_38 ⟨(Nat.le_of_ble_eq_true rfl), (Nat.le_of_ble_eq_true rfl)⟩ (fun rv n2 σ2 hp => ?_)
          obtain ⟨rfl, rfl, rfl⟩ := hp
          refine V.eq (σ2 := σ) (n2 := n) (st2 := [.int (f6 (nx (sid kd) N r i))]) rfl rfl rfl rfl ?_
          refine V.top (y := cI (dd (nx (sid kd) N r i))) (h6 _ hxl) ?_
          refine r_iload_n C dX4_firstTurnToward_41 rfl 2 rfl ?_
          refine r_icmp_ne (tgt := 47) C dX4_firstTurnToward_42 (by decide) (fun c42 => ?_) (fun c42 => ?_)
          · have c42 : dd (nx (sid kd) N r i) ≠ dd r - 1 := fun z => c42 (by rw [z]; exact cI_n (by omega))
            refine r_iinc (v := nI (i + 1)) (lv2 := [(3, .int (nI (i + 1))), (0, .ref va), (1, .int (nI r)), (2, .int (nI (dd r - 1)))]) C dX4_firstTurnToward_47 (k := 3) rfl (nI_add _ 1) (by decide) rfl ?_
            refine r_goto (tgt := 2) C dX4_firstTurnToward_50 (by decide) ?_
            refine V.sub (lv2 := [(0, .ref va), (1, .int (nI r)), (2, .int (nI (dd r - 1))), (3, .int (nI (i + 1)))]) [1, 2, 3, 0] rfl ?_
            exact ih2 (i + 1) (by omega) (by first | exact ft_go hfs.2.2.1 hi2 (Or.inl (okR_f c22 (by omega))) | exact ft_go hfs.2.2.1 hi2 (Or.inr c42)) (by omega)
          · have h42 : dd (nx (sid kd) N r i) = dd r - 1 := cI_eq (hD _ hxl).1 (by omega) c42
            refine r_iload_n C dX4_firstTurnToward_45 rfl 3 rfl ?_
            exact r_iret C hr hlocks (Nat.le_of_ble_eq_true rfl) (Nat.le_of_ble_eq_true rfl) dX4_firstTurnToward_46 (hpo _ _ _ ⟨by rw [show i = fst9 kd sr N dd r from ft_at hfs.2.2.2 hi hi2 (okR_al c22) h42], rfl, rfl⟩)
  refine V.sub (lv2 := [(0, .ref va), (1, .int (nI r)), (2, .int (nI (dd r - 1))), (3, .int (nI 1))]) [1, 2, 3, 0] rfl ?_
  exact L2 _ 1 (by omega) (by omega) (Nat.lt_succ_self _)
