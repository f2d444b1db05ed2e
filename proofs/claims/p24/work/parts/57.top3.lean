theorem cI_fin {d : Nat} (hb : d ≤ 1000000) (h : ¬ cI d = -1) : d < 1000000 := by
  rcases Nat.lt_or_eq_of_le hb with g | g
  · exact g
  · exact absurd (by rw [g]; rfl) h

abbrev rm_X6_fewest_f : Room := { frames := 14, cells := 3, slots := 7686, locals := 1400 }
set_option maxRecDepth 100000 in
set_option maxHeartbeats 4000000 in
theorem c_X6_fewest_f {l : Launch} {G : gG} {n : Nat} {σ : gS} {b0 st : Nat} {K : KT} {k sa la : Nat} {kd N sr r : Nat} {B : Nat} {tau : Nat → Option Rl} {w : Nat} (hc0 : σ b0 = some (.inr (6, [.ref (b0 + 1), .ref (b0 + 5), .ref (b0 + 7), .ref (b0 + 13), .ref (b0 + 19), .int (nI st)]))) (hc1 : σ (b0 + 7) = some (.inr (0, [.int (nI (kN K)), .int (nI (kH K)), .ref (b0 + 8), .ref (b0 + 9), .ref (b0 + 10), .ref (b0 + 11), .ref (b0 + 12)]))) (hc2 : σ (b0 + 10) = some (aR 4 G 5 (kS K))) (hc3 : σ (b0 + 11) = some (aI G 5 (kR K))) (hD : DynI G B n σ tau) (hBn : B ≤ n) (hB : b0 + 44 ≤ B) (hsa : tau sa = some (rShp kd N sr la)) (hso : shOK kd N sr) (hk : k < kN K) (hk5 : kN K ≤ 5) (hs : kS K k = some sa) (hr9 : kR K k = nI r) (hrk : r < rR (sid kd) N) (hw : w ≤ 1) (hbad : 9 < dst false kd sr N r) : GM l G yX6_fewest cX6_fewest 7 (some .int) rm_X6_fewest_f n σ [.ref b0, .int (nI k), .int (nI w)] (fun rv n2 σ2 => ∃ (tau2 : Nat → Option Rl), some (.int (-1000004)) = rv ∧ n ≤ n2 ∧ n2 ≤ n + 3 ∧ (∀ q, q < B → σ2 q = σ q) ∧ (DynI G B n2 σ2 tau2) ∧ (∀ q r1, tau q = some r1 → tau2 q = some r1)) := by
  refine GM.intro (by decide +kernel) (Nat.le_of_ble_eq_true rfl) (fun p e s m args below meth c C hr hlocks hname po hpo => ?_)
  have C : Cx p s m args c cX6_fewest 7 RX6 G := C
  have hdd := dst_ok false hso
  have hdb := (hdd r hrk).1
  refine r_aload_n C dX6_fewest_0 rfl 0 rfl ?_
  refine r_get (Cn := RX6) (T := TX6) (N := 6) (v := .ref (b0 + 7)) C inlX6 hc0 rfl 2 (by decide) wF_X6_26 (fun _ h => h) rfl dX6_fewest_1 ?_
  refine r_iload_n C dX6_fewest_4 rfl 1 rfl ?_
  refine r_callV (As := [.int (nI k)]) C (c_X0_shapeOf_y (k0 := b0 + 7) (K := K) (k := k) (sa := sa) hc1 hc2 (by first | assumption | omega) (by first | assumption | omega) (by first | assumption | omega)) wM_X6_58 wI_X0_shapeOf wN_X0 wC_X0_shapeOf wV_X0_shapeOf hd_X0_shapeOf ⟨Nat.le_of_ble_eq_true rfl, Nat.le_of_ble_eq_true rfl⟩ rfl hc1 rfl rfl (Nat.le_of_ble_eq_true rfl) dX6_fewest_5 ⟨(Nat.le_of_ble_eq_true rfl), (Nat.le_of_ble_eq_true rfl)⟩ (fun rv n2 σ2 hp => ?_)
  obtain ⟨rfl, rfl, rfl⟩ := hp
  refine V.eq (σ2 := σ) (n2 := n) (st2 := [.ref sa]) rfl rfl rfl rfl ?_
  obtain ⟨sv9, ⟨-, hx9, -⟩, -⟩ := hD.2.2.2.1 _ _ _ _ _ hsa
  refine r_astore_n (lv2 := [(3, .ref sa), (0, .ref b0), (1, .int (nI k)), (2, .int (nI w))]) C dX6_fewest_8 rfl (by decide) rfl ?_
  refine r_aload_n C dX6_fewest_9 rfl 0 rfl ?_
  refine r_ifnull C dX6_fewest_10 ?_
  refine r_iload_n C dX6_fewest_13 rfl 3 rfl ?_
  refine r_if_ltN C dX6_fewest_14 (tgt := 22) (by decide) (by omega) ?_
  refine r_iload_n C dX6_fewest_17 rfl 3 rfl ?_
  refine r_iconst (v := nI 1) C dX6_fewest_18 (by decide) ?_
  refine r_icmp_leN (tgt := 25) C dX6_fewest_19 (by decide) (by omega) (by decide) (fun c19 => ?_) (fun c19 => ?_)
  · refine r_aload_n C dX6_fewest_25 rfl 0 rfl ?_
    refine r_callV (As := []) C (c_X2_solver_d (sa := sa) (la := la) (kd := kd) (N := N) (sr := sr) (B := B) (tau := tau)  (by first | assumption | omega) (by first | assumption | omega) (by first | assumption | omega)) wM_X6_123 wI_X2_solver wN_X2 wC_X2_solver wV_X2_solver hd_X2_solver ⟨Nat.le_of_ble_eq_true rfl, Nat.le_of_ble_eq_true rfl⟩ rfl hx9 rfl rfl (Nat.le_of_ble_eq_true rfl) dX6_fewest_26 ⟨(Nat.le_of_ble_eq_true rfl), (Nat.le_of_ble_eq_true rfl)⟩ (fun rv nn_1 τ_2 hp => ?_)
    obtain ⟨va, tau1, rfl, hn1, hn2, hf1, hD1, hm1, hv1⟩ := hp
    obtain ⟨⟨tk1, wk1, -, -, hy1, -⟩, -⟩ := hD1.2.2.2.2 _ _ _ _ _ _ hv1
    refine r_astore (lv2 := [(4, .ref va), (3, .ref sa), (0, .ref b0), (1, .int (nI k)), (2, .int (nI w))]) C dX6_fewest_29 (by decide) rfl ?_
    refine r_aload_n C dX6_fewest_31 rfl 2 rfl ?_
    refine r_get (Cn := RX6) (T := TX6) (N := 6) (v := .ref (b0 + 7)) C inlX6 ((hf1 _ (by omega)).trans hc0) rfl 2 (by decide) wF_X6_26 (fun _ h => h) rfl dX6_fewest_32 ?_
    refine r_iload_n C dX6_fewest_35 rfl 3 rfl ?_
    refine r_callV (As := [.int (nI k)]) C (c_X0_rankOf (k0 := b0 + 7) (K := K) (k := k) ((hf1 _ (by omega)).trans hc1) ((hf1 _ (by omega)).trans hc3) (by omega)) wM_X6_90 wI_X0_rankOf wN_X0 wC_X0_rankOf wV_X0_rankOf hd_X0_rankOf ⟨Nat.le_of_ble_eq_true rfl, Nat.le_of_ble_eq_true rfl⟩ rfl ((hf1 _ (by omega)).trans hc1) rfl rfl (Nat.le_of_ble_eq_true rfl) dX6_fewest_36 ⟨(Nat.le_of_ble_eq_true rfl), (Nat.le_of_ble_eq_true rfl)⟩ (fun rv n2 σ2 hp => ?_)
    obtain ⟨rfl, rfl, rfl⟩ := hp
    refine V.eq (σ2 := τ_2) (n2 := nn_1) (st2 := [.int (kR K k)]) rfl rfl rfl rfl ?_
    refine V.top (y := nI r) (hr9) ?_
    refine r_istore (lv2 := [(5, .int (nI r)), (4, .ref va), (3, .ref sa), (0, .ref b0), (1, .int (nI k)), (2, .int (nI w))]) C dX6_fewest_39 (by decide) rfl ?_
    refine r_aload C dX6_fewest_41 1 rfl ?_
    refine r_iload C dX6_fewest_43 0 rfl ?_
    refine r_callV (As := [.int (nI r)]) C (c_X4_turnsFrom_d (va := va) (sa := sa) (la := la) (kd := kd) (N := N) (sr := sr) (B := B) (tau := tau1) (r := r)  (hD1) (by omega) (hv1) (by first | assumption | omega)) wM_X6_127 wI_X4_turnsFrom wN_X4 wC_X4_turnsFrom wV_X4_turnsFrom hd_X4_turnsFrom ⟨Nat.le_of_ble_eq_true rfl, Nat.le_of_ble_eq_true rfl⟩ rfl hy1 rfl rfl (Nat.le_of_ble_eq_true rfl) dX6_fewest_45 ⟨(Nat.le_of_ble_eq_true rfl), (Nat.le_of_ble_eq_true rfl)⟩ (fun rv nn_3 τ_4 hp => ?_)
    obtain ⟨rfl, hn2_, hn2u, hf2, hD2⟩ := hp
    obtain ⟨⟨tk2, wk2, -, -, hy2, -⟩, -⟩ := hD2.2.2.2.2 _ _ _ _ _ _ hv1
    refine r_istore (lv2 := [(6, .int (cI (dst false kd sr N r))), (5, .int (nI r)), (4, .ref va), (3, .ref sa), (0, .ref b0), (1, .int (nI k)), (2, .int (nI w))]) C dX6_fewest_48 (by decide) rfl ?_
    refine r_iload C dX6_fewest_50 0 rfl ?_
    refine r_iconst (v := (-1)) C dX6_fewest_52 (by decide) ?_
    refine r_icmp_eq (tgt := 63) C dX6_fewest_53 (by decide) (fun c53 => ?_) (fun c53 => ?_)
    · refine r_ldc C wQ_X6_132 dX6_fewest_63 ?_
      exact r_iret C hr hlocks (Nat.le_of_ble_eq_true rfl) (Nat.le_of_ble_eq_true rfl) dX6_fewest_65 (hpo _ _ _ ⟨tau1, rfl, by omega, by omega, fun q hq => (hf2 q hq).trans (hf1 q hq), hD2, hm1⟩)
    · have h53 : dst false kd sr N r ≠ 1000000 := fun z => c53 (by rw [z]; rfl)
      refine V.eq (lv2 := [(6, .int (nI (dst false kd sr N r))), (5, .int (nI r)), (4, .ref va), (3, .ref sa), (0, .ref b0), (1, .int (nI k)), (2, .int (nI w))]) rfl rfl (by rw [(show cI (dst false kd sr N r) = nI (dst false kd sr N r) from cI_n (by omega))]) rfl ?_
      refine r_iload C dX6_fewest_56 0 rfl ?_
      refine r_bipush (v := nI 9) C dX6_fewest_58 (by decide) ?_
      refine r_icmp_leN (tgt := 66) C dX6_fewest_60 (by decide) (by omega) (by decide) (fun c60 => ?_) (fun c60 => ?_)
      · exact absurd c60 (by omega)
      · refine r_ldc C wQ_X6_132 dX6_fewest_63 ?_
        exact r_iret C hr hlocks (Nat.le_of_ble_eq_true rfl) (Nat.le_of_ble_eq_true rfl) dX6_fewest_65 (hpo _ _ _ ⟨tau1, rfl, by omega, by omega, fun q hq => (hf2 q hq).trans (hf1 q hq), hD2, hm1⟩)
  · exact absurd c19 (by omega)

abbrev rm_X6_fewest_c : Room := { frames := 14, cells := 3, slots := 7686, locals := 1400 }
set_option maxRecDepth 100000 in
set_option maxHeartbeats 4000000 in
theorem c_X6_fewest_c {l : Launch} {G : gG} {n : Nat} {σ : gS} {b0 st : Nat} {K : KT} {k sa la : Nat} {kd N sr r : Nat} {B : Nat} {tau : Nat → Option Rl} (hc0 : σ b0 = some (.inr (6, [.ref (b0 + 1), .ref (b0 + 5), .ref (b0 + 7), .ref (b0 + 13), .ref (b0 + 19), .int (nI st)]))) (hc1 : σ (b0 + 7) = some (.inr (0, [.int (nI (kN K)), .int (nI (kH K)), .ref (b0 + 8), .ref (b0 + 9), .ref (b0 + 10), .ref (b0 + 11), .ref (b0 + 12)]))) (hc2 : σ (b0 + 10) = some (aR 4 G 5 (kS K))) (hc3 : σ (b0 + 11) = some (aI G 5 (kR K))) (hD : DynI G B n σ tau) (hBn : B ≤ n) (hB : b0 + 44 ≤ B) (hsa : tau sa = some (rShp kd N sr la)) (hso : shOK kd N sr) (hk : k < kN K) (hk5 : kN K ≤ 5) (hs : kS K k = some sa) (hr9 : kR K k = nI r) (hrk : r < rR (sid kd) N) (hgood : dst false kd sr N r ≤ 9) : GM l G yX6_fewest cX6_fewest 7 (some .int) rm_X6_fewest_c n σ [.ref b0, .int (nI k), .int (nI 0)] (fun rv n2 σ2 => ∃ (tau2 : Nat → Option Rl), some (.int (nI (dst false kd sr N r))) = rv ∧ n ≤ n2 ∧ n2 ≤ n + 3 ∧ (∀ q, q < B → σ2 q = σ q) ∧ (DynI G B n2 σ2 tau2) ∧ (∀ q r1, tau q = some r1 → tau2 q = some r1)) := by
  refine GM.intro (by decide +kernel) (Nat.le_of_ble_eq_true rfl) (fun p e s m args below meth c C hr hlocks hname po hpo => ?_)
  have C : Cx p s m args c cX6_fewest 7 RX6 G := C
  have hdd := dst_ok false hso
  have hdb := (hdd r hrk).1
  refine r_aload_n C dX6_fewest_0 rfl 0 rfl ?_
  refine r_get (Cn := RX6) (T := TX6) (N := 6) (v := .ref (b0 + 7)) C inlX6 hc0 rfl 2 (by decide) wF_X6_26 (fun _ h => h) rfl dX6_fewest_1 ?_
  refine r_iload_n C dX6_fewest_4 rfl 1 rfl ?_
  refine r_callV (As := [.int (nI k)]) C (c_X0_shapeOf_y (k0 := b0 + 7) (K := K) (k := k) (sa := sa) hc1 hc2 (by first | assumption | omega) (by first | assumption | omega) (by first | assumption | omega)) wM_X6_58 wI_X0_shapeOf wN_X0 wC_X0_shapeOf wV_X0_shapeOf hd_X0_shapeOf ⟨Nat.le_of_ble_eq_true rfl, Nat.le_of_ble_eq_true rfl⟩ rfl hc1 rfl rfl (Nat.le_of_ble_eq_true rfl) dX6_fewest_5 ⟨(Nat.le_of_ble_eq_true rfl), (Nat.le_of_ble_eq_true rfl)⟩ (fun rv n2 σ2 hp => ?_)
  obtain ⟨rfl, rfl, rfl⟩ := hp
  refine V.eq (σ2 := σ) (n2 := n) (st2 := [.ref sa]) rfl rfl rfl rfl ?_
  obtain ⟨sv9, ⟨-, hx9, -⟩, -⟩ := hD.2.2.2.1 _ _ _ _ _ hsa
  refine r_astore_n (lv2 := [(3, .ref sa), (0, .ref b0), (1, .int (nI k)), (2, .int (nI 0))]) C dX6_fewest_8 rfl (by decide) rfl ?_
  refine r_aload_n C dX6_fewest_9 rfl 0 rfl ?_
  refine r_ifnull C dX6_fewest_10 ?_
  refine r_iload_n C dX6_fewest_13 rfl 3 rfl ?_
  refine r_if_ltN C dX6_fewest_14 (tgt := 22) (by decide) (by decide) ?_
  refine r_iload_n C dX6_fewest_17 rfl 3 rfl ?_
  refine r_iconst (v := nI 1) C dX6_fewest_18 (by decide) ?_
  refine r_icmp_leN (tgt := 25) C dX6_fewest_19 (by decide) (by decide) (by decide) (fun _ => ?_) (fun z => absurd z (by decide))
  refine r_aload_n C dX6_fewest_25 rfl 0 rfl ?_
  refine r_callV (As := []) C (c_X2_solver_d (sa := sa) (la := la) (kd := kd) (N := N) (sr := sr) (B := B) (tau := tau)  (by first | assumption | omega) (by first | assumption | omega) (by first | assumption | omega)) wM_X6_123 wI_X2_solver wN_X2 wC_X2_solver wV_X2_solver hd_X2_solver ⟨Nat.le_of_ble_eq_true rfl, Nat.le_of_ble_eq_true rfl⟩ rfl hx9 rfl rfl (Nat.le_of_ble_eq_true rfl) dX6_fewest_26 ⟨(Nat.le_of_ble_eq_true rfl), (Nat.le_of_ble_eq_true rfl)⟩ (fun rv nn_1 τ_2 hp => ?_)
  obtain ⟨va, tau1, rfl, hn1, hn2, hf1, hD1, hm1, hv1⟩ := hp
  obtain ⟨⟨tk1, wk1, -, -, hy1, -⟩, -⟩ := hD1.2.2.2.2 _ _ _ _ _ _ hv1
  refine r_astore (lv2 := [(4, .ref va), (3, .ref sa), (0, .ref b0), (1, .int (nI k)), (2, .int (nI 0))]) C dX6_fewest_29 (by decide) rfl ?_
  refine r_aload_n C dX6_fewest_31 rfl 2 rfl ?_
  refine r_get (Cn := RX6) (T := TX6) (N := 6) (v := .ref (b0 + 7)) C inlX6 ((hf1 _ (by omega)).trans hc0) rfl 2 (by decide) wF_X6_26 (fun _ h => h) rfl dX6_fewest_32 ?_
  refine r_iload_n C dX6_fewest_35 rfl 3 rfl ?_
  refine r_callV (As := [.int (nI k)]) C (c_X0_rankOf (k0 := b0 + 7) (K := K) (k := k) ((hf1 _ (by omega)).trans hc1) ((hf1 _ (by omega)).trans hc3) (by omega)) wM_X6_90 wI_X0_rankOf wN_X0 wC_X0_rankOf wV_X0_rankOf hd_X0_rankOf ⟨Nat.le_of_ble_eq_true rfl, Nat.le_of_ble_eq_true rfl⟩ rfl ((hf1 _ (by omega)).trans hc1) rfl rfl (Nat.le_of_ble_eq_true rfl) dX6_fewest_36 ⟨(Nat.le_of_ble_eq_true rfl), (Nat.le_of_ble_eq_true rfl)⟩ (fun rv n2 σ2 hp => ?_)
  obtain ⟨rfl, rfl, rfl⟩ := hp
  refine V.eq (σ2 := τ_2) (n2 := nn_1) (st2 := [.int (kR K k)]) rfl rfl rfl rfl ?_
  refine V.top (y := nI r) (hr9) ?_
  refine r_istore (lv2 := [(5, .int (nI r)), (4, .ref va), (3, .ref sa), (0, .ref b0), (1, .int (nI k)), (2, .int (nI 0))]) C dX6_fewest_39 (by decide) rfl ?_
  refine r_aload C dX6_fewest_41 1 rfl ?_
  refine r_iload C dX6_fewest_43 0 rfl ?_
  refine r_callV (As := [.int (nI r)]) C (c_X4_turnsFrom_d (va := va) (sa := sa) (la := la) (kd := kd) (N := N) (sr := sr) (B := B) (tau := tau1) (r := r)  (hD1) (by omega) (hv1) (by first | assumption | omega)) wM_X6_127 wI_X4_turnsFrom wN_X4 wC_X4_turnsFrom wV_X4_turnsFrom hd_X4_turnsFrom ⟨Nat.le_of_ble_eq_true rfl, Nat.le_of_ble_eq_true rfl⟩ rfl hy1 rfl rfl (Nat.le_of_ble_eq_true rfl) dX6_fewest_45 ⟨(Nat.le_of_ble_eq_true rfl), (Nat.le_of_ble_eq_true rfl)⟩ (fun rv nn_3 τ_4 hp => ?_)
  obtain ⟨rfl, hn2_, hn2u, hf2, hD2⟩ := hp
  obtain ⟨⟨tk2, wk2, -, -, hy2, -⟩, -⟩ := hD2.2.2.2.2 _ _ _ _ _ _ hv1
  refine V.top (y := nI (dst false kd sr N r)) (cI_n (by omega)) ?_
  refine r_istore (lv2 := [(6, .int (nI (dst false kd sr N r))), (5, .int (nI r)), (4, .ref va), (3, .ref sa), (0, .ref b0), (1, .int (nI k)), (2, .int (nI 0))]) C dX6_fewest_48 (by decide) rfl ?_
  refine r_iload C dX6_fewest_50 0 rfl ?_
  refine r_iconst (v := (-1)) C dX6_fewest_52 (by decide) ?_
  refine r_icmp_eq (tgt := 63) C dX6_fewest_53 (by decide) (fun c53 => ?_) (fun c53 => ?_)
  · exact absurd c53 (nI_m1n (by omega))
  · refine r_iload C dX6_fewest_56 0 rfl ?_
    refine r_bipush (v := nI 9) C dX6_fewest_58 (by decide) ?_
    refine r_icmp_leN (tgt := 66) C dX6_fewest_60 (by decide) (by omega) (by decide) (fun c60 => ?_) (fun c60 => ?_)
    · refine r_iload_n C dX6_fewest_66 rfl 6 rfl ?_
      refine r_if_neN (tgt := 75) C dX6_fewest_67 (by decide) (by decide) (fun z => absurd z (by decide)) (fun _ => ?_)
      refine r_iload C dX6_fewest_70 0 rfl ?_
      refine r_goto (tgt := 82) C dX6_fewest_72 (by decide) ?_
      exact r_iret C hr hlocks (Nat.le_of_ble_eq_true rfl) (Nat.le_of_ble_eq_true rfl) dX6_fewest_82 (hpo _ _ _ ⟨tau1, rfl, by omega, by omega, fun q hq => (hf2 q hq).trans (hf1 q hq), hD2, hm1⟩)
    · exact absurd c60 (by omega)

abbrev rm_X6_fewest_w : Room := { frames := 14, cells := 3, slots := 7686, locals := 1400 }
set_option maxRecDepth 100000 in
set_option maxHeartbeats 4000000 in
theorem c_X6_fewest_w {l : Launch} {G : gG} {n : Nat} {σ : gS} {b0 st : Nat} {K : KT} {k sa la : Nat} {kd N sr r : Nat} {B : Nat} {tau : Nat → Option Rl} (hc0 : σ b0 = some (.inr (6, [.ref (b0 + 1), .ref (b0 + 5), .ref (b0 + 7), .ref (b0 + 13), .ref (b0 + 19), .int (nI st)]))) (hc1 : σ (b0 + 7) = some (.inr (0, [.int (nI (kN K)), .int (nI (kH K)), .ref (b0 + 8), .ref (b0 + 9), .ref (b0 + 10), .ref (b0 + 11), .ref (b0 + 12)]))) (hc2 : σ (b0 + 10) = some (aR 4 G 5 (kS K))) (hc3 : σ (b0 + 11) = some (aI G 5 (kR K))) (hD : DynI G B n σ tau) (hBn : B ≤ n) (hB : b0 + 44 ≤ B) (hsa : tau sa = some (rShp kd N sr la)) (hso : shOK kd N sr) (hk : k < kN K) (hk5 : kN K ≤ 5) (hs : kS K k = some sa) (hr9 : kR K k = nI r) (hrk : r < rR (sid kd) N) (hgood : dst false kd sr N r ≤ 9) : GM l G yX6_fewest cX6_fewest 7 (some .int) rm_X6_fewest_w n σ [.ref b0, .int (nI k), .int (nI 1)] (fun rv n2 σ2 => ∃ (tau2 : Nat → Option Rl), some (.int (nI (fwR kd sr N (dst false kd sr N) (dst false kd sr N r) r 0))) = rv ∧ n ≤ n2 ∧ n2 ≤ n + 3 ∧ (∀ q, q < B → σ2 q = σ q) ∧ (DynI G B n2 σ2 tau2) ∧ (∀ q r1, tau q = some r1 → tau2 q = some r1)) := by
  refine GM.intro (by decide +kernel) (Nat.le_of_ble_eq_true rfl) (fun p e s m args below meth c C hr hlocks hname po hpo => ?_)
  have C : Cx p s m args c cX6_fewest 7 RX6 G := C
  have hdd := dst_ok false hso
  have hdb := (hdd r hrk).1
  refine r_aload_n C dX6_fewest_0 rfl 0 rfl ?_
  refine r_get (Cn := RX6) (T := TX6) (N := 6) (v := .ref (b0 + 7)) C inlX6 hc0 rfl 2 (by decide) wF_X6_26 (fun _ h => h) rfl dX6_fewest_1 ?_
  refine r_iload_n C dX6_fewest_4 rfl 1 rfl ?_
  refine r_callV (As := [.int (nI k)]) C (c_X0_shapeOf_y (k0 := b0 + 7) (K := K) (k := k) (sa := sa) hc1 hc2 (by first | assumption | omega) (by first | assumption | omega) (by first | assumption | omega)) wM_X6_58 wI_X0_shapeOf wN_X0 wC_X0_shapeOf wV_X0_shapeOf hd_X0_shapeOf ⟨Nat.le_of_ble_eq_true rfl, Nat.le_of_ble_eq_true rfl⟩ rfl hc1 rfl rfl (Nat.le_of_ble_eq_true rfl) dX6_fewest_5 ⟨(Nat.le_of_ble_eq_true rfl), (Nat.le_of_ble_eq_true rfl)⟩ (fun rv n2 σ2 hp => ?_)
  obtain ⟨rfl, rfl, rfl⟩ := hp
  refine V.eq (σ2 := σ) (n2 := n) (st2 := [.ref sa]) rfl rfl rfl rfl ?_
  obtain ⟨sv9, ⟨-, hx9, -⟩, -⟩ := hD.2.2.2.1 _ _ _ _ _ hsa
  refine r_astore_n (lv2 := [(3, .ref sa), (0, .ref b0), (1, .int (nI k)), (2, .int (nI 1))]) C dX6_fewest_8 rfl (by decide) rfl ?_
  refine r_aload_n C dX6_fewest_9 rfl 0 rfl ?_
  refine r_ifnull C dX6_fewest_10 ?_
  refine r_iload_n C dX6_fewest_13 rfl 3 rfl ?_
  refine r_if_ltN C dX6_fewest_14 (tgt := 22) (by decide) (by decide) ?_
  refine r_iload_n C dX6_fewest_17 rfl 3 rfl ?_
  refine r_iconst (v := nI 1) C dX6_fewest_18 (by decide) ?_
  refine r_icmp_leN (tgt := 25) C dX6_fewest_19 (by decide) (by decide) (by decide) (fun _ => ?_) (fun z => absurd z (by decide))
  refine r_aload_n C dX6_fewest_25 rfl 0 rfl ?_
  refine r_callV (As := []) C (c_X2_solver_d (sa := sa) (la := la) (kd := kd) (N := N) (sr := sr) (B := B) (tau := tau)  (by first | assumption | omega) (by first | assumption | omega) (by first | assumption | omega)) wM_X6_123 wI_X2_solver wN_X2 wC_X2_solver wV_X2_solver hd_X2_solver ⟨Nat.le_of_ble_eq_true rfl, Nat.le_of_ble_eq_true rfl⟩ rfl hx9 rfl rfl (Nat.le_of_ble_eq_true rfl) dX6_fewest_26 ⟨(Nat.le_of_ble_eq_true rfl), (Nat.le_of_ble_eq_true rfl)⟩ (fun rv nn_1 τ_2 hp => ?_)
  obtain ⟨va, tau1, rfl, hn1, hn2, hf1, hD1, hm1, hv1⟩ := hp
  obtain ⟨⟨tk1, wk1, -, -, hy1, -⟩, -⟩ := hD1.2.2.2.2 _ _ _ _ _ _ hv1
  refine r_astore (lv2 := [(4, .ref va), (3, .ref sa), (0, .ref b0), (1, .int (nI k)), (2, .int (nI 1))]) C dX6_fewest_29 (by decide) rfl ?_
  refine r_aload_n C dX6_fewest_31 rfl 2 rfl ?_
  refine r_get (Cn := RX6) (T := TX6) (N := 6) (v := .ref (b0 + 7)) C inlX6 ((hf1 _ (by omega)).trans hc0) rfl 2 (by decide) wF_X6_26 (fun _ h => h) rfl dX6_fewest_32 ?_
  refine r_iload_n C dX6_fewest_35 rfl 3 rfl ?_
  refine r_callV (As := [.int (nI k)]) C (c_X0_rankOf (k0 := b0 + 7) (K := K) (k := k) ((hf1 _ (by omega)).trans hc1) ((hf1 _ (by omega)).trans hc3) (by omega)) wM_X6_90 wI_X0_rankOf wN_X0 wC_X0_rankOf wV_X0_rankOf hd_X0_rankOf ⟨Nat.le_of_ble_eq_true rfl, Nat.le_of_ble_eq_true rfl⟩ rfl ((hf1 _ (by omega)).trans hc1) rfl rfl (Nat.le_of_ble_eq_true rfl) dX6_fewest_36 ⟨(Nat.le_of_ble_eq_true rfl), (Nat.le_of_ble_eq_true rfl)⟩ (fun rv n2 σ2 hp => ?_)
  obtain ⟨rfl, rfl, rfl⟩ := hp
  refine V.eq (σ2 := τ_2) (n2 := nn_1) (st2 := [.int (kR K k)]) rfl rfl rfl rfl ?_
  refine V.top (y := nI r) (hr9) ?_
  refine r_istore (lv2 := [(5, .int (nI r)), (4, .ref va), (3, .ref sa), (0, .ref b0), (1, .int (nI k)), (2, .int (nI 1))]) C dX6_fewest_39 (by decide) rfl ?_
  refine r_aload C dX6_fewest_41 1 rfl ?_
  refine r_iload C dX6_fewest_43 0 rfl ?_
  refine r_callV (As := [.int (nI r)]) C (c_X4_turnsFrom_d (va := va) (sa := sa) (la := la) (kd := kd) (N := N) (sr := sr) (B := B) (tau := tau1) (r := r)  (hD1) (by omega) (hv1) (by first | assumption | omega)) wM_X6_127 wI_X4_turnsFrom wN_X4 wC_X4_turnsFrom wV_X4_turnsFrom hd_X4_turnsFrom ⟨Nat.le_of_ble_eq_true rfl, Nat.le_of_ble_eq_true rfl⟩ rfl hy1 rfl rfl (Nat.le_of_ble_eq_true rfl) dX6_fewest_45 ⟨(Nat.le_of_ble_eq_true rfl), (Nat.le_of_ble_eq_true rfl)⟩ (fun rv nn_3 τ_4 hp => ?_)
  obtain ⟨rfl, hn2_, hn2u, hf2, hD2⟩ := hp
  obtain ⟨⟨tk2, wk2, -, -, hy2, -⟩, -⟩ := hD2.2.2.2.2 _ _ _ _ _ _ hv1
  refine V.top (y := nI (dst false kd sr N r)) (cI_n (by omega)) ?_
  refine r_istore (lv2 := [(6, .int (nI (dst false kd sr N r))), (5, .int (nI r)), (4, .ref va), (3, .ref sa), (0, .ref b0), (1, .int (nI k)), (2, .int (nI 1))]) C dX6_fewest_48 (by decide) rfl ?_
  refine r_iload C dX6_fewest_50 0 rfl ?_
  refine r_iconst (v := (-1)) C dX6_fewest_52 (by decide) ?_
  refine r_icmp_eq (tgt := 63) C dX6_fewest_53 (by decide) (fun c53 => ?_) (fun c53 => ?_)
  · exact absurd c53 (nI_m1n (by omega))
  · refine r_iload C dX6_fewest_56 0 rfl ?_
    refine r_bipush (v := nI 9) C dX6_fewest_58 (by decide) ?_
    refine r_icmp_leN (tgt := 66) C dX6_fewest_60 (by decide) (by omega) (by decide) (fun c60 => ?_) (fun c60 => ?_)
    · refine r_iload_n C dX6_fewest_66 rfl 6 rfl ?_
      refine r_if_neN (tgt := 75) C dX6_fewest_67 (by decide) (by decide) (fun _ => ?_) (fun z => absurd z (by decide))
      refine r_aload C dX6_fewest_75 2 rfl ?_
      refine r_iload C dX6_fewest_77 1 rfl ?_
      refine r_callV (As := [.int (nI r)]) C (c_X4_firstRow_d (va := va) (sa := sa) (la := la) (kd := kd) (N := N) (sr := sr) (B := B) (tau := tau1) (r := r)  (hD2) (by omega) (hv1) (by first | assumption | omega) (hgood)) wM_X6_133 wI_X4_firstRow wN_X4 wC_X4_firstRow wV_X4_firstRow hd_X4_firstRow ⟨Nat.le_of_ble_eq_true rfl, Nat.le_of_ble_eq_true rfl⟩ rfl hy2 rfl rfl (Nat.le_of_ble_eq_true rfl) dX6_fewest_79 ⟨(Nat.le_of_ble_eq_true rfl), (Nat.le_of_ble_eq_true rfl)⟩ (fun rv nn_5 τ_6 hp => ?_)
      obtain ⟨rfl, hn3_, hn3u, hf3, hD3⟩ := hp
      obtain ⟨⟨tk3, wk3, -, -, hy3, -⟩, -⟩ := hD3.2.2.2.2 _ _ _ _ _ _ hv1
      exact r_iret C hr hlocks (Nat.le_of_ble_eq_true rfl) (Nat.le_of_ble_eq_true rfl) dX6_fewest_82 (hpo _ _ _ ⟨tau1, rfl, by omega, by omega, fun q hq => (hf3 q hq).trans ((hf2 q hq).trans (hf1 q hq)), hD3, hm1⟩)
    · exact absurd c60 (by omega)

abbrev rm_X6_leastWork_y : Room := { frames := 14, cells := 3, slots := 7686, locals := 1400 }
set_option maxRecDepth 100000 in
set_option maxHeartbeats 4000000 in
theorem c_X6_leastWork_y {l : Launch} {G : gG} {n : Nat} {σ : gS} {b0 st : Nat} {K : KT} {k sa la : Nat} {kd N sr r : Nat} {B : Nat} {tau : Nat → Option Rl} (hc0 : σ b0 = some (.inr (6, [.ref (b0 + 1), .ref (b0 + 5), .ref (b0 + 7), .ref (b0 + 13), .ref (b0 + 19), .int (nI st)]))) (hc1 : σ (b0 + 7) = some (.inr (0, [.int (nI (kN K)), .int (nI (kH K)), .ref (b0 + 8), .ref (b0 + 9), .ref (b0 + 10), .ref (b0 + 11), .ref (b0 + 12)]))) (hc2 : σ (b0 + 10) = some (aR 4 G 5 (kS K))) (hc3 : σ (b0 + 11) = some (aI G 5 (kR K))) (hD : DynI G B n σ tau) (hBn : B ≤ n) (hB : b0 + 44 ≤ B) (hsa : tau sa = some (rShp kd N sr la)) (hso : shOK kd N sr) (hk : k < kN K) (hk5 : kN K ≤ 5) (hs : kS K k = some sa) (hr9 : kR K k = nI r) (hrk : r < rR (sid kd) N) : GM l G yX6_leastWork cX6_leastWork 4 (some .int) rm_X6_leastWork_y n σ [.ref b0, .int (nI k)] (fun rv n2 σ2 => ∃ (tau2 : Nat → Option Rl), some (.int (lwA (dst true kd sr N r))) = rv ∧ n ≤ n2 ∧ n2 ≤ n + 3 ∧ (∀ q, q < B → σ2 q = σ q) ∧ (DynI G B n2 σ2 tau2) ∧ (∀ q r1, tau q = some r1 → tau2 q = some r1)) := by
  refine GM.intro (by decide +kernel) (Nat.le_of_ble_eq_true rfl) (fun p e s m args below meth c C hr hlocks hname po hpo => ?_)
  have C : Cx p s m args c cX6_leastWork 4 RX6 G := C
  have hdd := dst_ok true hso
  have hdb := (hdd r hrk).1
  refine r_aload_n C dX6_leastWork_0 rfl 0 rfl ?_
  refine r_get (Cn := RX6) (T := TX6) (N := 6) (v := .ref (b0 + 7)) C inlX6 hc0 rfl 2 (by decide) wF_X6_26 (fun _ h => h) rfl dX6_leastWork_1 ?_
  refine r_iload_n C dX6_leastWork_4 rfl 1 rfl ?_
  refine r_callV (As := [.int (nI k)]) C (c_X0_shapeOf_y (k0 := b0 + 7) (K := K) (k := k) (sa := sa) hc1 hc2 (by first | assumption | omega) (by first | assumption | omega) (by first | assumption | omega)) wM_X6_58 wI_X0_shapeOf wN_X0 wC_X0_shapeOf wV_X0_shapeOf hd_X0_shapeOf ⟨Nat.le_of_ble_eq_true rfl, Nat.le_of_ble_eq_true rfl⟩ rfl hc1 rfl rfl (Nat.le_of_ble_eq_true rfl) dX6_leastWork_5 ⟨(Nat.le_of_ble_eq_true rfl), (Nat.le_of_ble_eq_true rfl)⟩ (fun rv n2 σ2 hp => ?_)
  obtain ⟨rfl, rfl, rfl⟩ := hp
  refine V.eq (σ2 := σ) (n2 := n) (st2 := [.ref sa]) rfl rfl rfl rfl ?_
  obtain ⟨sv9, ⟨-, hx9, -⟩, -⟩ := hD.2.2.2.1 _ _ _ _ _ hsa
  refine r_astore_n (lv2 := [(2, .ref sa), (0, .ref b0), (1, .int (nI k))]) C dX6_leastWork_8 rfl (by decide) rfl ?_
  refine r_aload_n C dX6_leastWork_9 rfl 0 rfl ?_
  refine r_ifnonnull (tgt := 16) C dX6_leastWork_10 (by decide) ?_
  refine r_aload_n C dX6_leastWork_16 rfl 0 rfl ?_
  refine r_callV (As := []) C (c_X2_solver_d (sa := sa) (la := la) (kd := kd) (N := N) (sr := sr) (B := B) (tau := tau)  (by first | assumption | omega) (by first | assumption | omega) (by first | assumption | omega)) wM_X6_123 wI_X2_solver wN_X2 wC_X2_solver wV_X2_solver hd_X2_solver ⟨Nat.le_of_ble_eq_true rfl, Nat.le_of_ble_eq_true rfl⟩ rfl hx9 rfl rfl (Nat.le_of_ble_eq_true rfl) dX6_leastWork_17 ⟨(Nat.le_of_ble_eq_true rfl), (Nat.le_of_ble_eq_true rfl)⟩ (fun rv nn_1 τ_2 hp => ?_)
  obtain ⟨va, tau1, rfl, hn1, hn2, hf1, hD1, hm1, hv1⟩ := hp
  obtain ⟨⟨tk1, wk1, -, -, hy1, -⟩, -⟩ := hD1.2.2.2.2 _ _ _ _ _ _ hv1
  refine r_aload_n C dX6_leastWork_20 rfl 1 rfl ?_
  refine r_get (Cn := RX6) (T := TX6) (N := 6) (v := .ref (b0 + 7)) C inlX6 ((hf1 _ (by omega)).trans hc0) rfl 2 (by decide) wF_X6_26 (fun _ h => h) rfl dX6_leastWork_21 ?_
  refine r_iload_n C dX6_leastWork_24 rfl 2 rfl ?_
  refine r_callV (As := [.int (nI k)]) C (c_X0_rankOf (k0 := b0 + 7) (K := K) (k := k) ((hf1 _ (by omega)).trans hc1) ((hf1 _ (by omega)).trans hc3) (by omega)) wM_X6_90 wI_X0_rankOf wN_X0 wC_X0_rankOf wV_X0_rankOf hd_X0_rankOf ⟨Nat.le_of_ble_eq_true rfl, Nat.le_of_ble_eq_true rfl⟩ rfl ((hf1 _ (by omega)).trans hc1) rfl rfl (Nat.le_of_ble_eq_true rfl) dX6_leastWork_25 ⟨(Nat.le_of_ble_eq_true rfl), (Nat.le_of_ble_eq_true rfl)⟩ (fun rv n2 σ2 hp => ?_)
  obtain ⟨rfl, rfl, rfl⟩ := hp
  refine V.eq (σ2 := τ_2) (n2 := nn_1) (st2 := [.int (kR K k), .ref va]) rfl rfl rfl rfl ?_
  refine V.top (y := nI r) (hr9) ?_
  refine r_callV (As := [.int (nI r)]) C (c_X4_workFrom_d (va := va) (sa := sa) (la := la) (kd := kd) (N := N) (sr := sr) (B := B) (tau := tau1) (r := r)  (hD1) (by omega) (hv1) (by first | assumption | omega)) wM_X6_136 wI_X4_workFrom wN_X4 wC_X4_workFrom wV_X4_workFrom hd_X4_workFrom ⟨Nat.le_of_ble_eq_true rfl, Nat.le_of_ble_eq_true rfl⟩ rfl hy1 rfl rfl (Nat.le_of_ble_eq_true rfl) dX6_leastWork_28 ⟨(Nat.le_of_ble_eq_true rfl), (Nat.le_of_ble_eq_true rfl)⟩ (fun rv nn_3 τ_4 hp => ?_)
  obtain ⟨rfl, hn2_, hn2u, hf2, hD2⟩ := hp
  obtain ⟨⟨tk2, wk2, -, -, hy2, -⟩, -⟩ := hD2.2.2.2.2 _ _ _ _ _ _ hv1
  refine r_istore_n (lv2 := [(3, .int (cI (dst true kd sr N r))), (2, .ref sa), (0, .ref b0), (1, .int (nI k))]) C dX6_leastWork_31 rfl (by decide) rfl ?_
  refine r_iload_n C dX6_leastWork_32 rfl 0 rfl ?_
  refine r_iconst (v := (-1)) C dX6_leastWork_33 (by decide) ?_
  refine r_icmp_ne (tgt := 42) C dX6_leastWork_34 (by decide) (fun c34 => ?_) (fun c34 => ?_)
  · refine r_iload_n C dX6_leastWork_42 rfl 0 rfl ?_
    exact r_iret C hr hlocks (Nat.le_of_ble_eq_true rfl) (Nat.le_of_ble_eq_true rfl) dX6_leastWork_43 (hpo _ _ _ ⟨tau1, by first | (rw [lwA, cI_none hdb c34]; rfl) | (rw [lwA, if_pos (cI_fin hdb c34), cI_n (cI_fin hdb c34)]), by omega, by omega, fun q hq => (hf2 q hq).trans (hf1 q hq), hD2, hm1⟩)
  · refine r_ldc C wQ_X6_132 dX6_leastWork_37 ?_
    refine r_goto (tgt := 43) C dX6_leastWork_39 (by decide) ?_
    exact r_iret C hr hlocks (Nat.le_of_ble_eq_true rfl) (Nat.le_of_ble_eq_true rfl) dX6_leastWork_43 (hpo _ _ _ ⟨tau1, by first | (rw [lwA, cI_none hdb c34]; rfl) | (rw [lwA, if_pos (cI_fin hdb c34), cI_n (cI_fin hdb c34)]), by omega, by omega, fun q hq => (hf2 q hq).trans (hf1 q hq), hD2, hm1⟩)

abbrev rm_X6_ways_y0 : Room := { frames := 14, cells := 3, slots := 7686, locals := 1400 }
set_option maxRecDepth 100000 in
set_option maxHeartbeats 4000000 in
theorem c_X6_ways_y0 {l : Launch} {G : gG} {n : Nat} {σ : gS} {b0 st : Nat} {K : KT} {k sa la : Nat} {kd N sr r : Nat} {B : Nat} {tau : Nat → Option Rl} (hc0 : σ b0 = some (.inr (6, [.ref (b0 + 1), .ref (b0 + 5), .ref (b0 + 7), .ref (b0 + 13), .ref (b0 + 19), .int (nI st)]))) (hc1 : σ (b0 + 7) = some (.inr (0, [.int (nI (kN K)), .int (nI (kH K)), .ref (b0 + 8), .ref (b0 + 9), .ref (b0 + 10), .ref (b0 + 11), .ref (b0 + 12)]))) (hc2 : σ (b0 + 10) = some (aR 4 G 5 (kS K))) (hc3 : σ (b0 + 11) = some (aI G 5 (kR K))) (hD : DynI G B n σ tau) (hBn : B ≤ n) (hB : b0 + 44 ≤ B) (hsa : tau sa = some (rShp kd N sr la)) (hso : shOK kd N sr) (hk : k < kN K) (hk5 : kN K ≤ 5) (hs : kS K k = some sa) (hr9 : kR K k = nI r) (hrk : r < rR (sid kd) N) : GM l G yX6_ways cX6_ways 4 (some .int) rm_X6_ways_y0 n σ [.ref b0, .int (nI k), .int (nI 0)] (fun rv n2 σ2 => ∃ (tau2 : Nat → Option Rl), some (.int (nI (wy kd sr N 0 r))) = rv ∧ n ≤ n2 ∧ n2 ≤ n + 3 ∧ (∀ q, q < B → σ2 q = σ q) ∧ (DynI G B n2 σ2 tau2) ∧ (∀ q r1, tau q = some r1 → tau2 q = some r1)) := by
  refine GM.intro (by decide +kernel) (Nat.le_of_ble_eq_true rfl) (fun p e s m args below meth c C hr hlocks hname po hpo => ?_)
  have C : Cx p s m args c cX6_ways 4 RX6 G := C
  refine r_aload_n C dX6_ways_0 rfl 0 rfl ?_
  refine r_get (Cn := RX6) (T := TX6) (N := 6) (v := .ref (b0 + 7)) C inlX6 hc0 rfl 2 (by decide) wF_X6_26 (fun _ h => h) rfl dX6_ways_1 ?_
  refine r_iload_n C dX6_ways_4 rfl 1 rfl ?_
  refine r_callV (As := [.int (nI k)]) C (c_X0_shapeOf_y (k0 := b0 + 7) (K := K) (k := k) (sa := sa) hc1 hc2 (by first | assumption | omega) (by first | assumption | omega) (by first | assumption | omega)) wM_X6_58 wI_X0_shapeOf wN_X0 wC_X0_shapeOf wV_X0_shapeOf hd_X0_shapeOf ⟨Nat.le_of_ble_eq_true rfl, Nat.le_of_ble_eq_true rfl⟩ rfl hc1 rfl rfl (Nat.le_of_ble_eq_true rfl) dX6_ways_5 ⟨(Nat.le_of_ble_eq_true rfl), (Nat.le_of_ble_eq_true rfl)⟩ (fun rv n2 σ2 hp => ?_)
  obtain ⟨rfl, rfl, rfl⟩ := hp
  refine V.eq (σ2 := σ) (n2 := n) (st2 := [.ref sa]) rfl rfl rfl rfl ?_
  obtain ⟨sv9, ⟨-, hx9, -⟩, -⟩ := hD.2.2.2.1 _ _ _ _ _ hsa
  refine r_astore_n (lv2 := [(3, .ref sa), (0, .ref b0), (1, .int (nI k)), (2, .int (nI 0))]) C dX6_ways_8 rfl (by decide) rfl ?_
  refine r_aload_n C dX6_ways_9 rfl 0 rfl ?_
  refine r_ifnull C dX6_ways_10 ?_
  refine r_iload_n C dX6_ways_13 rfl 3 rfl ?_
  refine r_if_ltN C dX6_ways_14 (tgt := 22) (by decide) (by decide) ?_
  refine r_iload_n C dX6_ways_17 rfl 3 rfl ?_
  refine r_iconst (v := nI 5) C dX6_ways_18 (by decide) ?_
  refine r_icmp_leN (tgt := 25) C dX6_ways_19 (by decide) (by decide) (by decide) (fun _ => ?_) (fun z => absurd z (by decide))
  refine r_aload_n C dX6_ways_25 rfl 0 rfl ?_
  refine r_callV (As := []) C (c_X2_solver_d (sa := sa) (la := la) (kd := kd) (N := N) (sr := sr) (B := B) (tau := tau)  (by first | assumption | omega) (by first | assumption | omega) (by first | assumption | omega)) wM_X6_123 wI_X2_solver wN_X2 wC_X2_solver wV_X2_solver hd_X2_solver ⟨Nat.le_of_ble_eq_true rfl, Nat.le_of_ble_eq_true rfl⟩ rfl hx9 rfl rfl (Nat.le_of_ble_eq_true rfl) dX6_ways_26 ⟨(Nat.le_of_ble_eq_true rfl), (Nat.le_of_ble_eq_true rfl)⟩ (fun rv nn_1 τ_2 hp => ?_)
  obtain ⟨va, tau1, rfl, hn1, hn2, hf1, hD1, hm1, hv1⟩ := hp
  obtain ⟨⟨tk1, wk1, -, -, hy1, -⟩, -⟩ := hD1.2.2.2.2 _ _ _ _ _ _ hv1
  refine r_aload_n C dX6_ways_29 rfl 1 rfl ?_
  refine r_get (Cn := RX6) (T := TX6) (N := 6) (v := .ref (b0 + 7)) C inlX6 ((hf1 _ (by omega)).trans hc0) rfl 2 (by decide) wF_X6_26 (fun _ h => h) rfl dX6_ways_30 ?_
  refine r_iload_n C dX6_ways_33 rfl 2 rfl ?_
  refine r_callV (As := [.int (nI k)]) C (c_X0_rankOf (k0 := b0 + 7) (K := K) (k := k) ((hf1 _ (by omega)).trans hc1) ((hf1 _ (by omega)).trans hc3) (by omega)) wM_X6_90 wI_X0_rankOf wN_X0 wC_X0_rankOf wV_X0_rankOf hd_X0_rankOf ⟨Nat.le_of_ble_eq_true rfl, Nat.le_of_ble_eq_true rfl⟩ rfl ((hf1 _ (by omega)).trans hc1) rfl rfl (Nat.le_of_ble_eq_true rfl) dX6_ways_34 ⟨(Nat.le_of_ble_eq_true rfl), (Nat.le_of_ble_eq_true rfl)⟩ (fun rv n2 σ2 hp => ?_)
  obtain ⟨rfl, rfl, rfl⟩ := hp
  refine V.eq (σ2 := τ_2) (n2 := nn_1) (st2 := [.int (kR K k), .ref va]) rfl rfl rfl rfl ?_
  refine V.top (y := nI r) (hr9) ?_
  refine r_iload_n C dX6_ways_37 rfl 3 rfl ?_
  refine r_callV (As := [.int (nI r), .int (nI 0)]) C (c_X4_sortingRows_d0 (va := va) (sa := sa) (la := la) (kd := kd) (N := N) (sr := sr) (B := B) (tau := tau1) (r := r)  (hD1) (by omega) (hv1) (by first | assumption | omega)) wM_X6_139 wI_X4_sortingRows wN_X4 wC_X4_sortingRows wV_X4_sortingRows hd_X4_sortingRows ⟨Nat.le_of_ble_eq_true rfl, Nat.le_of_ble_eq_true rfl⟩ rfl hy1 rfl rfl (Nat.le_of_ble_eq_true rfl) dX6_ways_38 ⟨(Nat.le_of_ble_eq_true rfl), (Nat.le_of_ble_eq_true rfl)⟩ (fun rv nn_3 τ_4 hp => ?_)
  obtain ⟨rfl, hn2_, hn2u, hf2, hD2⟩ := hp
  obtain ⟨⟨tk2, wk2, -, -, hy2, -⟩, -⟩ := hD2.2.2.2.2 _ _ _ _ _ _ hv1
  exact r_iret C hr hlocks (Nat.le_of_ble_eq_true rfl) (Nat.le_of_ble_eq_true rfl) dX6_ways_41 (hpo _ _ _ ⟨tau1, rfl, by omega, by omega, fun q hq => (hf2 q hq).trans (hf1 q hq), hD2, hm1⟩)

abbrev rm_X6_ways_y1 : Room := { frames := 14, cells := 3, slots := 7686, locals := 1400 }
set_option maxRecDepth 100000 in
set_option maxHeartbeats 4000000 in
theorem c_X6_ways_y1 {l : Launch} {G : gG} {n : Nat} {σ : gS} {b0 st : Nat} {K : KT} {k sa la : Nat} {kd N sr r : Nat} {B : Nat} {tau : Nat → Option Rl} (hc0 : σ b0 = some (.inr (6, [.ref (b0 + 1), .ref (b0 + 5), .ref (b0 + 7), .ref (b0 + 13), .ref (b0 + 19), .int (nI st)]))) (hc1 : σ (b0 + 7) = some (.inr (0, [.int (nI (kN K)), .int (nI (kH K)), .ref (b0 + 8), .ref (b0 + 9), .ref (b0 + 10), .ref (b0 + 11), .ref (b0 + 12)]))) (hc2 : σ (b0 + 10) = some (aR 4 G 5 (kS K))) (hc3 : σ (b0 + 11) = some (aI G 5 (kR K))) (hD : DynI G B n σ tau) (hBn : B ≤ n) (hB : b0 + 44 ≤ B) (hsa : tau sa = some (rShp kd N sr la)) (hso : shOK kd N sr) (hk : k < kN K) (hk5 : kN K ≤ 5) (hs : kS K k = some sa) (hr9 : kR K k = nI r) (hrk : r < rR (sid kd) N) : GM l G yX6_ways cX6_ways 4 (some .int) rm_X6_ways_y1 n σ [.ref b0, .int (nI k), .int (nI 1)] (fun rv n2 σ2 => ∃ (tau2 : Nat → Option Rl), some (.int (nI (wy kd sr N 1 r))) = rv ∧ n ≤ n2 ∧ n2 ≤ n + 3 ∧ (∀ q, q < B → σ2 q = σ q) ∧ (DynI G B n2 σ2 tau2) ∧ (∀ q r1, tau q = some r1 → tau2 q = some r1)) := by
  refine GM.intro (by decide +kernel) (Nat.le_of_ble_eq_true rfl) (fun p e s m args below meth c C hr hlocks hname po hpo => ?_)
  have C : Cx p s m args c cX6_ways 4 RX6 G := C
  refine r_aload_n C dX6_ways_0 rfl 0 rfl ?_
  refine r_get (Cn := RX6) (T := TX6) (N := 6) (v := .ref (b0 + 7)) C inlX6 hc0 rfl 2 (by decide) wF_X6_26 (fun _ h => h) rfl dX6_ways_1 ?_
  refine r_iload_n C dX6_ways_4 rfl 1 rfl ?_
  refine r_callV (As := [.int (nI k)]) C (c_X0_shapeOf_y (k0 := b0 + 7) (K := K) (k := k) (sa := sa) hc1 hc2 (by first | assumption | omega) (by first | assumption | omega) (by first | assumption | omega)) wM_X6_58 wI_X0_shapeOf wN_X0 wC_X0_shapeOf wV_X0_shapeOf hd_X0_shapeOf ⟨Nat.le_of_ble_eq_true rfl, Nat.le_of_ble_eq_true rfl⟩ rfl hc1 rfl rfl (Nat.le_of_ble_eq_true rfl) dX6_ways_5 ⟨(Nat.le_of_ble_eq_true rfl), (Nat.le_of_ble_eq_true rfl)⟩ (fun rv n2 σ2 hp => ?_)
  obtain ⟨rfl, rfl, rfl⟩ := hp
  refine V.eq (σ2 := σ) (n2 := n) (st2 := [.ref sa]) rfl rfl rfl rfl ?_
  obtain ⟨sv9, ⟨-, hx9, -⟩, -⟩ := hD.2.2.2.1 _ _ _ _ _ hsa
  refine r_astore_n (lv2 := [(3, .ref sa), (0, .ref b0), (1, .int (nI k)), (2, .int (nI 1))]) C dX6_ways_8 rfl (by decide) rfl ?_
  refine r_aload_n C dX6_ways_9 rfl 0 rfl ?_
  refine r_ifnull C dX6_ways_10 ?_
  refine r_iload_n C dX6_ways_13 rfl 3 rfl ?_
  refine r_if_ltN C dX6_ways_14 (tgt := 22) (by decide) (by decide) ?_
  refine r_iload_n C dX6_ways_17 rfl 3 rfl ?_
  refine r_iconst (v := nI 5) C dX6_ways_18 (by decide) ?_
  refine r_icmp_leN (tgt := 25) C dX6_ways_19 (by decide) (by decide) (by decide) (fun _ => ?_) (fun z => absurd z (by decide))
  refine r_aload_n C dX6_ways_25 rfl 0 rfl ?_
  refine r_callV (As := []) C (c_X2_solver_d (sa := sa) (la := la) (kd := kd) (N := N) (sr := sr) (B := B) (tau := tau)  (by first | assumption | omega) (by first | assumption | omega) (by first | assumption | omega)) wM_X6_123 wI_X2_solver wN_X2 wC_X2_solver wV_X2_solver hd_X2_solver ⟨Nat.le_of_ble_eq_true rfl, Nat.le_of_ble_eq_true rfl⟩ rfl hx9 rfl rfl (Nat.le_of_ble_eq_true rfl) dX6_ways_26 ⟨(Nat.le_of_ble_eq_true rfl), (Nat.le_of_ble_eq_true rfl)⟩ (fun rv nn_1 τ_2 hp => ?_)
  obtain ⟨va, tau1, rfl, hn1, hn2, hf1, hD1, hm1, hv1⟩ := hp
  obtain ⟨⟨tk1, wk1, -, -, hy1, -⟩, -⟩ := hD1.2.2.2.2 _ _ _ _ _ _ hv1
  refine r_aload_n C dX6_ways_29 rfl 1 rfl ?_
  refine r_get (Cn := RX6) (T := TX6) (N := 6) (v := .ref (b0 + 7)) C inlX6 ((hf1 _ (by omega)).trans hc0) rfl 2 (by decide) wF_X6_26 (fun _ h => h) rfl dX6_ways_30 ?_
  refine r_iload_n C dX6_ways_33 rfl 2 rfl ?_
  refine r_callV (As := [.int (nI k)]) C (c_X0_rankOf (k0 := b0 + 7) (K := K) (k := k) ((hf1 _ (by omega)).trans hc1) ((hf1 _ (by omega)).trans hc3) (by omega)) wM_X6_90 wI_X0_rankOf wN_X0 wC_X0_rankOf wV_X0_rankOf hd_X0_rankOf ⟨Nat.le_of_ble_eq_true rfl, Nat.le_of_ble_eq_true rfl⟩ rfl ((hf1 _ (by omega)).trans hc1) rfl rfl (Nat.le_of_ble_eq_true rfl) dX6_ways_34 ⟨(Nat.le_of_ble_eq_true rfl), (Nat.le_of_ble_eq_true rfl)⟩ (fun rv n2 σ2 hp => ?_)
  obtain ⟨rfl, rfl, rfl⟩ := hp
  refine V.eq (σ2 := τ_2) (n2 := nn_1) (st2 := [.int (kR K k), .ref va]) rfl rfl rfl rfl ?_
  refine V.top (y := nI r) (hr9) ?_
  refine r_iload_n C dX6_ways_37 rfl 3 rfl ?_
  refine r_callV (As := [.int (nI r), .int (nI 1)]) C (c_X4_sortingRows_d1 (va := va) (sa := sa) (la := la) (kd := kd) (N := N) (sr := sr) (B := B) (tau := tau1) (r := r)  (hD1) (by omega) (hv1) (by first | assumption | omega)) wM_X6_139 wI_X4_sortingRows wN_X4 wC_X4_sortingRows wV_X4_sortingRows hd_X4_sortingRows ⟨Nat.le_of_ble_eq_true rfl, Nat.le_of_ble_eq_true rfl⟩ rfl hy1 rfl rfl (Nat.le_of_ble_eq_true rfl) dX6_ways_38 ⟨(Nat.le_of_ble_eq_true rfl), (Nat.le_of_ble_eq_true rfl)⟩ (fun rv nn_3 τ_4 hp => ?_)
  obtain ⟨rfl, hn2_, hn2u, hf2, hD2⟩ := hp
  obtain ⟨⟨tk2, wk2, -, -, hy2, -⟩, -⟩ := hD2.2.2.2.2 _ _ _ _ _ _ hv1
  exact r_iret C hr hlocks (Nat.le_of_ble_eq_true rfl) (Nat.le_of_ble_eq_true rfl) dX6_ways_41 (hpo _ _ _ ⟨tau1, rfl, by omega, by omega, fun q hq => (hf2 q hq).trans (hf1 q hq), hD2, hm1⟩)

abbrev rm_X6_ways_y2 : Room := { frames := 14, cells := 3, slots := 7686, locals := 1400 }
set_option maxRecDepth 100000 in
set_option maxHeartbeats 4000000 in
theorem c_X6_ways_y2 {l : Launch} {G : gG} {n : Nat} {σ : gS} {b0 st : Nat} {K : KT} {k sa la : Nat} {kd N sr r : Nat} {B : Nat} {tau : Nat → Option Rl} (hc0 : σ b0 = some (.inr (6, [.ref (b0 + 1), .ref (b0 + 5), .ref (b0 + 7), .ref (b0 + 13), .ref (b0 + 19), .int (nI st)]))) (hc1 : σ (b0 + 7) = some (.inr (0, [.int (nI (kN K)), .int (nI (kH K)), .ref (b0 + 8), .ref (b0 + 9), .ref (b0 + 10), .ref (b0 + 11), .ref (b0 + 12)]))) (hc2 : σ (b0 + 10) = some (aR 4 G 5 (kS K))) (hc3 : σ (b0 + 11) = some (aI G 5 (kR K))) (hD : DynI G B n σ tau) (hBn : B ≤ n) (hB : b0 + 44 ≤ B) (hsa : tau sa = some (rShp kd N sr la)) (hso : shOK kd N sr) (hk : k < kN K) (hk5 : kN K ≤ 5) (hs : kS K k = some sa) (hr9 : kR K k = nI r) (hrk : r < rR (sid kd) N) : GM l G yX6_ways cX6_ways 4 (some .int) rm_X6_ways_y2 n σ [.ref b0, .int (nI k), .int (nI 2)] (fun rv n2 σ2 => ∃ (tau2 : Nat → Option Rl), some (.int (nI (wy kd sr N 2 r))) = rv ∧ n ≤ n2 ∧ n2 ≤ n + 3 ∧ (∀ q, q < B → σ2 q = σ q) ∧ (DynI G B n2 σ2 tau2) ∧ (∀ q r1, tau q = some r1 → tau2 q = some r1)) := by
  refine GM.intro (by decide +kernel) (Nat.le_of_ble_eq_true rfl) (fun p e s m args below meth c C hr hlocks hname po hpo => ?_)
  have C : Cx p s m args c cX6_ways 4 RX6 G := C
  refine r_aload_n C dX6_ways_0 rfl 0 rfl ?_
  refine r_get (Cn := RX6) (T := TX6) (N := 6) (v := .ref (b0 + 7)) C inlX6 hc0 rfl 2 (by decide) wF_X6_26 (fun _ h => h) rfl dX6_ways_1 ?_
  refine r_iload_n C dX6_ways_4 rfl 1 rfl ?_
  refine r_callV (As := [.int (nI k)]) C (c_X0_shapeOf_y (k0 := b0 + 7) (K := K) (k := k) (sa := sa) hc1 hc2 (by first | assumption | omega) (by first | assumption | omega) (by first | assumption | omega)) wM_X6_58 wI_X0_shapeOf wN_X0 wC_X0_shapeOf wV_X0_shapeOf hd_X0_shapeOf ⟨Nat.le_of_ble_eq_true rfl, Nat.le_of_ble_eq_true rfl⟩ rfl hc1 rfl rfl (Nat.le_of_ble_eq_true rfl) dX6_ways_5 ⟨(Nat.le_of_ble_eq_true rfl), (Nat.le_of_ble_eq_true rfl)⟩ (fun rv n2 σ2 hp => ?_)
  obtain ⟨rfl, rfl, rfl⟩ := hp
  refine V.eq (σ2 := σ) (n2 := n) (st2 := [.ref sa]) rfl rfl rfl rfl ?_
  obtain ⟨sv9, ⟨-, hx9, -⟩, -⟩ := hD.2.2.2.1 _ _ _ _ _ hsa
  refine r_astore_n (lv2 := [(3, .ref sa), (0, .ref b0), (1, .int (nI k)), (2, .int (nI 2))]) C dX6_ways_8 rfl (by decide) rfl ?_
  refine r_aload_n C dX6_ways_9 rfl 0 rfl ?_
  refine r_ifnull C dX6_ways_10 ?_
  refine r_iload_n C dX6_ways_13 rfl 3 rfl ?_
  refine r_if_ltN C dX6_ways_14 (tgt := 22) (by decide) (by decide) ?_
  refine r_iload_n C dX6_ways_17 rfl 3 rfl ?_
  refine r_iconst (v := nI 5) C dX6_ways_18 (by decide) ?_
  refine r_icmp_leN (tgt := 25) C dX6_ways_19 (by decide) (by decide) (by decide) (fun _ => ?_) (fun z => absurd z (by decide))
  refine r_aload_n C dX6_ways_25 rfl 0 rfl ?_
  refine r_callV (As := []) C (c_X2_solver_d (sa := sa) (la := la) (kd := kd) (N := N) (sr := sr) (B := B) (tau := tau)  (by first | assumption | omega) (by first | assumption | omega) (by first | assumption | omega)) wM_X6_123 wI_X2_solver wN_X2 wC_X2_solver wV_X2_solver hd_X2_solver ⟨Nat.le_of_ble_eq_true rfl, Nat.le_of_ble_eq_true rfl⟩ rfl hx9 rfl rfl (Nat.le_of_ble_eq_true rfl) dX6_ways_26 ⟨(Nat.le_of_ble_eq_true rfl), (Nat.le_of_ble_eq_true rfl)⟩ (fun rv nn_1 τ_2 hp => ?_)
  obtain ⟨va, tau1, rfl, hn1, hn2, hf1, hD1, hm1, hv1⟩ := hp
  obtain ⟨⟨tk1, wk1, -, -, hy1, -⟩, -⟩ := hD1.2.2.2.2 _ _ _ _ _ _ hv1
  refine r_aload_n C dX6_ways_29 rfl 1 rfl ?_
  refine r_get (Cn := RX6) (T := TX6) (N := 6) (v := .ref (b0 + 7)) C inlX6 ((hf1 _ (by omega)).trans hc0) rfl 2 (by decide) wF_X6_26 (fun _ h => h) rfl dX6_ways_30 ?_
  refine r_iload_n C dX6_ways_33 rfl 2 rfl ?_
  refine r_callV (As := [.int (nI k)]) C (c_X0_rankOf (k0 := b0 + 7) (K := K) (k := k) ((hf1 _ (by omega)).trans hc1) ((hf1 _ (by omega)).trans hc3) (by omega)) wM_X6_90 wI_X0_rankOf wN_X0 wC_X0_rankOf wV_X0_rankOf hd_X0_rankOf ⟨Nat.le_of_ble_eq_true rfl, Nat.le_of_ble_eq_true rfl⟩ rfl ((hf1 _ (by omega)).trans hc1) rfl rfl (Nat.le_of_ble_eq_true rfl) dX6_ways_34 ⟨(Nat.le_of_ble_eq_true rfl), (Nat.le_of_ble_eq_true rfl)⟩ (fun rv n2 σ2 hp => ?_)
  obtain ⟨rfl, rfl, rfl⟩ := hp
  refine V.eq (σ2 := τ_2) (n2 := nn_1) (st2 := [.int (kR K k), .ref va]) rfl rfl rfl rfl ?_
  refine V.top (y := nI r) (hr9) ?_
  refine r_iload_n C dX6_ways_37 rfl 3 rfl ?_
  refine r_callV (As := [.int (nI r), .int (nI 2)]) C (c_X4_sortingRows_d2 (va := va) (sa := sa) (la := la) (kd := kd) (N := N) (sr := sr) (B := B) (tau := tau1) (r := r)  (hD1) (by omega) (hv1) (by first | assumption | omega)) wM_X6_139 wI_X4_sortingRows wN_X4 wC_X4_sortingRows wV_X4_sortingRows hd_X4_sortingRows ⟨Nat.le_of_ble_eq_true rfl, Nat.le_of_ble_eq_true rfl⟩ rfl hy1 rfl rfl (Nat.le_of_ble_eq_true rfl) dX6_ways_38 ⟨(Nat.le_of_ble_eq_true rfl), (Nat.le_of_ble_eq_true rfl)⟩ (fun rv nn_3 τ_4 hp => ?_)
  obtain ⟨rfl, hn2_, hn2u, hf2, hD2⟩ := hp
  obtain ⟨⟨tk2, wk2, -, -, hy2, -⟩, -⟩ := hD2.2.2.2.2 _ _ _ _ _ _ hv1
  exact r_iret C hr hlocks (Nat.le_of_ble_eq_true rfl) (Nat.le_of_ble_eq_true rfl) dX6_ways_41 (hpo _ _ _ ⟨tau1, rfl, by omega, by omega, fun q hq => (hf2 q hq).trans (hf1 q hq), hD2, hm1⟩)

abbrev rm_X6_ways_y3 : Room := { frames := 14, cells := 3, slots := 7686, locals := 1400 }
set_option maxRecDepth 100000 in
set_option maxHeartbeats 4000000 in
theorem c_X6_ways_y3 {l : Launch} {G : gG} {n : Nat} {σ : gS} {b0 st : Nat} {K : KT} {k sa la : Nat} {kd N sr r : Nat} {B : Nat} {tau : Nat → Option Rl} (hc0 : σ b0 = some (.inr (6, [.ref (b0 + 1), .ref (b0 + 5), .ref (b0 + 7), .ref (b0 + 13), .ref (b0 + 19), .int (nI st)]))) (hc1 : σ (b0 + 7) = some (.inr (0, [.int (nI (kN K)), .int (nI (kH K)), .ref (b0 + 8), .ref (b0 + 9), .ref (b0 + 10), .ref (b0 + 11), .ref (b0 + 12)]))) (hc2 : σ (b0 + 10) = some (aR 4 G 5 (kS K))) (hc3 : σ (b0 + 11) = some (aI G 5 (kR K))) (hD : DynI G B n σ tau) (hBn : B ≤ n) (hB : b0 + 44 ≤ B) (hsa : tau sa = some (rShp kd N sr la)) (hso : shOK kd N sr) (hk : k < kN K) (hk5 : kN K ≤ 5) (hs : kS K k = some sa) (hr9 : kR K k = nI r) (hrk : r < rR (sid kd) N) : GM l G yX6_ways cX6_ways 4 (some .int) rm_X6_ways_y3 n σ [.ref b0, .int (nI k), .int (nI 3)] (fun rv n2 σ2 => ∃ (tau2 : Nat → Option Rl), some (.int (nI (wy kd sr N 3 r))) = rv ∧ n ≤ n2 ∧ n2 ≤ n + 3 ∧ (∀ q, q < B → σ2 q = σ q) ∧ (DynI G B n2 σ2 tau2) ∧ (∀ q r1, tau q = some r1 → tau2 q = some r1)) := by
  refine GM.intro (by decide +kernel) (Nat.le_of_ble_eq_true rfl) (fun p e s m args below meth c C hr hlocks hname po hpo => ?_)
  have C : Cx p s m args c cX6_ways 4 RX6 G := C
  refine r_aload_n C dX6_ways_0 rfl 0 rfl ?_
  refine r_get (Cn := RX6) (T := TX6) (N := 6) (v := .ref (b0 + 7)) C inlX6 hc0 rfl 2 (by decide) wF_X6_26 (fun _ h => h) rfl dX6_ways_1 ?_
  refine r_iload_n C dX6_ways_4 rfl 1 rfl ?_
  refine r_callV (As := [.int (nI k)]) C (c_X0_shapeOf_y (k0 := b0 + 7) (K := K) (k := k) (sa := sa) hc1 hc2 (by first | assumption | omega) (by first | assumption | omega) (by first | assumption | omega)) wM_X6_58 wI_X0_shapeOf wN_X0 wC_X0_shapeOf wV_X0_shapeOf hd_X0_shapeOf ⟨Nat.le_of_ble_eq_true rfl, Nat.le_of_ble_eq_true rfl⟩ rfl hc1 rfl rfl (Nat.le_of_ble_eq_true rfl) dX6_ways_5 ⟨(Nat.le_of_ble_eq_true rfl), (Nat.le_of_ble_eq_true rfl)⟩ (fun rv n2 σ2 hp => ?_)
  obtain ⟨rfl, rfl, rfl⟩ := hp
  refine V.eq (σ2 := σ) (n2 := n) (st2 := [.ref sa]) rfl rfl rfl rfl ?_
  obtain ⟨sv9, ⟨-, hx9, -⟩, -⟩ := hD.2.2.2.1 _ _ _ _ _ hsa
  refine r_astore_n (lv2 := [(3, .ref sa), (0, .ref b0), (1, .int (nI k)), (2, .int (nI 3))]) C dX6_ways_8 rfl (by decide) rfl ?_
  refine r_aload_n C dX6_ways_9 rfl 0 rfl ?_
  refine r_ifnull C dX6_ways_10 ?_
  refine r_iload_n C dX6_ways_13 rfl 3 rfl ?_
  refine r_if_ltN C dX6_ways_14 (tgt := 22) (by decide) (by decide) ?_
  refine r_iload_n C dX6_ways_17 rfl 3 rfl ?_
  refine r_iconst (v := nI 5) C dX6_ways_18 (by decide) ?_
  refine r_icmp_leN (tgt := 25) C dX6_ways_19 (by decide) (by decide) (by decide) (fun _ => ?_) (fun z => absurd z (by decide))
  refine r_aload_n C dX6_ways_25 rfl 0 rfl ?_
  refine r_callV (As := []) C (c_X2_solver_d (sa := sa) (la := la) (kd := kd) (N := N) (sr := sr) (B := B) (tau := tau)  (by first | assumption | omega) (by first | assumption | omega) (by first | assumption | omega)) wM_X6_123 wI_X2_solver wN_X2 wC_X2_solver wV_X2_solver hd_X2_solver ⟨Nat.le_of_ble_eq_true rfl, Nat.le_of_ble_eq_true rfl⟩ rfl hx9 rfl rfl (Nat.le_of_ble_eq_true rfl) dX6_ways_26 ⟨(Nat.le_of_ble_eq_true rfl), (Nat.le_of_ble_eq_true rfl)⟩ (fun rv nn_1 τ_2 hp => ?_)
  obtain ⟨va, tau1, rfl, hn1, hn2, hf1, hD1, hm1, hv1⟩ := hp
  obtain ⟨⟨tk1, wk1, -, -, hy1, -⟩, -⟩ := hD1.2.2.2.2 _ _ _ _ _ _ hv1
  refine r_aload_n C dX6_ways_29 rfl 1 rfl ?_
  refine r_get (Cn := RX6) (T := TX6) (N := 6) (v := .ref (b0 + 7)) C inlX6 ((hf1 _ (by omega)).trans hc0) rfl 2 (by decide) wF_X6_26 (fun _ h => h) rfl dX6_ways_30 ?_
  refine r_iload_n C dX6_ways_33 rfl 2 rfl ?_
  refine r_callV (As := [.int (nI k)]) C (c_X0_rankOf (k0 := b0 + 7) (K := K) (k := k) ((hf1 _ (by omega)).trans hc1) ((hf1 _ (by omega)).trans hc3) (by omega)) wM_X6_90 wI_X0_rankOf wN_X0 wC_X0_rankOf wV_X0_rankOf hd_X0_rankOf ⟨Nat.le_of_ble_eq_true rfl, Nat.le_of_ble_eq_true rfl⟩ rfl ((hf1 _ (by omega)).trans hc1) rfl rfl (Nat.le_of_ble_eq_true rfl) dX6_ways_34 ⟨(Nat.le_of_ble_eq_true rfl), (Nat.le_of_ble_eq_true rfl)⟩ (fun rv n2 σ2 hp => ?_)
  obtain ⟨rfl, rfl, rfl⟩ := hp
  refine V.eq (σ2 := τ_2) (n2 := nn_1) (st2 := [.int (kR K k), .ref va]) rfl rfl rfl rfl ?_
  refine V.top (y := nI r) (hr9) ?_
  refine r_iload_n C dX6_ways_37 rfl 3 rfl ?_
  refine r_callV (As := [.int (nI r), .int (nI 3)]) C (c_X4_sortingRows_d3 (va := va) (sa := sa) (la := la) (kd := kd) (N := N) (sr := sr) (B := B) (tau := tau1) (r := r)  (hD1) (by omega) (hv1) (by first | assumption | omega)) wM_X6_139 wI_X4_sortingRows wN_X4 wC_X4_sortingRows wV_X4_sortingRows hd_X4_sortingRows ⟨Nat.le_of_ble_eq_true rfl, Nat.le_of_ble_eq_true rfl⟩ rfl hy1 rfl rfl (Nat.le_of_ble_eq_true rfl) dX6_ways_38 ⟨(Nat.le_of_ble_eq_true rfl), (Nat.le_of_ble_eq_true rfl)⟩ (fun rv nn_3 τ_4 hp => ?_)
  obtain ⟨rfl, hn2_, hn2u, hf2, hD2⟩ := hp
  obtain ⟨⟨tk2, wk2, -, -, hy2, -⟩, -⟩ := hD2.2.2.2.2 _ _ _ _ _ _ hv1
  exact r_iret C hr hlocks (Nat.le_of_ble_eq_true rfl) (Nat.le_of_ble_eq_true rfl) dX6_ways_41 (hpo _ _ _ ⟨tau1, rfl, by omega, by omega, fun q hq => (hf2 q hq).trans (hf1 q hq), hD2, hm1⟩)

abbrev rm_X6_ways_y4 : Room := { frames := 14, cells := 3, slots := 7686, locals := 1400 }
set_option maxRecDepth 100000 in
set_option maxHeartbeats 4000000 in
theorem c_X6_ways_y4 {l : Launch} {G : gG} {n : Nat} {σ : gS} {b0 st : Nat} {K : KT} {k sa la : Nat} {kd N sr r : Nat} {B : Nat} {tau : Nat → Option Rl} (hc0 : σ b0 = some (.inr (6, [.ref (b0 + 1), .ref (b0 + 5), .ref (b0 + 7), .ref (b0 + 13), .ref (b0 + 19), .int (nI st)]))) (hc1 : σ (b0 + 7) = some (.inr (0, [.int (nI (kN K)), .int (nI (kH K)), .ref (b0 + 8), .ref (b0 + 9), .ref (b0 + 10), .ref (b0 + 11), .ref (b0 + 12)]))) (hc2 : σ (b0 + 10) = some (aR 4 G 5 (kS K))) (hc3 : σ (b0 + 11) = some (aI G 5 (kR K))) (hD : DynI G B n σ tau) (hBn : B ≤ n) (hB : b0 + 44 ≤ B) (hsa : tau sa = some (rShp kd N sr la)) (hso : shOK kd N sr) (hk : k < kN K) (hk5 : kN K ≤ 5) (hs : kS K k = some sa) (hr9 : kR K k = nI r) (hrk : r < rR (sid kd) N) : GM l G yX6_ways cX6_ways 4 (some .int) rm_X6_ways_y4 n σ [.ref b0, .int (nI k), .int (nI 4)] (fun rv n2 σ2 => ∃ (tau2 : Nat → Option Rl), some (.int (nI (wy kd sr N 4 r))) = rv ∧ n ≤ n2 ∧ n2 ≤ n + 3 ∧ (∀ q, q < B → σ2 q = σ q) ∧ (DynI G B n2 σ2 tau2) ∧ (∀ q r1, tau q = some r1 → tau2 q = some r1)) := by
  refine GM.intro (by decide +kernel) (Nat.le_of_ble_eq_true rfl) (fun p e s m args below meth c C hr hlocks hname po hpo => ?_)
  have C : Cx p s m args c cX6_ways 4 RX6 G := C
  refine r_aload_n C dX6_ways_0 rfl 0 rfl ?_
  refine r_get (Cn := RX6) (T := TX6) (N := 6) (v := .ref (b0 + 7)) C inlX6 hc0 rfl 2 (by decide) wF_X6_26 (fun _ h => h) rfl dX6_ways_1 ?_
  refine r_iload_n C dX6_ways_4 rfl 1 rfl ?_
  refine r_callV (As := [.int (nI k)]) C (c_X0_shapeOf_y (k0 := b0 + 7) (K := K) (k := k) (sa := sa) hc1 hc2 (by first | assumption | omega) (by first | assumption | omega) (by first | assumption | omega)) wM_X6_58 wI_X0_shapeOf wN_X0 wC_X0_shapeOf wV_X0_shapeOf hd_X0_shapeOf ⟨Nat.le_of_ble_eq_true rfl, Nat.le_of_ble_eq_true rfl⟩ rfl hc1 rfl rfl (Nat.le_of_ble_eq_true rfl) dX6_ways_5 ⟨(Nat.le_of_ble_eq_true rfl), (Nat.le_of_ble_eq_true rfl)⟩ (fun rv n2 σ2 hp => ?_)
  obtain ⟨rfl, rfl, rfl⟩ := hp
  refine V.eq (σ2 := σ) (n2 := n) (st2 := [.ref sa]) rfl rfl rfl rfl ?_
  obtain ⟨sv9, ⟨-, hx9, -⟩, -⟩ := hD.2.2.2.1 _ _ _ _ _ hsa
  refine r_astore_n (lv2 := [(3, .ref sa), (0, .ref b0), (1, .int (nI k)), (2, .int (nI 4))]) C dX6_ways_8 rfl (by decide) rfl ?_
  refine r_aload_n C dX6_ways_9 rfl 0 rfl ?_
  refine r_ifnull C dX6_ways_10 ?_
  refine r_iload_n C dX6_ways_13 rfl 3 rfl ?_
  refine r_if_ltN C dX6_ways_14 (tgt := 22) (by decide) (by decide) ?_
  refine r_iload_n C dX6_ways_17 rfl 3 rfl ?_
  refine r_iconst (v := nI 5) C dX6_ways_18 (by decide) ?_
  refine r_icmp_leN (tgt := 25) C dX6_ways_19 (by decide) (by decide) (by decide) (fun _ => ?_) (fun z => absurd z (by decide))
  refine r_aload_n C dX6_ways_25 rfl 0 rfl ?_
  refine r_callV (As := []) C (c_X2_solver_d (sa := sa) (la := la) (kd := kd) (N := N) (sr := sr) (B := B) (tau := tau)  (by first | assumption | omega) (by first | assumption | omega) (by first | assumption | omega)) wM_X6_123 wI_X2_solver wN_X2 wC_X2_solver wV_X2_solver hd_X2_solver ⟨Nat.le_of_ble_eq_true rfl, Nat.le_of_ble_eq_true rfl⟩ rfl hx9 rfl rfl (Nat.le_of_ble_eq_true rfl) dX6_ways_26 ⟨(Nat.le_of_ble_eq_true rfl), (Nat.le_of_ble_eq_true rfl)⟩ (fun rv nn_1 τ_2 hp => ?_)
  obtain ⟨va, tau1, rfl, hn1, hn2, hf1, hD1, hm1, hv1⟩ := hp
  obtain ⟨⟨tk1, wk1, -, -, hy1, -⟩, -⟩ := hD1.2.2.2.2 _ _ _ _ _ _ hv1
  refine r_aload_n C dX6_ways_29 rfl 1 rfl ?_
  refine r_get (Cn := RX6) (T := TX6) (N := 6) (v := .ref (b0 + 7)) C inlX6 ((hf1 _ (by omega)).trans hc0) rfl 2 (by decide) wF_X6_26 (fun _ h => h) rfl dX6_ways_30 ?_
  refine r_iload_n C dX6_ways_33 rfl 2 rfl ?_
  refine r_callV (As := [.int (nI k)]) C (c_X0_rankOf (k0 := b0 + 7) (K := K) (k := k) ((hf1 _ (by omega)).trans hc1) ((hf1 _ (by omega)).trans hc3) (by omega)) wM_X6_90 wI_X0_rankOf wN_X0 wC_X0_rankOf wV_X0_rankOf hd_X0_rankOf ⟨Nat.le_of_ble_eq_true rfl, Nat.le_of_ble_eq_true rfl⟩ rfl ((hf1 _ (by omega)).trans hc1) rfl rfl (Nat.le_of_ble_eq_true rfl) dX6_ways_34 ⟨(Nat.le_of_ble_eq_true rfl), (Nat.le_of_ble_eq_true rfl)⟩ (fun rv n2 σ2 hp => ?_)
  obtain ⟨rfl, rfl, rfl⟩ := hp
  refine V.eq (σ2 := τ_2) (n2 := nn_1) (st2 := [.int (kR K k), .ref va]) rfl rfl rfl rfl ?_
  refine V.top (y := nI r) (hr9) ?_
  refine r_iload_n C dX6_ways_37 rfl 3 rfl ?_
  refine r_callV (As := [.int (nI r), .int (nI 4)]) C (c_X4_sortingRows_d4 (va := va) (sa := sa) (la := la) (kd := kd) (N := N) (sr := sr) (B := B) (tau := tau1) (r := r)  (hD1) (by omega) (hv1) (by first | assumption | omega)) wM_X6_139 wI_X4_sortingRows wN_X4 wC_X4_sortingRows wV_X4_sortingRows hd_X4_sortingRows ⟨Nat.le_of_ble_eq_true rfl, Nat.le_of_ble_eq_true rfl⟩ rfl hy1 rfl rfl (Nat.le_of_ble_eq_true rfl) dX6_ways_38 ⟨(Nat.le_of_ble_eq_true rfl), (Nat.le_of_ble_eq_true rfl)⟩ (fun rv nn_3 τ_4 hp => ?_)
  obtain ⟨rfl, hn2_, hn2u, hf2, hD2⟩ := hp
  obtain ⟨⟨tk2, wk2, -, -, hy2, -⟩, -⟩ := hD2.2.2.2.2 _ _ _ _ _ _ hv1
  exact r_iret C hr hlocks (Nat.le_of_ble_eq_true rfl) (Nat.le_of_ble_eq_true rfl) dX6_ways_41 (hpo _ _ _ ⟨tau1, rfl, by omega, by omega, fun q hq => (hf2 q hq).trans (hf1 q hq), hD2, hm1⟩)

abbrev rm_X6_ways_y5 : Room := { frames := 14, cells := 3, slots := 7686, locals := 1400 }
set_option maxRecDepth 100000 in
set_option maxHeartbeats 4000000 in
theorem c_X6_ways_y5 {l : Launch} {G : gG} {n : Nat} {σ : gS} {b0 st : Nat} {K : KT} {k sa la : Nat} {kd N sr r : Nat} {B : Nat} {tau : Nat → Option Rl} (hc0 : σ b0 = some (.inr (6, [.ref (b0 + 1), .ref (b0 + 5), .ref (b0 + 7), .ref (b0 + 13), .ref (b0 + 19), .int (nI st)]))) (hc1 : σ (b0 + 7) = some (.inr (0, [.int (nI (kN K)), .int (nI (kH K)), .ref (b0 + 8), .ref (b0 + 9), .ref (b0 + 10), .ref (b0 + 11), .ref (b0 + 12)]))) (hc2 : σ (b0 + 10) = some (aR 4 G 5 (kS K))) (hc3 : σ (b0 + 11) = some (aI G 5 (kR K))) (hD : DynI G B n σ tau) (hBn : B ≤ n) (hB : b0 + 44 ≤ B) (hsa : tau sa = some (rShp kd N sr la)) (hso : shOK kd N sr) (hk : k < kN K) (hk5 : kN K ≤ 5) (hs : kS K k = some sa) (hr9 : kR K k = nI r) (hrk : r < rR (sid kd) N) : GM l G yX6_ways cX6_ways 4 (some .int) rm_X6_ways_y5 n σ [.ref b0, .int (nI k), .int (nI 5)] (fun rv n2 σ2 => ∃ (tau2 : Nat → Option Rl), some (.int (nI (wy kd sr N 5 r))) = rv ∧ n ≤ n2 ∧ n2 ≤ n + 3 ∧ (∀ q, q < B → σ2 q = σ q) ∧ (DynI G B n2 σ2 tau2) ∧ (∀ q r1, tau q = some r1 → tau2 q = some r1)) := by
  refine GM.intro (by decide +kernel) (Nat.le_of_ble_eq_true rfl) (fun p e s m args below meth c C hr hlocks hname po hpo => ?_)
  have C : Cx p s m args c cX6_ways 4 RX6 G := C
  refine r_aload_n C dX6_ways_0 rfl 0 rfl ?_
  refine r_get (Cn := RX6) (T := TX6) (N := 6) (v := .ref (b0 + 7)) C inlX6 hc0 rfl 2 (by decide) wF_X6_26 (fun _ h => h) rfl dX6_ways_1 ?_
  refine r_iload_n C dX6_ways_4 rfl 1 rfl ?_
  refine r_callV (As := [.int (nI k)]) C (c_X0_shapeOf_y (k0 := b0 + 7) (K := K) (k := k) (sa := sa) hc1 hc2 (by first | assumption | omega) (by first | assumption | omega) (by first | assumption | omega)) wM_X6_58 wI_X0_shapeOf wN_X0 wC_X0_shapeOf wV_X0_shapeOf hd_X0_shapeOf ⟨Nat.le_of_ble_eq_true rfl, Nat.le_of_ble_eq_true rfl⟩ rfl hc1 rfl rfl (Nat.le_of_ble_eq_true rfl) dX6_ways_5 ⟨(Nat.le_of_ble_eq_true rfl), (Nat.le_of_ble_eq_true rfl)⟩ (fun rv n2 σ2 hp => ?_)
  obtain ⟨rfl, rfl, rfl⟩ := hp
  refine V.eq (σ2 := σ) (n2 := n) (st2 := [.ref sa]) rfl rfl rfl rfl ?_
  obtain ⟨sv9, ⟨-, hx9, -⟩, -⟩ := hD.2.2.2.1 _ _ _ _ _ hsa
  refine r_astore_n (lv2 := [(3, .ref sa), (0, .ref b0), (1, .int (nI k)), (2, .int (nI 5))]) C dX6_ways_8 rfl (by decide) rfl ?_
  refine r_aload_n C dX6_ways_9 rfl 0 rfl ?_
  refine r_ifnull C dX6_ways_10 ?_
  refine r_iload_n C dX6_ways_13 rfl 3 rfl ?_
  refine r_if_ltN C dX6_ways_14 (tgt := 22) (by decide) (by decide) ?_
  refine r_iload_n C dX6_ways_17 rfl 3 rfl ?_
  refine r_iconst (v := nI 5) C dX6_ways_18 (by decide) ?_
  refine r_icmp_leN (tgt := 25) C dX6_ways_19 (by decide) (by decide) (by decide) (fun _ => ?_) (fun z => absurd z (by decide))
  refine r_aload_n C dX6_ways_25 rfl 0 rfl ?_
  refine r_callV (As := []) C (c_X2_solver_d (sa := sa) (la := la) (kd := kd) (N := N) (sr := sr) (B := B) (tau := tau)  (by first | assumption | omega) (by first | assumption | omega) (by first | assumption | omega)) wM_X6_123 wI_X2_solver wN_X2 wC_X2_solver wV_X2_solver hd_X2_solver ⟨Nat.le_of_ble_eq_true rfl, Nat.le_of_ble_eq_true rfl⟩ rfl hx9 rfl rfl (Nat.le_of_ble_eq_true rfl) dX6_ways_26 ⟨(Nat.le_of_ble_eq_true rfl), (Nat.le_of_ble_eq_true rfl)⟩ (fun rv nn_1 τ_2 hp => ?_)
  obtain ⟨va, tau1, rfl, hn1, hn2, hf1, hD1, hm1, hv1⟩ := hp
  obtain ⟨⟨tk1, wk1, -, -, hy1, -⟩, -⟩ := hD1.2.2.2.2 _ _ _ _ _ _ hv1
  refine r_aload_n C dX6_ways_29 rfl 1 rfl ?_
  refine r_get (Cn := RX6) (T := TX6) (N := 6) (v := .ref (b0 + 7)) C inlX6 ((hf1 _ (by omega)).trans hc0) rfl 2 (by decide) wF_X6_26 (fun _ h => h) rfl dX6_ways_30 ?_
  refine r_iload_n C dX6_ways_33 rfl 2 rfl ?_
  refine r_callV (As := [.int (nI k)]) C (c_X0_rankOf (k0 := b0 + 7) (K := K) (k := k) ((hf1 _ (by omega)).trans hc1) ((hf1 _ (by omega)).trans hc3) (by omega)) wM_X6_90 wI_X0_rankOf wN_X0 wC_X0_rankOf wV_X0_rankOf hd_X0_rankOf ⟨Nat.le_of_ble_eq_true rfl, Nat.le_of_ble_eq_true rfl⟩ rfl ((hf1 _ (by omega)).trans hc1) rfl rfl (Nat.le_of_ble_eq_true rfl) dX6_ways_34 ⟨(Nat.le_of_ble_eq_true rfl), (Nat.le_of_ble_eq_true rfl)⟩ (fun rv n2 σ2 hp => ?_)
  obtain ⟨rfl, rfl, rfl⟩ := hp
  refine V.eq (σ2 := τ_2) (n2 := nn_1) (st2 := [.int (kR K k), .ref va]) rfl rfl rfl rfl ?_
  refine V.top (y := nI r) (hr9) ?_
  refine r_iload_n C dX6_ways_37 rfl 3 rfl ?_
  refine r_callV (As := [.int (nI r), .int (nI 5)]) C (c_X4_sortingRows_d5 (va := va) (sa := sa) (la := la) (kd := kd) (N := N) (sr := sr) (B := B) (tau := tau1) (r := r)  (hD1) (by omega) (hv1) (by first | assumption | omega)) wM_X6_139 wI_X4_sortingRows wN_X4 wC_X4_sortingRows wV_X4_sortingRows hd_X4_sortingRows ⟨Nat.le_of_ble_eq_true rfl, Nat.le_of_ble_eq_true rfl⟩ rfl hy1 rfl rfl (Nat.le_of_ble_eq_true rfl) dX6_ways_38 ⟨(Nat.le_of_ble_eq_true rfl), (Nat.le_of_ble_eq_true rfl)⟩ (fun rv nn_3 τ_4 hp => ?_)
  obtain ⟨rfl, hn2_, hn2u, hf2, hD2⟩ := hp
  obtain ⟨⟨tk2, wk2, -, -, hy2, -⟩, -⟩ := hD2.2.2.2.2 _ _ _ _ _ _ hv1
  exact r_iret C hr hlocks (Nat.le_of_ble_eq_true rfl) (Nat.le_of_ble_eq_true rfl) dX6_ways_41 (hpo _ _ _ ⟨tau1, rfl, by omega, by omega, fun q hq => (hf2 q hq).trans (hf1 q hq), hD2, hm1⟩)

abbrev rm_X6_ofDistance_y : Room := { frames := 14, cells := 3, slots := 7686, locals := 1400 }
set_option maxRecDepth 100000 in
set_option maxHeartbeats 4000000 in
theorem c_X6_ofDistance_y {l : Launch} {G : gG} {n : Nat} {σ : gS} {b0 st : Nat} {K : KT} {k sa la : Nat} {kd N sr r : Nat} {B : Nat} {tau : Nat → Option Rl} {w : Nat} (hc0 : σ b0 = some (.inr (6, [.ref (b0 + 1), .ref (b0 + 5), .ref (b0 + 7), .ref (b0 + 13), .ref (b0 + 19), .int (nI st)]))) (hc1 : σ (b0 + 7) = some (.inr (0, [.int (nI (kN K)), .int (nI (kH K)), .ref (b0 + 8), .ref (b0 + 9), .ref (b0 + 10), .ref (b0 + 11), .ref (b0 + 12)]))) (hc2 : σ (b0 + 10) = some (aR 4 G 5 (kS K))) (hc3 : σ (b0 + 11) = some (aI G 5 (kR K))) (hD : DynI G B n σ tau) (hBn : B ≤ n) (hB : b0 + 44 ≤ B) (hsa : tau sa = some (rShp kd N sr la)) (hso : shOK kd N sr) (hk : k < kN K) (hk5 : kN K ≤ 5) (hs : kS K k = some sa) (hr9 : kR K k = nI r) (hrk : r < rR (sid kd) N) (hw : w ≤ 12) : GM l G yX6_ofDistance cX6_ofDistance 4 (some .int) rm_X6_ofDistance_y n σ [.ref b0, .int (nI k), .int (nI w)] (fun rv n2 σ2 => ∃ (tau2 : Nat → Option Rl), some (.int (nI (ofd (dst false kd sr N) w (rR (sid kd) N)))) = rv ∧ n ≤ n2 ∧ n2 ≤ n + 3 ∧ (∀ q, q < B → σ2 q = σ q) ∧ (DynI G B n2 σ2 tau2) ∧ (∀ q r1, tau q = some r1 → tau2 q = some r1)) := by
  refine GM.intro (by decide +kernel) (Nat.le_of_ble_eq_true rfl) (fun p e s m args below meth c C hr hlocks hname po hpo => ?_)
  have C : Cx p s m args c cX6_ofDistance 4 RX6 G := C
  refine r_aload_n C dX6_ofDistance_0 rfl 0 rfl ?_
  refine r_get (Cn := RX6) (T := TX6) (N := 6) (v := .ref (b0 + 7)) C inlX6 hc0 rfl 2 (by decide) wF_X6_26 (fun _ h => h) rfl dX6_ofDistance_1 ?_
  refine r_iload_n C dX6_ofDistance_4 rfl 1 rfl ?_
  refine r_callV (As := [.int (nI k)]) C (c_X0_shapeOf_y (k0 := b0 + 7) (K := K) (k := k) (sa := sa) hc1 hc2 (by first | assumption | omega) (by first | assumption | omega) (by first | assumption | omega)) wM_X6_58 wI_X0_shapeOf wN_X0 wC_X0_shapeOf wV_X0_shapeOf hd_X0_shapeOf ⟨Nat.le_of_ble_eq_true rfl, Nat.le_of_ble_eq_true rfl⟩ rfl hc1 rfl rfl (Nat.le_of_ble_eq_true rfl) dX6_ofDistance_5 ⟨(Nat.le_of_ble_eq_true rfl), (Nat.le_of_ble_eq_true rfl)⟩ (fun rv n2 σ2 hp => ?_)
  obtain ⟨rfl, rfl, rfl⟩ := hp
  refine V.eq (σ2 := σ) (n2 := n) (st2 := [.ref sa]) rfl rfl rfl rfl ?_
  obtain ⟨sv9, ⟨-, hx9, -⟩, -⟩ := hD.2.2.2.1 _ _ _ _ _ hsa
  refine r_astore_n (lv2 := [(3, .ref sa), (0, .ref b0), (1, .int (nI k)), (2, .int (nI w))]) C dX6_ofDistance_8 rfl (by decide) rfl ?_
  refine r_aload_n C dX6_ofDistance_9 rfl 0 rfl ?_
  refine r_ifnull C dX6_ofDistance_10 ?_
  refine r_iload_n C dX6_ofDistance_13 rfl 3 rfl ?_
  refine r_if_ltN C dX6_ofDistance_14 (tgt := 23) (by decide) (by omega) ?_
  refine r_iload_n C dX6_ofDistance_17 rfl 3 rfl ?_
  refine r_bipush (v := nI 12) C dX6_ofDistance_18 (by decide) ?_
  refine r_icmp_leN (tgt := 26) C dX6_ofDistance_20 (by decide) (by omega) (by decide) (fun c20 => ?_) (fun c20 => ?_)
  · refine r_aload_n C dX6_ofDistance_26 rfl 0 rfl ?_
    refine r_callV (As := []) C (c_X2_solver_d (sa := sa) (la := la) (kd := kd) (N := N) (sr := sr) (B := B) (tau := tau)  (by first | assumption | omega) (by first | assumption | omega) (by first | assumption | omega)) wM_X6_123 wI_X2_solver wN_X2 wC_X2_solver wV_X2_solver hd_X2_solver ⟨Nat.le_of_ble_eq_true rfl, Nat.le_of_ble_eq_true rfl⟩ rfl hx9 rfl rfl (Nat.le_of_ble_eq_true rfl) dX6_ofDistance_27 ⟨(Nat.le_of_ble_eq_true rfl), (Nat.le_of_ble_eq_true rfl)⟩ (fun rv nn_1 τ_2 hp => ?_)
    obtain ⟨va, tau1, rfl, hn1, hn2, hf1, hD1, hm1, hv1⟩ := hp
    obtain ⟨⟨tk1, wk1, -, -, hy1, -⟩, -⟩ := hD1.2.2.2.2 _ _ _ _ _ _ hv1
    refine r_iload_n C dX6_ofDistance_30 rfl 3 rfl ?_
    refine r_callV (As := [.int (nI w)]) C (c_X4_stacksWithTurns_d (va := va) (sa := sa) (la := la) (kd := kd) (N := N) (sr := sr) (B := B) (tau := tau1) (w := w)  (hD1) (by omega) (hv1) (by first | assumption | omega)) wM_X6_154 wI_X4_stacksWithTurns wN_X4 wC_X4_stacksWithTurns wV_X4_stacksWithTurns hd_X4_stacksWithTurns ⟨Nat.le_of_ble_eq_true rfl, Nat.le_of_ble_eq_true rfl⟩ rfl hy1 rfl rfl (Nat.le_of_ble_eq_true rfl) dX6_ofDistance_31 ⟨(Nat.le_of_ble_eq_true rfl), (Nat.le_of_ble_eq_true rfl)⟩ (fun rv nn_3 τ_4 hp => ?_)
    obtain ⟨rfl, hn2_, hn2u, hf2, hD2⟩ := hp
    obtain ⟨⟨tk2, wk2, -, -, hy2, -⟩, -⟩ := hD2.2.2.2.2 _ _ _ _ _ _ hv1
    exact r_iret C hr hlocks (Nat.le_of_ble_eq_true rfl) (Nat.le_of_ble_eq_true rfl) dX6_ofDistance_34 (hpo _ _ _ ⟨tau1, rfl, by omega, by omega, fun q hq => (hf2 q hq).trans (hf1 q hq), hD2, hm1⟩)
  · exact absurd c20 (by omega)
