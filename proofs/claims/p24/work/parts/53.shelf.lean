theorem va_up_s {f : Nat → Option Nat} {k : Nat} {v : Option Nat} : va_up f k v k = v := by simp [va_up]
theorem sid_t {kd : Nat} (h : kd = 1 ∨ kd = 3) : sid kd = true := by rcases h with rfl | rfl <;> rfl
theorem sid_f {kd : Nat} (h4 : kd < 4) (h : ¬ (kd = 1 ∨ kd = 3)) : sid kd = false := by
  rcases (show kd = 0 ∨ kd = 2 by omega) with rfl | rfl <;> rfl
theorem sr_lo {kd sr lo : Nat} (h : if kd = 3 then 1 ≤ sr ∧ sr ≤ 21 else sr = 0) (hlo : lo = if kd = 3 then 1 else 0) : lo ≤ sr := by
  by_cases g : kd = 3
  · rw [if_pos g] at h hlo; omega
  · rw [if_neg g] at h hlo; omega
theorem sr_hi {kd sr hi : Nat} (h : if kd = 3 then 1 ≤ sr ∧ sr ≤ 21 else sr = 0) (hhi : hi = if kd = 3 then 21 else 0) : sr ≤ hi := by
  by_cases g : kd = 3
  · rw [if_pos g] at h hhi; omega
  · rw [if_neg g] at h hhi; omega

abbrev rm_X3_init : Room := { frames := 1, cells := 3, slots := 629, locals := 20 }
set_option maxRecDepth 100000 in
set_option maxHeartbeats 4000000 in
theorem c_X3_init {l : Launch} {G : gG} {σ : gS} {h0 : Nat} (hc0 : σ h0 = some (.inr (3, [.null, .null, .null])))  : GM l G yX3_init cX3_init 1 none rm_X3_init (h0 + 1) σ [.ref h0] (fun rv n2 σ2 => (none : Option Value) = rv ∧ h0 + 4 = n2 ∧ (RW σ h0 [(.inr (3, [.ref (h0 + 1), .ref (h0 + 2), .ref (h0 + 3)])), (aR 3 G 7 (fun _ => none)), (aR 3 G 6 (fun _ => none)), (aR 4 G 616 (fun _ => none))]) = σ2) := by
  refine GM.intro (by decide +kernel) (Nat.le_of_ble_eq_true rfl) (fun p e s m args below meth c C hr hlocks hname po hpo => ?_)
  have C : Cx p s m args c cX3_init 1 RX3 G := C
  refine V.hp (σ2 := (RW σ h0 [(.inr (3, [.null, .null, .null]))])) (RW_cons hc0 (RW_nil _ _)).symm ?_
  refine r_aload_n C dX3_init_0 rfl 0 rfl ?_
  refine r_objInit C wM_X3_3 wI_objectInit wC_objectInit (by decide) dX3_init_1 (by decide) (by decide) ?_
  refine r_aload_n C dX3_init_4 rfl 0 rfl ?_
  refine r_bipush (v := nI 7) C dX3_init_5 (by decide) ?_
  refine r_newarrR C 3 rfl wK_X3_9 (by decide) (by decide) (Nat.le_of_ble_eq_true rfl) (Nat.le_of_ble_eq_true rfl) dX3_init_7 ?_
  refine V.eq (σ2 := (hU (RW σ h0 [(.inr (3, [.null, .null, .null]))]) (h0 + 1) (aR 3 G 7 (fun _ => none)))) (n2 := h0 + 2) rfl rfl rfl rfl ?_
  refine V.hp (σ2 := (RW σ h0 [(.inr (3, [.null, .null, .null])), (aR 3 G 7 (fun _ => none))])) (RW_snoc (m := 1) rfl rfl) ?_
  refine r_putF (Cn := RX3) (T := TX3) (N := 3) (fs2 := [.ref (h0 + 1), .null, .null]) C inlX3 tyX3 tyX3_ok nmX3 (RW_at0 rfl) rfl 0 (by decide) wF_X3_11 (fun _ h => h) rfl hname rfl (tyX3_ok 0 (by decide)) rfl rfl (Nat.le_of_ble_eq_true rfl) rfl dX3_init_10 ?_
  refine V.hp (σ2 := (RW σ h0 [(.inr (3, [.ref (h0 + 1), .null, .null])), (aR 3 G 7 (fun _ => none))])) (RW_set0 (Nat.le_of_ble_eq_true rfl) rfl) ?_
  refine r_aload_n C dX3_init_13 rfl 0 rfl ?_
  refine r_bipush (v := nI 6) C dX3_init_14 (by decide) ?_
  refine r_newarrR C 3 rfl wK_X3_9 (by decide) (by decide) (Nat.le_of_ble_eq_true rfl) (Nat.le_of_ble_eq_true rfl) dX3_init_16 ?_
  refine V.eq (σ2 := (hU (RW σ h0 [(.inr (3, [.ref (h0 + 1), .null, .null])), (aR 3 G 7 (fun _ => none))]) (h0 + 2) (aR 3 G 6 (fun _ => none)))) (n2 := h0 + 3) rfl rfl rfl rfl ?_
  refine V.hp (σ2 := (RW σ h0 [(.inr (3, [.ref (h0 + 1), .null, .null])), (aR 3 G 7 (fun _ => none)), (aR 3 G 6 (fun _ => none))])) (RW_snoc (m := 2) rfl rfl) ?_
  refine r_putF (Cn := RX3) (T := TX3) (N := 3) (fs2 := [.ref (h0 + 1), .ref (h0 + 2), .null]) C inlX3 tyX3 tyX3_ok nmX3 (RW_at0 rfl) rfl 1 (by decide) wF_X3_17 (fun _ h => h) rfl hname rfl (tyX3_ok 1 (by decide)) rfl rfl (Nat.le_of_ble_eq_true rfl) rfl dX3_init_19 ?_
  refine V.hp (σ2 := (RW σ h0 [(.inr (3, [.ref (h0 + 1), .ref (h0 + 2), .null])), (aR 3 G 7 (fun _ => none)), (aR 3 G 6 (fun _ => none))])) (RW_set0 (Nat.le_of_ble_eq_true rfl) rfl) ?_
  refine r_aload_n C dX3_init_22 rfl 0 rfl ?_
  refine r_sipush (v := nI 616) C dX3_init_23 (by decide) ?_
  refine r_newarrR C 4 rfl wK_X3_20 (by decide) (by decide) (Nat.le_of_ble_eq_true rfl) (Nat.le_of_ble_eq_true rfl) dX3_init_26 ?_
  refine V.eq (σ2 := (hU (RW σ h0 [(.inr (3, [.ref (h0 + 1), .ref (h0 + 2), .null])), (aR 3 G 7 (fun _ => none)), (aR 3 G 6 (fun _ => none))]) (h0 + 3) (aR 4 G 616 (fun _ => none)))) (n2 := h0 + 4) rfl rfl rfl rfl ?_
  refine V.hp (σ2 := (RW σ h0 [(.inr (3, [.ref (h0 + 1), .ref (h0 + 2), .null])), (aR 3 G 7 (fun _ => none)), (aR 3 G 6 (fun _ => none)), (aR 4 G 616 (fun _ => none))])) (RW_snoc (m := 3) rfl rfl) ?_
  refine r_putF (Cn := RX3) (T := TX3) (N := 3) (fs2 := [.ref (h0 + 1), .ref (h0 + 2), .ref (h0 + 3)]) C inlX3 tyX3 tyX3_ok nmX3 (RW_at0 rfl) rfl 2 (by decide) wF_X3_22 (fun _ h => h) rfl hname rfl (tyX3_ok 2 (by decide)) rfl rfl (Nat.le_of_ble_eq_true rfl) rfl dX3_init_29 ?_
  refine V.hp (σ2 := (RW σ h0 [(.inr (3, [.ref (h0 + 1), .ref (h0 + 2), .ref (h0 + 3)])), (aR 3 G 7 (fun _ => none)), (aR 3 G 6 (fun _ => none)), (aR 4 G 616 (fun _ => none))])) (RW_set0 (Nat.le_of_ble_eq_true rfl) rfl) ?_
  exact r_vret C hr hlocks (Nat.le_of_ble_eq_true rfl) (Nat.le_of_ble_eq_true rfl) dX3_init_32 (hpo _ _ _ ⟨rfl, rfl, rfl⟩)

abbrev rm_X3_isSided : Room := { frames := 0, cells := 0, slots := 0, locals := 0 }
set_option maxRecDepth 100000 in
set_option maxHeartbeats 4000000 in
theorem c_X3_isSided {l : Launch} {G : gG} {n : Nat} {σ : gS} {kd : Nat}  (hkd : kd < 4) : GM l G yX3_isSided cX3_isSided 1 (some .boolean) rm_X3_isSided n σ [.int (nI kd)] (fun rv n2 σ2 => some (.int (bI (sid kd))) = rv ∧ n = n2 ∧ σ = σ2) := by
  refine GM.intro (by decide +kernel) (Nat.le_of_ble_eq_true rfl) (fun p e s m args below meth c C hr hlocks hname po hpo => ?_)
  have C : Cx p s m args c cX3_isSided 1 RX3 G := C
  refine r_iload_n C dX3_isSided_0 rfl 0 rfl ?_
  refine r_iconst (v := nI 1) C dX3_isSided_1 (by decide) ?_
  refine r_icmp_eqN (tgt := 10) C dX3_isSided_2 (by decide) (by omega) (by decide) (fun c2 => ?_) (fun c2 => ?_)
  · refine r_iconst (v := nI 1) C dX3_isSided_10 (by decide) ?_
    refine r_goto (tgt := 15) C dX3_isSided_11 (by decide) ?_
    exact r_zret C (by decide) hr hlocks (Nat.le_of_ble_eq_true rfl) (Nat.le_of_ble_eq_true rfl) dX3_isSided_15 (hpo _ _ _ ⟨by first | exact bI_t (sid_t (by omega)) | exact bI_f (sid_f hkd (by omega)), rfl, rfl⟩)
  · refine r_iload_n C dX3_isSided_5 rfl 0 rfl ?_
    refine r_iconst (v := nI 3) C dX3_isSided_6 (by decide) ?_
    refine r_icmp_neN (tgt := 14) C dX3_isSided_7 (by decide) (by omega) (by decide) (fun c7 => ?_) (fun c7 => ?_)
    · refine r_iconst (v := nI 0) C dX3_isSided_14 (by decide) ?_
      exact r_zret C (by decide) hr hlocks (Nat.le_of_ble_eq_true rfl) (Nat.le_of_ble_eq_true rfl) dX3_isSided_15 (hpo _ _ _ ⟨by first | exact bI_t (sid_t (by omega)) | exact bI_f (sid_f hkd (by omega)), rfl, rfl⟩)
    · refine r_iconst (v := nI 1) C dX3_isSided_10 (by decide) ?_
      refine r_goto (tgt := 15) C dX3_isSided_11 (by decide) ?_
      exact r_zret C (by decide) hr hlocks (Nat.le_of_ble_eq_true rfl) (Nat.le_of_ble_eq_true rfl) dX3_isSided_15 (hpo _ _ _ ⟨by first | exact bI_t (sid_t (by omega)) | exact bI_f (sid_f hkd (by omega)), rfl, rfl⟩)

abbrev rm_X3_mostCakes : Room := { frames := 1, cells := 0, slots := 0, locals := 20 }
set_option maxRecDepth 100000 in
set_option maxHeartbeats 4000000 in
theorem c_X3_mostCakes {l : Launch} {G : gG} {n : Nat} {σ : gS} {kd : Nat}  (hkd : kd < 4) : GM l G yX3_mostCakes cX3_mostCakes 1 (some .int) rm_X3_mostCakes n σ [.int (nI kd)] (fun rv n2 σ2 => some (.int (nI (if sid kd = true then 5 else 6))) = rv ∧ n = n2 ∧ σ = σ2) := by
  refine GM.intro (by decide +kernel) (Nat.le_of_ble_eq_true rfl) (fun p e s m args below meth c C hr hlocks hname po hpo => ?_)
  have C : Cx p s m args c cX3_mostCakes 1 RX3 G := C
  refine r_iload_n C dX3_mostCakes_0 rfl 0 rfl ?_
  refine r_callS (As := [.int (nI kd)]) C (c_X3_isSided (kd := kd)  (by first | assumption | omega)) wM_X3_30 wS_X3_isSided wN_X3 wC_X3_isSided hd_X3_isSided ⟨Nat.le_of_ble_eq_true rfl, Nat.le_of_ble_eq_true rfl⟩ rfl rfl (Nat.le_of_ble_eq_true rfl) dX3_mostCakes_1 ⟨(Nat.le_of_ble_eq_true rfl), (Nat.le_of_ble_eq_true rfl)⟩ (fun rv n2 σ2 hp => ?_)
  obtain ⟨rfl, rfl, rfl⟩ := hp
  refine V.eq (σ2 := σ) (n2 := n) (st2 := [.int (bI (sid kd))]) rfl rfl rfl rfl ?_
  refine r_if_eqB (tgt := 11) C dX3_mostCakes_4 (by decide) (fun c4 => ?_) (fun c4 => ?_)
  · refine r_bipush (v := nI 6) C dX3_mostCakes_11 (by decide) ?_
    exact r_iret C hr hlocks (Nat.le_of_ble_eq_true rfl) (Nat.le_of_ble_eq_true rfl) dX3_mostCakes_13 (hpo _ _ _ ⟨by first | (rw [if_pos c4]; done) | (rw [if_neg (by rw [c4]; decide)]; done), rfl, rfl⟩)
  · refine r_iconst (v := nI 5) C dX3_mostCakes_7 (by decide) ?_
    refine r_goto (tgt := 13) C dX3_mostCakes_8 (by decide) ?_
    exact r_iret C hr hlocks (Nat.le_of_ble_eq_true rfl) (Nat.le_of_ble_eq_true rfl) dX3_mostCakes_13 (hpo _ _ _ ⟨by first | (rw [if_pos c4]; done) | (rw [if_neg (by rw [c4]; decide)]; done), rfl, rfl⟩)

abbrev rm_X3_layouts_k : Room := { frames := 0, cells := 0, slots := 0, locals := 0 }
set_option maxRecDepth 100000 in
set_option maxHeartbeats 4000000 in
theorem c_X3_layouts_k {l : Launch} {G : gG} {n : Nat} {σ : gS} {h0 N ka ln : Nat} {sb : Bool} {fk : Nat → Option Nat} {la : Nat} (hc0 : σ h0 = some (.inr (3, [.ref (h0 + 1), .ref (h0 + 2), .ref (h0 + 3)]))) (hc1 : σ ka = some (aR 3 G ln fk)) (hka : ka = if sb = true then h0 + 2 else h0 + 1) (hln : N < ln ∧ ln < 100) (hfk : fk N = some la) : GM l G yX3_layouts cX3_layouts 4 (some (.object "TurnTops$Layouts")) rm_X3_layouts_k n σ [.ref h0, .int (nI N), .int (bI sb)] (fun rv n2 σ2 => some (.ref la) = rv ∧ n = n2 ∧ σ = σ2) := by
  refine GM.intro (by decide +kernel) (Nat.le_of_ble_eq_true rfl) (fun p e s m args below meth c C hr hlocks hname po hpo => ?_)
  have C : Cx p s m args c cX3_layouts 4 RX3 G := C
  refine r_iload_n C dX3_layouts_0 rfl 2 rfl ?_
  have L15 : V p l e rm_X3_layouts_k s m args below meth c G 4 (MQ below (gQ G po) args s rm_X3_layouts_k.cells rm_X3_layouts_k.slots (gF G)) 0 0 n σ 15 [(0, .ref h0), (1, .int (nI N)), (2, .int (bI sb))] [.ref ka] := by
    refine r_astore_n (lv2 := [(3, .ref ka), (0, .ref h0), (1, .int (nI N)), (2, .int (bI sb))]) C dX3_layouts_15 rfl (by decide) rfl ?_
    refine r_iload_n C dX3_layouts_16 rfl 2 rfl ?_
    refine r_if_ltN C dX3_layouts_17 (tgt := 26) (by decide) (by omega) ?_
    refine r_iload_n C dX3_layouts_20 rfl 2 rfl ?_
    refine r_aload_n C dX3_layouts_21 rfl 0 rfl ?_
    refine r_alenR C 3 hc1 rfl dX3_layouts_22 ?_
    refine r_icmp_ltN (tgt := 28) C dX3_layouts_23 (by decide) (by omega) (by omega) (fun c23 => ?_) (fun c23 => ?_)
    · refine r_aload_n C dX3_layouts_28 rfl 0 rfl ?_
      refine r_iload_n C dX3_layouts_29 rfl 2 rfl ?_
      refine r_aald C 3 hc1 rfl (by omega) (by omega) dX3_layouts_30 ?_
      refine V.eq (st2 := [.ref la]) rfl rfl rfl (by rw [hfk]; rfl) ?_
      refine r_ifnonnull (tgt := 46) C dX3_layouts_31 (by decide) ?_
      refine r_aload_n C dX3_layouts_46 rfl 0 rfl ?_
      refine r_iload_n C dX3_layouts_47 rfl 2 rfl ?_
      refine r_aald C 3 hc1 rfl (by omega) (by omega) dX3_layouts_48 ?_
      refine V.eq (st2 := [.ref la]) rfl rfl rfl (by rw [hfk]; rfl) ?_
      exact r_aret C (Or.inl ⟨_, rfl⟩) (Or.inr ⟨_, rfl⟩) hr hlocks (Nat.le_of_ble_eq_true rfl) (Nat.le_of_ble_eq_true rfl) dX3_layouts_49 (hpo _ _ _ ⟨rfl, rfl, rfl⟩)
    · exact absurd c23 (by omega)
  refine r_if_eqB (tgt := 11) C dX3_layouts_1 (by decide) (fun c1 => ?_) (fun c1 => ?_)
  · refine r_aload_n C dX3_layouts_11 rfl 0 rfl ?_
    refine r_get (Cn := RX3) (T := TX3) (N := 3) (v := .ref (h0 + 1)) C inlX3 hc0 rfl 0 (by decide) wF_X3_11 (fun _ h => h) rfl dX3_layouts_12 ?_
    refine V.eq (σ2 := σ) (lv2 := [(0, .ref h0), (1, .int (nI N)), (2, .int (bI sb))]) (st2 := [.ref ka]) rfl rfl rfl (by rw [(show h0 + 1 = ka from by first | (rw [hka, if_pos c1]; done) | (rw [hka, if_neg (by rw [c1]; decide)]; done))]) ?_
    exact L15  
  · refine r_aload_n C dX3_layouts_4 rfl 0 rfl ?_
    refine r_get (Cn := RX3) (T := TX3) (N := 3) (v := .ref (h0 + 2)) C inlX3 hc0 rfl 1 (by decide) wF_X3_17 (fun _ h => h) rfl dX3_layouts_5 ?_
    refine r_goto (tgt := 15) C dX3_layouts_8 (by decide) ?_
    refine V.eq (σ2 := σ) (lv2 := [(0, .ref h0), (1, .int (nI N)), (2, .int (bI sb))]) (st2 := [.ref ka]) rfl rfl rfl (by rw [(show h0 + 2 = ka from by first | (rw [hka, if_pos c1]; done) | (rw [hka, if_neg (by rw [c1]; decide)]; done))]) ?_
    exact L15  

abbrev rm_X3_layouts_n : Room := { frames := 9, cells := 5, slots := 28089, locals := 236 }
set_option maxRecDepth 100000 in
set_option maxHeartbeats 4000000 in
theorem c_X3_layouts_n {l : Launch} {G : gG} {n : Nat} {σ : gS} {h0 N ka ln : Nat} {sb : Bool} {fk : Nat → Option Nat} (hc0 : σ h0 = some (.inr (3, [.ref (h0 + 1), .ref (h0 + 2), .ref (h0 + 3)]))) (hc1 : σ ka = some (aR 3 G ln fk)) (hL : LOK sb N) (hka : ka = if sb = true then h0 + 2 else h0 + 1) (hln : N < ln ∧ ln < 100) (hfk : fk N = none) (hap : h0 + 4 ≤ n) (hap2 : ka < n) : GM l G yX3_layouts cX3_layouts 4 (some (.object "TurnTops$Layouts")) rm_X3_layouts_n n σ [.ref h0, .int (nI N), .int (bI sb)] (fun rv n2 σ2 => some (.ref n) = rv ∧ n + 5 = n2 ∧ ∃ (cfl : Nat) (g1 : Nat → Int32) (g2 : Nat → Int32) (g3 : Nat → Int32) (g4 : Nat → Int32), (hU (RW σ n [(.inr (1, [.int (nI N), .int (nI (rR sb N)), .int (nI (sbN sb N)), .int (nI (sm sb N - 1)), .ref (n + 1), .ref (n + 2), .ref (n + 3), .ref (n + 4)])), (aI G (fac N) g1), (aI G (fac N * N) g2), (aI G (rR sb N * N) g3), (aI G (rR sb N) g4)]) ka (aR 3 G ln (va_up fk N (some n)))) = σ2 ∧ (∀ o, o < fac N → g1 o = nI (cd N o)) ∧ (∀ o, o < fac N → ∀ j, j < N → g2 (o * N + j) = nI (sz N o j)) ∧ (∀ r, r < rR sb N → ∀ k, 1 ≤ k → k ≤ N → g3 (r * N + k - 1) = nI (nx sb N r k)) ∧ (∀ r, r < rR sb N → g4 r = nI (jw sb N r))) := by
  refine GM.intro (by decide +kernel) (Nat.le_of_ble_eq_true rfl) (fun p e s m args below meth c C hr hlocks hname po hpo => ?_)
  have C : Cx p s m args c cX3_layouts 4 RX3 G := C
  refine r_iload_n C dX3_layouts_0 rfl 2 rfl ?_
  have L15 : V p l e rm_X3_layouts_n s m args below meth c G 4 (MQ below (gQ G po) args s rm_X3_layouts_n.cells rm_X3_layouts_n.slots (gF G)) 0 0 n σ 15 [(0, .ref h0), (1, .int (nI N)), (2, .int (bI sb))] [.ref ka] := by
    refine r_astore_n (lv2 := [(3, .ref ka), (0, .ref h0), (1, .int (nI N)), (2, .int (bI sb))]) C dX3_layouts_15 rfl (by decide) rfl ?_
    refine r_iload_n C dX3_layouts_16 rfl 2 rfl ?_
    refine r_if_ltN C dX3_layouts_17 (tgt := 26) (by decide) (by omega) ?_
    refine r_iload_n C dX3_layouts_20 rfl 2 rfl ?_
    refine r_aload_n C dX3_layouts_21 rfl 0 rfl ?_
    refine r_alenR C 3 hc1 rfl dX3_layouts_22 ?_
    refine r_icmp_ltN (tgt := 28) C dX3_layouts_23 (by decide) (by omega) (by omega) (fun c23 => ?_) (fun c23 => ?_)
    · refine r_aload_n C dX3_layouts_28 rfl 0 rfl ?_
      refine r_iload_n C dX3_layouts_29 rfl 2 rfl ?_
      refine r_aald C 3 hc1 rfl (by omega) (by omega) dX3_layouts_30 ?_
      refine V.eq (st2 := [.null]) rfl rfl rfl (by rw [hfk]; rfl) ?_
      refine r_ifnonnullN C dX3_layouts_31 ?_
      refine r_aload_n C dX3_layouts_34 rfl 0 rfl ?_
      refine r_iload_n C dX3_layouts_35 rfl 2 rfl ?_
      refine r_new (fs := [.int (nI 0), .int (nI 0), .int (nI 0), .int (nI 0), .null, .null, .null, .null]) C inlX1 tyX1 tyX1_ok wK_X3_9 wB_X1 wN_X1 (ci := 1) rfl (by decide) (Nat.le_of_ble_eq_true rfl) (Nat.le_of_ble_eq_true rfl) dX3_layouts_36 ?_
      refine V.eq (σ2 := (hU σ n (.inr (1, [.int (nI 0), .int (nI 0), .int (nI 0), .int (nI 0), .null, .null, .null, .null])))) (n2 := n + 1) rfl rfl rfl rfl ?_
      refine V.hp (σ2 := (RW σ n [(.inr (1, [.int (nI 0), .int (nI 0), .int (nI 0), .int (nI 0), .null, .null, .null, .null]))])) (RW_one _ _ _) ?_
      refine r_dup C dX3_layouts_39 rfl ?_
      refine r_iload_n C dX3_layouts_40 rfl 2 rfl ?_
      refine r_iload_n C dX3_layouts_41 rfl 3 rfl ?_
      refine r_callI (As := [.int (nI N), .int (bI sb)]) C (c_X1_init (la := n) (N := N) (sb := sb) (RW_at0 rfl) (by first | assumption | omega)) wM_X3_41 wI_X1_init wN_X1 wC_X1_init rfl hd_X1_init ⟨Nat.le_of_ble_eq_true rfl, Nat.le_of_ble_eq_true rfl⟩ rfl rfl (Nat.le_of_ble_eq_true rfl) dX3_layouts_42 ⟨(Nat.le_of_ble_eq_true rfl), (Nat.le_of_ble_eq_true rfl)⟩ (fun rv n2 σ2 hp => ?_)
      obtain ⟨rfl, rfl, cf9, q1, q2, q3, q4, rfl, hq1, hq2, hq3, hq4⟩ := hp
      refine V.eq (σ2 := (RW (RW σ n [(.inr (1, [.int (nI 0), .int (nI 0), .int (nI 0), .int (nI 0), .null, .null, .null, .null]))]) n [(.inr (1, [.int (nI N), .int (nI (rR sb N)), .int (nI (sbN sb N)), .int (nI (sm sb N - 1)), .ref (n + 1), .ref (n + 2), .ref (n + 3), .ref (n + 4)])), (aI G (fac N) q1), (aI G (fac N * N) q2), (aI G (rR sb N * N) q3), (aI G (rR sb N) q4)])) (n2 := n + 5) (st2 := [.ref n, .int (nI N), .ref ka]) rfl rfl rfl rfl ?_
      refine V.hp (σ2 := (RW σ n [(.inr (1, [.int (nI N), .int (nI (rR sb N)), .int (nI (sbN sb N)), .int (nI (sm sb N - 1)), .ref (n + 1), .ref (n + 2), .ref (n + 3), .ref (n + 4)])), (aI G (fac N) q1), (aI G (fac N * N) q2), (aI G (rR sb N * N) q3), (aI G (rR sb N) q4)])) (RW_over (Nat.le_of_ble_eq_true rfl)) ?_
      refine r_aast C 3 ((RW_ne (m := 5) rfl (by omega)).trans hc1) rfl (RW_at0 rfl) rfl (by omega) (by omega) dX3_layouts_45 ?_
      refine r_aload_n C dX3_layouts_46 rfl 0 rfl ?_
      refine r_iload_n C dX3_layouts_47 rfl 2 rfl ?_
      refine r_aald C 3 (hU_at _ _ _) rfl (by omega) (by omega) dX3_layouts_48 ?_
      refine V.eq (st2 := [.ref n]) rfl rfl rfl (by rw [va_up_s]; rfl) ?_
      exact r_aret C (Or.inl ⟨_, rfl⟩) (Or.inr ⟨_, rfl⟩) hr hlocks (Nat.le_of_ble_eq_true rfl) (Nat.le_of_ble_eq_true rfl) dX3_layouts_49 (hpo _ _ _ ⟨rfl, rfl, cf9, q1, q2, q3, q4, rfl, hq1, hq2, hq3, hq4⟩)
    · exact absurd c23 (by omega)
  refine r_if_eqB (tgt := 11) C dX3_layouts_1 (by decide) (fun c1 => ?_) (fun c1 => ?_)
  · refine r_aload_n C dX3_layouts_11 rfl 0 rfl ?_
    refine r_get (Cn := RX3) (T := TX3) (N := 3) (v := .ref (h0 + 1)) C inlX3 hc0 rfl 0 (by decide) wF_X3_11 (fun _ h => h) rfl dX3_layouts_12 ?_
    refine V.eq (σ2 := σ) (lv2 := [(0, .ref h0), (1, .int (nI N)), (2, .int (bI sb))]) (st2 := [.ref ka]) rfl rfl rfl (by rw [(show h0 + 1 = ka from by first | (rw [hka, if_pos c1]; done) | (rw [hka, if_neg (by rw [c1]; decide)]; done))]) ?_
    exact L15  
  · refine r_aload_n C dX3_layouts_4 rfl 0 rfl ?_
    refine r_get (Cn := RX3) (T := TX3) (N := 3) (v := .ref (h0 + 2)) C inlX3 hc0 rfl 1 (by decide) wF_X3_17 (fun _ h => h) rfl dX3_layouts_5 ?_
    refine r_goto (tgt := 15) C dX3_layouts_8 (by decide) ?_
    refine V.eq (σ2 := σ) (lv2 := [(0, .ref h0), (1, .int (nI N)), (2, .int (bI sb))]) (st2 := [.ref ka]) rfl rfl rfl (by rw [(show h0 + 2 = ka from by first | (rw [hka, if_pos c1]; done) | (rw [hka, if_neg (by rw [c1]; decide)]; done))]) ?_
    exact L15  

abbrev rm_X3_shape_x : Room := { frames := 0, cells := 0, slots := 0, locals := 0 }
set_option maxRecDepth 100000 in
set_option maxHeartbeats 4000000 in
theorem c_X3_shape_x {l : Launch} {G : gG} {n : Nat} {σ : gS} {h0 : Nat} {x y z : Int32}  (hbad : decide (nI 0 ≤ x ∧ x ≤ nI 3) = false) : GM l G yX3_shape cX3_shape 6 (some (.object "TurnTops$Shape")) rm_X3_shape_x n σ [.ref h0, .int x, .int y, .int z] (fun rv n2 σ2 => some (.null) = rv ∧ n = n2 ∧ σ = σ2) := by
  refine GM.intro (by decide +kernel) (Nat.le_of_ble_eq_true rfl) (fun p e s m args below meth c C hr hlocks hname po hpo => ?_)
  have C : Cx p s m args c cX3_shape 6 RX3 G := C
  refine r_iload_n C dX3_shape_0 rfl 1 rfl ?_
  refine r_if_lt (tgt := 22) C dX3_shape_1 (by decide) (fun c1 => ?_) (fun c1 => ?_)
  · refine r_null C dX3_shape_22 ?_
    exact r_aret C (Or.inl ⟨_, rfl⟩) (Or.inl rfl) hr hlocks (Nat.le_of_ble_eq_true rfl) (Nat.le_of_ble_eq_true rfl) dX3_shape_23 (hpo _ _ _ ⟨rfl, rfl, rfl⟩)
  · refine r_iload_n C dX3_shape_4 rfl 1 rfl ?_
    refine r_iconst (v := nI 3) C dX3_shape_5 (by decide) ?_
    refine r_icmp_gt (tgt := 22) C dX3_shape_6 (by decide) (fun c6 => ?_) (fun c6 => ?_)
    · refine r_null C dX3_shape_22 ?_
      exact r_aret C (Or.inl ⟨_, rfl⟩) (Or.inl rfl) hr hlocks (Nat.le_of_ble_eq_true rfl) (Nat.le_of_ble_eq_true rfl) dX3_shape_23 (hpo _ _ _ ⟨rfl, rfl, rfl⟩)
    · exact absurd ((in_3 (low := nI 0) (high := nI 3) c1 c6).symm.trans hbad) (by decide)

abbrev rm_X3_shape_c : Room := { frames := 2, cells := 0, slots := 0, locals := 40 }
set_option maxRecDepth 100000 in
set_option maxHeartbeats 4000000 in
theorem c_X3_shape_c {l : Launch} {G : gG} {n : Nat} {σ : gS} {h0 kd : Nat} {y z : Int32}  (hkd : kd < 4) (hbad : decide (nI 1 ≤ y ∧ y ≤ nI (if sid kd = true then 5 else 6)) = false) : GM l G yX3_shape cX3_shape 6 (some (.object "TurnTops$Shape")) rm_X3_shape_c n σ [.ref h0, .int (nI kd), .int y, .int z] (fun rv n2 σ2 => some (.null) = rv ∧ n = n2 ∧ σ = σ2) := by
  refine GM.intro (by decide +kernel) (Nat.le_of_ble_eq_true rfl) (fun p e s m args below meth c C hr hlocks hname po hpo => ?_)
  have C : Cx p s m args c cX3_shape 6 RX3 G := C
  have hmx : (if sid kd = true then 5 else 6) ≤ 6 := by split <;> omega
  refine r_iload_n C dX3_shape_0 rfl 1 rfl ?_
  refine r_if_ltN C dX3_shape_1 (tgt := 22) (by decide) (by omega) ?_
  refine r_iload_n C dX3_shape_4 rfl 1 rfl ?_
  refine r_iconst (v := nI 3) C dX3_shape_5 (by decide) ?_
  refine r_icmp_gtN (tgt := 22) C dX3_shape_6 (by decide) (by omega) (by decide) (fun c6 => ?_) (fun c6 => ?_)
  · exact absurd c6 (by omega)
  · refine r_iload_n C dX3_shape_9 rfl 2 rfl ?_
    refine r_iconst (v := nI 1) C dX3_shape_10 (by decide) ?_
    refine r_icmp_lt (tgt := 22) C dX3_shape_11 (by decide) (fun c11 => ?_) (fun c11 => ?_)
    · refine r_null C dX3_shape_22 ?_
      exact r_aret C (Or.inl ⟨_, rfl⟩) (Or.inl rfl) hr hlocks (Nat.le_of_ble_eq_true rfl) (Nat.le_of_ble_eq_true rfl) dX3_shape_23 (hpo _ _ _ ⟨rfl, rfl, rfl⟩)
    · refine r_iload_n C dX3_shape_14 rfl 2 rfl ?_
      refine r_iload_n C dX3_shape_15 rfl 1 rfl ?_
      refine r_callS (As := [.int (nI kd)]) C (c_X3_mostCakes (kd := kd)  (by first | assumption | omega)) wM_X3_26 wS_X3_mostCakes wN_X3 wC_X3_mostCakes hd_X3_mostCakes ⟨Nat.le_of_ble_eq_true rfl, Nat.le_of_ble_eq_true rfl⟩ rfl rfl (Nat.le_of_ble_eq_true rfl) dX3_shape_16 ⟨(Nat.le_of_ble_eq_true rfl), (Nat.le_of_ble_eq_true rfl)⟩ (fun rv n2 σ2 hp => ?_)
      obtain ⟨rfl, rfl, rfl⟩ := hp
      refine V.eq (σ2 := σ) (n2 := n) (st2 := [.int (nI (if sid kd = true then 5 else 6)), .int y]) rfl rfl rfl rfl ?_
      refine r_icmp_le (tgt := 24) C dX3_shape_19 (by decide) (fun c19 => ?_) (fun c19 => ?_)
      · exact absurd ((in_3 (low := nI 1) c11 (Int32.not_lt.mpr c19)).symm.trans hbad) (by decide)
      · refine r_null C dX3_shape_22 ?_
        exact r_aret C (Or.inl ⟨_, rfl⟩) (Or.inl rfl) hr hlocks (Nat.le_of_ble_eq_true rfl) (Nat.le_of_ble_eq_true rfl) dX3_shape_23 (hpo _ _ _ ⟨rfl, rfl, rfl⟩)

abbrev rm_X3_shape_s : Room := { frames := 2, cells := 0, slots := 0, locals := 40 }
set_option maxRecDepth 100000 in
set_option maxHeartbeats 4000000 in
theorem c_X3_shape_s {l : Launch} {G : gG} {n : Nat} {σ : gS} {h0 kd N : Nat} {z : Int32}  (hkd : kd < 4) (hN1 : 1 ≤ N) (hNx : N ≤ (if sid kd = true then 5 else 6)) (hbad : decide (nI (if kd = 3 then 1 else 0) ≤ z ∧ z ≤ nI (if kd = 3 then 21 else 0)) = false) : GM l G yX3_shape cX3_shape 6 (some (.object "TurnTops$Shape")) rm_X3_shape_s n σ [.ref h0, .int (nI kd), .int (nI N), .int z] (fun rv n2 σ2 => some (.null) = rv ∧ n = n2 ∧ σ = σ2) := by
  refine GM.intro (by decide +kernel) (Nat.le_of_ble_eq_true rfl) (fun p e s m args below meth c C hr hlocks hname po hpo => ?_)
  have C : Cx p s m args c cX3_shape 6 RX3 G := C
  have hmx : (if sid kd = true then 5 else 6) ≤ 6 := by split <;> omega
  refine r_iload_n C dX3_shape_0 rfl 1 rfl ?_
  refine r_if_ltN C dX3_shape_1 (tgt := 22) (by decide) (by omega) ?_
  refine r_iload_n C dX3_shape_4 rfl 1 rfl ?_
  refine r_iconst (v := nI 3) C dX3_shape_5 (by decide) ?_
  refine r_icmp_gtN (tgt := 22) C dX3_shape_6 (by decide) (by omega) (by decide) (fun c6 => ?_) (fun c6 => ?_)
  · exact absurd c6 (by omega)
  · refine r_iload_n C dX3_shape_9 rfl 2 rfl ?_
    refine r_iconst (v := nI 1) C dX3_shape_10 (by decide) ?_
    refine r_icmp_ltN (tgt := 22) C dX3_shape_11 (by decide) (by omega) (by decide) (fun c11 => ?_) (fun c11 => ?_)
    · exact absurd c11 (by omega)
    · refine r_iload_n C dX3_shape_14 rfl 2 rfl ?_
      refine r_iload_n C dX3_shape_15 rfl 1 rfl ?_
      refine r_callS (As := [.int (nI kd)]) C (c_X3_mostCakes (kd := kd)  (by first | assumption | omega)) wM_X3_26 wS_X3_mostCakes wN_X3 wC_X3_mostCakes hd_X3_mostCakes ⟨Nat.le_of_ble_eq_true rfl, Nat.le_of_ble_eq_true rfl⟩ rfl rfl (Nat.le_of_ble_eq_true rfl) dX3_shape_16 ⟨(Nat.le_of_ble_eq_true rfl), (Nat.le_of_ble_eq_true rfl)⟩ (fun rv n2 σ2 hp => ?_)
      obtain ⟨rfl, rfl, rfl⟩ := hp
      refine V.eq (σ2 := σ) (n2 := n) (st2 := [.int (nI (if sid kd = true then 5 else 6)), .int (nI N)]) rfl rfl rfl rfl ?_
      refine r_icmp_leN (tgt := 24) C dX3_shape_19 (by decide) (by omega) (by omega) (fun c19 => ?_) (fun c19 => ?_)
      · refine r_iload_n C dX3_shape_24 rfl 3 rfl ?_
        refine r_iload_n C dX3_shape_25 rfl 1 rfl ?_
        refine r_iconst (v := nI 3) C dX3_shape_26 (by decide) ?_
        have L35 : ∀ (lo : Nat), (lo = if kd = 3 then 1 else 0) → V p l e rm_X3_shape_s s m args below meth c G 6 (MQ below (gQ G po) args s rm_X3_shape_s.cells rm_X3_shape_s.slots (gF G)) 0 0 n σ 35 [(0, .ref h0), (1, .int (nI kd)), (2, .int (nI N)), (3, .int z)] [.int (nI lo), .int z] := by
          intro lo hlo
          have hl9 : lo ≤ 1 := by rw [hlo]; split <;> omega
          refine r_icmp_lt (tgt := 53) C dX3_shape_35 (by decide) (fun c35 => ?_) (fun c35 => ?_)
          · refine r_null C dX3_shape_53 ?_
            exact r_aret C (Or.inl ⟨_, rfl⟩) (Or.inl rfl) hr hlocks (Nat.le_of_ble_eq_true rfl) (Nat.le_of_ble_eq_true rfl) dX3_shape_54 (hpo _ _ _ ⟨rfl, rfl, rfl⟩)
          · refine r_iload_n C dX3_shape_38 rfl 3 rfl ?_
            refine r_iload_n C dX3_shape_39 rfl 1 rfl ?_
            refine r_iconst (v := nI 3) C dX3_shape_40 (by decide) ?_
            have L50 : ∀ (hi : Nat), (hi = if kd = 3 then 21 else 0) → V p l e rm_X3_shape_s s m args below meth c G 6 (MQ below (gQ G po) args s rm_X3_shape_s.cells rm_X3_shape_s.slots (gF G)) 0 0 n σ 50 [(0, .ref h0), (1, .int (nI kd)), (2, .int (nI N)), (3, .int z)] [.int (nI hi), .int z] := by
              intro hi hhi
              have hh9 : hi ≤ 21 := by rw [hhi]; split <;> omega
              refine r_icmp_le (tgt := 55) C dX3_shape_50 (by decide) (fun c50 => ?_) (fun c50 => ?_)
              · exact absurd ((in_3 (low := nI (if kd = 3 then 1 else 0)) (high := nI (if kd = 3 then 21 else 0)) (by rw [← hlo]; exact c35) (by rw [← hhi]; exact Int32.not_lt.mpr c50)).symm.trans hbad) (by decide)
              · refine r_null C dX3_shape_53 ?_
                exact r_aret C (Or.inl ⟨_, rfl⟩) (Or.inl rfl) hr hlocks (Nat.le_of_ble_eq_true rfl) (Nat.le_of_ble_eq_true rfl) dX3_shape_54 (hpo _ _ _ ⟨rfl, rfl, rfl⟩)
            refine r_icmp_neN (tgt := 49) C dX3_shape_41 (by decide) (by omega) (by decide) (fun c41 => ?_) (fun c41 => ?_)
            · refine r_iconst (v := nI 0) C dX3_shape_49 (by decide) ?_
              exact L50 0 (by first | (rw [if_pos c41]; done) | (rw [if_neg c41]; done))
            · refine r_bipush (v := nI 21) C dX3_shape_44 (by decide) ?_
              refine r_goto (tgt := 50) C dX3_shape_46 (by decide) ?_
              exact L50 21 (by first | (rw [if_pos c41]; done) | (rw [if_neg c41]; done))
        refine r_icmp_neN (tgt := 34) C dX3_shape_27 (by decide) (by omega) (by decide) (fun c27 => ?_) (fun c27 => ?_)
        · refine r_iconst (v := nI 0) C dX3_shape_34 (by decide) ?_
          exact L35 0 (by first | (rw [if_pos c27]; done) | (rw [if_neg c27]; done))
        · refine r_iconst (v := nI 1) C dX3_shape_30 (by decide) ?_
          refine r_goto (tgt := 35) C dX3_shape_31 (by decide) ?_
          exact L35 1 (by first | (rw [if_pos c27]; done) | (rw [if_neg c27]; done))
      · exact absurd hNx (by omega)

abbrev rm_X3_shape_kk : Room := { frames := 2, cells := 0, slots := 0, locals := 40 }
set_option maxRecDepth 100000 in
set_option maxHeartbeats 4000000 in
theorem c_X3_shape_kk {l : Launch} {G : gG} {n : Nat} {σ : gS} {h0 ka ln : Nat} {kd N sr : Nat} {fk fx : Nat → Option Nat} {la sa : Nat} (hc0 : σ h0 = some (.inr (3, [.ref (h0 + 1), .ref (h0 + 2), .ref (h0 + 3)]))) (hc1 : σ ka = some (aR 3 G ln fk)) (hc2 : σ (h0 + 3) = some (aR 4 G 616 fx)) (hso : shOK kd N sr) (hka : ka = if sid kd = true then h0 + 2 else h0 + 1) (hka2 : ka = h0 + 1 ∨ ka = h0 + 2) (hln : N < ln ∧ ln < 100) (hfk : fk N = some la) (hfx : fx (((kd * 7 + N) * 22) + sr) = some sa) : GM l G yX3_shape cX3_shape 6 (some (.object "TurnTops$Shape")) rm_X3_shape_kk n σ [.ref h0, .int (nI kd), .int (nI N), .int (nI sr)] (fun rv n2 σ2 => some (.ref sa) = rv ∧ n = n2 ∧ σ = σ2) := by
  refine GM.intro (by decide +kernel) (Nat.le_of_ble_eq_true rfl) (fun p e s m args below meth c C hr hlocks hname po hpo => ?_)
  have C : Cx p s m args c cX3_shape 6 RX3 G := C
  have hN6 := hso.N
  have hN1 := hso.2.1
  have hkd := hso.1
  have hsr := hso.sr
  have hNx := hso.2.2.1
  have hmx : (if sid kd = true then 5 else 6) ≤ 6 := by split <;> omega
  have hLL := hso.L
  refine r_iload_n C dX3_shape_0 rfl 1 rfl ?_
  refine r_if_ltN C dX3_shape_1 (tgt := 22) (by decide) (by omega) ?_
  refine r_iload_n C dX3_shape_4 rfl 1 rfl ?_
  refine r_iconst (v := nI 3) C dX3_shape_5 (by decide) ?_
  refine r_icmp_gtN (tgt := 22) C dX3_shape_6 (by decide) (by omega) (by decide) (fun c6 => ?_) (fun c6 => ?_)
  · exact absurd c6 (by omega)
  · refine r_iload_n C dX3_shape_9 rfl 2 rfl ?_
    refine r_iconst (v := nI 1) C dX3_shape_10 (by decide) ?_
    refine r_icmp_ltN (tgt := 22) C dX3_shape_11 (by decide) (by omega) (by decide) (fun c11 => ?_) (fun c11 => ?_)
    · exact absurd c11 (by omega)
    · refine r_iload_n C dX3_shape_14 rfl 2 rfl ?_
      refine r_iload_n C dX3_shape_15 rfl 1 rfl ?_
      refine r_callS (As := [.int (nI kd)]) C (c_X3_mostCakes (kd := kd)  (by first | assumption | omega)) wM_X3_26 wS_X3_mostCakes wN_X3 wC_X3_mostCakes hd_X3_mostCakes ⟨Nat.le_of_ble_eq_true rfl, Nat.le_of_ble_eq_true rfl⟩ rfl rfl (Nat.le_of_ble_eq_true rfl) dX3_shape_16 ⟨(Nat.le_of_ble_eq_true rfl), (Nat.le_of_ble_eq_true rfl)⟩ (fun rv n2 σ2 hp => ?_)
      obtain ⟨rfl, rfl, rfl⟩ := hp
      refine V.eq (σ2 := σ) (n2 := n) (st2 := [.int (nI (if sid kd = true then 5 else 6)), .int (nI N)]) rfl rfl rfl rfl ?_
      refine r_icmp_leN (tgt := 24) C dX3_shape_19 (by decide) (by omega) (by omega) (fun c19 => ?_) (fun c19 => ?_)
      · refine r_iload_n C dX3_shape_24 rfl 3 rfl ?_
        refine r_iload_n C dX3_shape_25 rfl 1 rfl ?_
        refine r_iconst (v := nI 3) C dX3_shape_26 (by decide) ?_
        have L35 : ∀ (lo : Nat), (lo = if kd = 3 then 1 else 0) → V p l e rm_X3_shape_kk s m args below meth c G 6 (MQ below (gQ G po) args s rm_X3_shape_kk.cells rm_X3_shape_kk.slots (gF G)) 0 0 n σ 35 [(0, .ref h0), (1, .int (nI kd)), (2, .int (nI N)), (3, .int (nI sr))] [.int (nI lo), .int (nI sr)] := by
          intro lo hlo
          have hl9 : lo ≤ 1 := by rw [hlo]; split <;> omega
          refine r_icmp_ltN (tgt := 53) C dX3_shape_35 (by decide) (by omega) (by omega) (fun c35 => ?_) (fun c35 => ?_)
          · exact absurd c35 (Nat.not_lt.mpr (sr_lo hso.2.2.2 hlo))
          · refine r_iload_n C dX3_shape_38 rfl 3 rfl ?_
            refine r_iload_n C dX3_shape_39 rfl 1 rfl ?_
            refine r_iconst (v := nI 3) C dX3_shape_40 (by decide) ?_
            have L50 : ∀ (hi : Nat), (hi = if kd = 3 then 21 else 0) → V p l e rm_X3_shape_kk s m args below meth c G 6 (MQ below (gQ G po) args s rm_X3_shape_kk.cells rm_X3_shape_kk.slots (gF G)) 0 0 n σ 50 [(0, .ref h0), (1, .int (nI kd)), (2, .int (nI N)), (3, .int (nI sr))] [.int (nI hi), .int (nI sr)] := by
              intro hi hhi
              have hh9 : hi ≤ 21 := by rw [hhi]; split <;> omega
              refine r_icmp_leN (tgt := 55) C dX3_shape_50 (by decide) (by omega) (by omega) (fun c50 => ?_) (fun c50 => ?_)
              · refine r_aload_n C dX3_shape_55 rfl 0 rfl ?_
                refine r_iload_n C dX3_shape_56 rfl 2 rfl ?_
                refine r_iload_n C dX3_shape_57 rfl 1 rfl ?_
                refine r_callS (As := [.int (nI kd)]) C (c_X3_isSided (kd := kd)  (by first | assumption | omega)) wM_X3_30 wS_X3_isSided wN_X3 wC_X3_isSided hd_X3_isSided ⟨Nat.le_of_ble_eq_true rfl, Nat.le_of_ble_eq_true rfl⟩ rfl rfl (Nat.le_of_ble_eq_true rfl) dX3_shape_58 ⟨(Nat.le_of_ble_eq_true rfl), (Nat.le_of_ble_eq_true rfl)⟩ (fun rv n2 σ2 hp => ?_)
                obtain ⟨rfl, rfl, rfl⟩ := hp
                refine V.eq (σ2 := σ) (n2 := n) (st2 := [.int (bI (sid kd)), .int (nI N), .ref h0]) rfl rfl rfl rfl ?_
                refine r_callV (As := [.int (nI N), .int (bI (sid kd))]) C (c_X3_layouts_k (h0 := h0) (N := N) (ka := ka) (ln := ln) (sb := sid kd) (fk := fk) (la := la) hc0 hc1 (by first | assumption | omega) (by first | assumption | omega) (by first | assumption | omega)) wM_X3_34 wI_X3_layouts wN_X3 wC_X3_layouts wV_X3_layouts hd_X3_layouts ⟨Nat.le_of_ble_eq_true rfl, Nat.le_of_ble_eq_true rfl⟩ rfl hc0 rfl rfl (Nat.le_of_ble_eq_true rfl) dX3_shape_61 ⟨(Nat.le_of_ble_eq_true rfl), (Nat.le_of_ble_eq_true rfl)⟩ (fun rv n2 σ2 hp => ?_)
                obtain ⟨rfl, rfl, rfl⟩ := hp
                refine V.eq (σ2 := σ) (n2 := n) (st2 := [.ref la]) rfl rfl rfl rfl ?_
                refine r_astore (lv2 := [(4, .ref la), (0, .ref h0), (1, .int (nI kd)), (2, .int (nI N)), (3, .int (nI sr))]) C dX3_shape_64 (by decide) rfl ?_
                refine r_iload_n C dX3_shape_66 rfl 2 rfl ?_
                refine r_bipush (v := nI 7) C dX3_shape_67 (by decide) ?_
                refine r_imulN C dX3_shape_69 ?_
                refine r_iload_n C dX3_shape_70 rfl 3 rfl ?_
                refine r_iaddN C dX3_shape_71 ?_
                refine r_bipush (v := nI 22) C dX3_shape_72 (by decide) ?_
                refine r_imulN C dX3_shape_74 ?_
                refine r_iload_n C dX3_shape_75 rfl 4 rfl ?_
                refine r_iaddN C dX3_shape_76 ?_
                refine r_istore (lv2 := [(5, .int (nI (((kd * 7 + N) * 22) + sr))), (4, .ref la), (0, .ref h0), (1, .int (nI kd)), (2, .int (nI N)), (3, .int (nI sr))]) C dX3_shape_77 (by decide) rfl ?_
                refine r_aload C dX3_shape_79 1 rfl ?_
                refine r_ifnull C dX3_shape_81 ?_
                refine r_iload C dX3_shape_84 0 rfl ?_
                refine r_if_ltN C dX3_shape_86 (tgt := 99) (by decide) (by omega) ?_
                refine r_iload C dX3_shape_89 0 rfl ?_
                refine r_aload_n C dX3_shape_91 rfl 2 rfl ?_
                refine r_get (Cn := RX3) (T := TX3) (N := 3) (v := .ref (h0 + 3)) C inlX3 hc0 rfl 2 (by decide) wF_X3_22 (fun _ h => h) rfl dX3_shape_92 ?_
                refine r_alenR C 4 hc2 rfl dX3_shape_95 ?_
                refine r_icmp_ltN (tgt := 101) C dX3_shape_96 (by decide) (by omega) (by decide) (fun c96 => ?_) (fun c96 => ?_)
                · refine r_aload_n C dX3_shape_101 rfl 2 rfl ?_
                  refine r_get (Cn := RX3) (T := TX3) (N := 3) (v := .ref (h0 + 3)) C inlX3 hc0 rfl 2 (by decide) wF_X3_22 (fun _ h => h) rfl dX3_shape_102 ?_
                  refine r_iload C dX3_shape_105 0 rfl ?_
                  refine r_aald C 4 hc2 rfl (by omega) (by decide) dX3_shape_107 ?_
                  refine V.eq (st2 := [.ref sa]) rfl rfl rfl (by rw [hfx]; rfl) ?_
                  refine r_ifnonnull (tgt := 129) C dX3_shape_108 (by decide) ?_
                  refine r_aload_n C dX3_shape_129 rfl 2 rfl ?_
                  refine r_get (Cn := RX3) (T := TX3) (N := 3) (v := .ref (h0 + 3)) C inlX3 hc0 rfl 2 (by decide) wF_X3_22 (fun _ h => h) rfl dX3_shape_130 ?_
                  refine r_iload C dX3_shape_133 0 rfl ?_
                  refine r_aald C 4 hc2 rfl (by omega) (by decide) dX3_shape_135 ?_
                  refine V.eq (st2 := [.ref sa]) rfl rfl rfl (by rw [hfx]; rfl) ?_
                  exact r_aret C (Or.inl ⟨_, rfl⟩) (Or.inr ⟨_, rfl⟩) hr hlocks (Nat.le_of_ble_eq_true rfl) (Nat.le_of_ble_eq_true rfl) dX3_shape_136 (hpo _ _ _ ⟨rfl, rfl, rfl⟩)
                · exact absurd c96 (by omega)
              · exact absurd c50 (Nat.not_lt.mpr (sr_hi hso.2.2.2 hhi))
            refine r_icmp_neN (tgt := 49) C dX3_shape_41 (by decide) (by omega) (by decide) (fun c41 => ?_) (fun c41 => ?_)
            · refine r_iconst (v := nI 0) C dX3_shape_49 (by decide) ?_
              exact L50 0 (by first | (rw [if_pos c41]; done) | (rw [if_neg c41]; done))
            · refine r_bipush (v := nI 21) C dX3_shape_44 (by decide) ?_
              refine r_goto (tgt := 50) C dX3_shape_46 (by decide) ?_
              exact L50 21 (by first | (rw [if_pos c41]; done) | (rw [if_neg c41]; done))
        refine r_icmp_neN (tgt := 34) C dX3_shape_27 (by decide) (by omega) (by decide) (fun c27 => ?_) (fun c27 => ?_)
        · refine r_iconst (v := nI 0) C dX3_shape_34 (by decide) ?_
          exact L35 0 (by first | (rw [if_pos c27]; done) | (rw [if_neg c27]; done))
        · refine r_iconst (v := nI 1) C dX3_shape_30 (by decide) ?_
          refine r_goto (tgt := 35) C dX3_shape_31 (by decide) ?_
          exact L35 1 (by first | (rw [if_pos c27]; done) | (rw [if_neg c27]; done))
      · exact absurd hNx (by omega)

abbrev rm_X3_shape_kn : Room := { frames := 4, cells := 2, slots := 3846, locals := 104 }
set_option maxRecDepth 100000 in
set_option maxHeartbeats 4000000 in
theorem c_X3_shape_kn {l : Launch} {G : gG} {n : Nat} {σ : gS} {h0 ka ln : Nat} {kd N sr : Nat} {fk fx : Nat → Option Nat} {la cfl : Nat} {f2 : Nat → Int32} {f4 : Nat → Int32} (hc0 : σ h0 = some (.inr (3, [.ref (h0 + 1), .ref (h0 + 2), .ref (h0 + 3)]))) (hc1 : σ ka = some (aR 3 G ln fk)) (hc2 : σ (h0 + 3) = some (aR 4 G 616 fx)) (hc3 : σ la = some (.inr (1, [.int (nI N), .int (nI (rR (sid kd) N)), .int (nI (sbN (sid kd) N)), .int (nI (sm (sid kd) N - 1)), .ref (la + 1), .ref (la + 2), .ref (la + 3), .ref (la + 4)]))) (hc4 : σ (la + 2) = some (aI G (fac N * N) f2)) (hc5 : σ (la + 4) = some (aI G (rR (sid kd) N) f4)) (hso : shOK kd N sr) (hka : ka = if sid kd = true then h0 + 2 else h0 + 1) (hka2 : ka = h0 + 1 ∨ ka = h0 + 2) (hln : N < ln ∧ ln < 100) (hfk : fk N = some la) (hfx : fx (((kd * 7 + N) * 22) + sr) = none) (h2 : ∀ o, o < fac N → ∀ j, j < N → f2 (o * N + j) = nI (sz N o j)) (h4 : ∀ r, r < rR (sid kd) N → f4 r = nI (jw (sid kd) N r)) (hap : h0 + 4 ≤ n) (hap2 : la + 5 ≤ n) : GM l G yX3_shape cX3_shape 6 (some (.object "TurnTops$Shape")) rm_X3_shape_kn n σ [.ref h0, .int (nI kd), .int (nI N), .int (nI sr)] (fun rv n2 σ2 => some (.ref n) = rv ∧ n + 2 = n2 ∧ ∃ (g5 : Nat → Int32), (hU (RW σ n [(.inr (2, [.int (nI kd), .int (nI sr), .int (nI N), .ref la, .ref (n + 1), .null])), (aI G (rR (sid kd) N) g5)]) (h0 + 3) (aR 4 G 616 (va_up fx (((kd * 7 + N) * 22) + sr) (some n)))) = σ2 ∧ (∀ r, r < rR (sid kd) N → g5 r = nI (psR kd sr N r))) := by
  refine GM.intro (by decide +kernel) (Nat.le_of_ble_eq_true rfl) (fun p e s m args below meth c C hr hlocks hname po hpo => ?_)
  have C : Cx p s m args c cX3_shape 6 RX3 G := C
  have hN6 := hso.N
  have hN1 := hso.2.1
  have hkd := hso.1
  have hsr := hso.sr
  have hNx := hso.2.2.1
  have hmx : (if sid kd = true then 5 else 6) ≤ 6 := by split <;> omega
  have hLL := hso.L
  refine r_iload_n C dX3_shape_0 rfl 1 rfl ?_
  refine r_if_ltN C dX3_shape_1 (tgt := 22) (by decide) (by omega) ?_
  refine r_iload_n C dX3_shape_4 rfl 1 rfl ?_
  refine r_iconst (v := nI 3) C dX3_shape_5 (by decide) ?_
  refine r_icmp_gtN (tgt := 22) C dX3_shape_6 (by decide) (by omega) (by decide) (fun c6 => ?_) (fun c6 => ?_)
  · exact absurd c6 (by omega)
  · refine r_iload_n C dX3_shape_9 rfl 2 rfl ?_
    refine r_iconst (v := nI 1) C dX3_shape_10 (by decide) ?_
    refine r_icmp_ltN (tgt := 22) C dX3_shape_11 (by decide) (by omega) (by decide) (fun c11 => ?_) (fun c11 => ?_)
    · exact absurd c11 (by omega)
    · refine r_iload_n C dX3_shape_14 rfl 2 rfl ?_
      refine r_iload_n C dX3_shape_15 rfl 1 rfl ?_
      refine r_callS (As := [.int (nI kd)]) C (c_X3_mostCakes (kd := kd)  (by first | assumption | omega)) wM_X3_26 wS_X3_mostCakes wN_X3 wC_X3_mostCakes hd_X3_mostCakes ⟨Nat.le_of_ble_eq_true rfl, Nat.le_of_ble_eq_true rfl⟩ rfl rfl (Nat.le_of_ble_eq_true rfl) dX3_shape_16 ⟨(Nat.le_of_ble_eq_true rfl), (Nat.le_of_ble_eq_true rfl)⟩ (fun rv n2 σ2 hp => ?_)
      obtain ⟨rfl, rfl, rfl⟩ := hp
      refine V.eq (σ2 := σ) (n2 := n) (st2 := [.int (nI (if sid kd = true then 5 else 6)), .int (nI N)]) rfl rfl rfl rfl ?_
      refine r_icmp_leN (tgt := 24) C dX3_shape_19 (by decide) (by omega) (by omega) (fun c19 => ?_) (fun c19 => ?_)
      · refine r_iload_n C dX3_shape_24 rfl 3 rfl ?_
        refine r_iload_n C dX3_shape_25 rfl 1 rfl ?_
        refine r_iconst (v := nI 3) C dX3_shape_26 (by decide) ?_
        have L35 : ∀ (lo : Nat), (lo = if kd = 3 then 1 else 0) → V p l e rm_X3_shape_kn s m args below meth c G 6 (MQ below (gQ G po) args s rm_X3_shape_kn.cells rm_X3_shape_kn.slots (gF G)) 0 0 n σ 35 [(0, .ref h0), (1, .int (nI kd)), (2, .int (nI N)), (3, .int (nI sr))] [.int (nI lo), .int (nI sr)] := by
          intro lo hlo
          have hl9 : lo ≤ 1 := by rw [hlo]; split <;> omega
          refine r_icmp_ltN (tgt := 53) C dX3_shape_35 (by decide) (by omega) (by omega) (fun c35 => ?_) (fun c35 => ?_)
          · exact absurd c35 (Nat.not_lt.mpr (sr_lo hso.2.2.2 hlo))
          · refine r_iload_n C dX3_shape_38 rfl 3 rfl ?_
            refine r_iload_n C dX3_shape_39 rfl 1 rfl ?_
            refine r_iconst (v := nI 3) C dX3_shape_40 (by decide) ?_
            have L50 : ∀ (hi : Nat), (hi = if kd = 3 then 21 else 0) → V p l e rm_X3_shape_kn s m args below meth c G 6 (MQ below (gQ G po) args s rm_X3_shape_kn.cells rm_X3_shape_kn.slots (gF G)) 0 0 n σ 50 [(0, .ref h0), (1, .int (nI kd)), (2, .int (nI N)), (3, .int (nI sr))] [.int (nI hi), .int (nI sr)] := by
              intro hi hhi
              have hh9 : hi ≤ 21 := by rw [hhi]; split <;> omega
              refine r_icmp_leN (tgt := 55) C dX3_shape_50 (by decide) (by omega) (by omega) (fun c50 => ?_) (fun c50 => ?_)
              · refine r_aload_n C dX3_shape_55 rfl 0 rfl ?_
                refine r_iload_n C dX3_shape_56 rfl 2 rfl ?_
                refine r_iload_n C dX3_shape_57 rfl 1 rfl ?_
                refine r_callS (As := [.int (nI kd)]) C (c_X3_isSided (kd := kd)  (by first | assumption | omega)) wM_X3_30 wS_X3_isSided wN_X3 wC_X3_isSided hd_X3_isSided ⟨Nat.le_of_ble_eq_true rfl, Nat.le_of_ble_eq_true rfl⟩ rfl rfl (Nat.le_of_ble_eq_true rfl) dX3_shape_58 ⟨(Nat.le_of_ble_eq_true rfl), (Nat.le_of_ble_eq_true rfl)⟩ (fun rv n2 σ2 hp => ?_)
                obtain ⟨rfl, rfl, rfl⟩ := hp
                refine V.eq (σ2 := σ) (n2 := n) (st2 := [.int (bI (sid kd)), .int (nI N), .ref h0]) rfl rfl rfl rfl ?_
                refine r_callV (As := [.int (nI N), .int (bI (sid kd))]) C (c_X3_layouts_k (h0 := h0) (N := N) (ka := ka) (ln := ln) (sb := sid kd) (fk := fk) (la := la) hc0 hc1 (by first | assumption | omega) (by first | assumption | omega) (by first | assumption | omega)) wM_X3_34 wI_X3_layouts wN_X3 wC_X3_layouts wV_X3_layouts hd_X3_layouts ⟨Nat.le_of_ble_eq_true rfl, Nat.le_of_ble_eq_true rfl⟩ rfl hc0 rfl rfl (Nat.le_of_ble_eq_true rfl) dX3_shape_61 ⟨(Nat.le_of_ble_eq_true rfl), (Nat.le_of_ble_eq_true rfl)⟩ (fun rv n2 σ2 hp => ?_)
                obtain ⟨rfl, rfl, rfl⟩ := hp
                refine V.eq (σ2 := σ) (n2 := n) (st2 := [.ref la]) rfl rfl rfl rfl ?_
                refine r_astore (lv2 := [(4, .ref la), (0, .ref h0), (1, .int (nI kd)), (2, .int (nI N)), (3, .int (nI sr))]) C dX3_shape_64 (by decide) rfl ?_
                refine r_iload_n C dX3_shape_66 rfl 2 rfl ?_
                refine r_bipush (v := nI 7) C dX3_shape_67 (by decide) ?_
                refine r_imulN C dX3_shape_69 ?_
                refine r_iload_n C dX3_shape_70 rfl 3 rfl ?_
                refine r_iaddN C dX3_shape_71 ?_
                refine r_bipush (v := nI 22) C dX3_shape_72 (by decide) ?_
                refine r_imulN C dX3_shape_74 ?_
                refine r_iload_n C dX3_shape_75 rfl 4 rfl ?_
                refine r_iaddN C dX3_shape_76 ?_
                refine r_istore (lv2 := [(5, .int (nI (((kd * 7 + N) * 22) + sr))), (4, .ref la), (0, .ref h0), (1, .int (nI kd)), (2, .int (nI N)), (3, .int (nI sr))]) C dX3_shape_77 (by decide) rfl ?_
                refine r_aload C dX3_shape_79 1 rfl ?_
                refine r_ifnull C dX3_shape_81 ?_
                refine r_iload C dX3_shape_84 0 rfl ?_
                refine r_if_ltN C dX3_shape_86 (tgt := 99) (by decide) (by omega) ?_
                refine r_iload C dX3_shape_89 0 rfl ?_
                refine r_aload_n C dX3_shape_91 rfl 2 rfl ?_
                refine r_get (Cn := RX3) (T := TX3) (N := 3) (v := .ref (h0 + 3)) C inlX3 hc0 rfl 2 (by decide) wF_X3_22 (fun _ h => h) rfl dX3_shape_92 ?_
                refine r_alenR C 4 hc2 rfl dX3_shape_95 ?_
                refine r_icmp_ltN (tgt := 101) C dX3_shape_96 (by decide) (by omega) (by decide) (fun c96 => ?_) (fun c96 => ?_)
                · refine r_aload_n C dX3_shape_101 rfl 2 rfl ?_
                  refine r_get (Cn := RX3) (T := TX3) (N := 3) (v := .ref (h0 + 3)) C inlX3 hc0 rfl 2 (by decide) wF_X3_22 (fun _ h => h) rfl dX3_shape_102 ?_
                  refine r_iload C dX3_shape_105 0 rfl ?_
                  refine r_aald C 4 hc2 rfl (by omega) (by decide) dX3_shape_107 ?_
                  refine V.eq (st2 := [.null]) rfl rfl rfl (by rw [hfx]; rfl) ?_
                  refine r_ifnonnullN C dX3_shape_108 ?_
                  refine r_aload_n C dX3_shape_111 rfl 2 rfl ?_
                  refine r_get (Cn := RX3) (T := TX3) (N := 3) (v := .ref (h0 + 3)) C inlX3 hc0 rfl 2 (by decide) wF_X3_22 (fun _ h => h) rfl dX3_shape_112 ?_
                  refine r_iload C dX3_shape_115 0 rfl ?_
                  refine r_new (fs := [.int (nI 0), .int (nI 0), .int (nI 0), .null, .null, .null]) C inlX2 tyX2 tyX2_ok wK_X3_20 wB_X2 wN_X2 (ci := 2) rfl (by decide) (Nat.le_of_ble_eq_true rfl) (Nat.le_of_ble_eq_true rfl) dX3_shape_117 ?_
                  refine V.eq (σ2 := (hU σ n (.inr (2, [.int (nI 0), .int (nI 0), .int (nI 0), .null, .null, .null])))) (n2 := n + 1) rfl rfl rfl rfl ?_
                  refine V.hp (σ2 := (RW σ n [(.inr (2, [.int (nI 0), .int (nI 0), .int (nI 0), .null, .null, .null]))])) (RW_one _ _ _) ?_
                  refine r_dup C dX3_shape_120 rfl ?_
                  refine r_iload_n C dX3_shape_121 rfl 3 rfl ?_
                  refine r_iload_n C dX3_shape_122 rfl 5 rfl ?_
                  refine r_aload C dX3_shape_123 1 rfl ?_
                  refine r_callI (As := [.int (nI kd), .int (nI sr), .ref la]) C (c_X2_init (sa := n) (la := la) (kd := kd) (N := N) (sr := sr) (cfl := cfl) (f2 := f2) (f4 := f4) (RW_at0 rfl) ((RW_ne (m := 1) rfl (by omega)).trans hc3) ((RW_ne (m := 1) rfl (by omega)).trans hc4) ((RW_ne (m := 1) rfl (by omega)).trans hc5) (by first | assumption | omega) (by first | assumption | omega) (by first | assumption | omega) (by first | assumption | omega) (by first | assumption | omega) (by first | assumption | omega)) wM_X3_38 wI_X2_init wN_X2 wC_X2_init rfl hd_X2_init ⟨Nat.le_of_ble_eq_true rfl, Nat.le_of_ble_eq_true rfl⟩ rfl rfl (Nat.le_of_ble_eq_true rfl) dX3_shape_125 ⟨(Nat.le_of_ble_eq_true rfl), (Nat.le_of_ble_eq_true rfl)⟩ (fun rv n2 σ2 hp => ?_)
                  obtain ⟨rfl, rfl, q5, rfl, hq5⟩ := hp
                  refine V.eq (σ2 := (RW (RW σ n [(.inr (2, [.int (nI 0), .int (nI 0), .int (nI 0), .null, .null, .null]))]) n [(.inr (2, [.int (nI kd), .int (nI sr), .int (nI N), .ref la, .ref (n + 1), .null])), (aI G (rR (sid kd) N) q5)])) (n2 := n + 2) (st2 := [.ref n, .int (nI (((kd * 7 + N) * 22) + sr)), .ref (h0 + 3)]) rfl rfl rfl rfl ?_
                  refine V.hp (σ2 := (RW σ n [(.inr (2, [.int (nI kd), .int (nI sr), .int (nI N), .ref la, .ref (n + 1), .null])), (aI G (rR (sid kd) N) q5)])) (RW_over (Nat.le_of_ble_eq_true rfl)) ?_
                  refine r_aast C 4 ((RW_ne (m := 2) rfl (by omega)).trans hc2) rfl (RW_at0 rfl) rfl (by omega) (by decide) dX3_shape_128 ?_
                  refine r_aload_n C dX3_shape_129 rfl 2 rfl ?_
                  refine r_get (Cn := RX3) (T := TX3) (N := 3) (v := .ref (h0 + 3)) C inlX3 ((hU_ne (by omega)).trans ((RW_ne (m := 2) rfl (by omega)).trans hc0)) rfl 2 (by decide) wF_X3_22 (fun _ h => h) rfl dX3_shape_130 ?_
                  refine r_iload C dX3_shape_133 0 rfl ?_
                  refine r_aald C 4 (hU_at _ _ _) rfl (by omega) (by decide) dX3_shape_135 ?_
                  refine V.eq (st2 := [.ref n]) rfl rfl rfl (by rw [va_up_s]; rfl) ?_
                  exact r_aret C (Or.inl ⟨_, rfl⟩) (Or.inr ⟨_, rfl⟩) hr hlocks (Nat.le_of_ble_eq_true rfl) (Nat.le_of_ble_eq_true rfl) dX3_shape_136 (hpo _ _ _ ⟨rfl, rfl, q5, rfl, hq5⟩)
                · exact absurd c96 (by omega)
              · exact absurd c50 (Nat.not_lt.mpr (sr_hi hso.2.2.2 hhi))
            refine r_icmp_neN (tgt := 49) C dX3_shape_41 (by decide) (by omega) (by decide) (fun c41 => ?_) (fun c41 => ?_)
            · refine r_iconst (v := nI 0) C dX3_shape_49 (by decide) ?_
              exact L50 0 (by first | (rw [if_pos c41]; done) | (rw [if_neg c41]; done))
            · refine r_bipush (v := nI 21) C dX3_shape_44 (by decide) ?_
              refine r_goto (tgt := 50) C dX3_shape_46 (by decide) ?_
              exact L50 21 (by first | (rw [if_pos c41]; done) | (rw [if_neg c41]; done))
        refine r_icmp_neN (tgt := 34) C dX3_shape_27 (by decide) (by omega) (by decide) (fun c27 => ?_) (fun c27 => ?_)
        · refine r_iconst (v := nI 0) C dX3_shape_34 (by decide) ?_
          exact L35 0 (by first | (rw [if_pos c27]; done) | (rw [if_neg c27]; done))
        · refine r_iconst (v := nI 1) C dX3_shape_30 (by decide) ?_
          refine r_goto (tgt := 35) C dX3_shape_31 (by decide) ?_
          exact L35 1 (by first | (rw [if_pos c27]; done) | (rw [if_neg c27]; done))
      · exact absurd hNx (by omega)

abbrev rm_X3_shape_nn : Room := { frames := 10, cells := 7, slots := 31935, locals := 259 }
set_option maxRecDepth 100000 in
set_option maxHeartbeats 4000000 in
theorem c_X3_shape_nn {l : Launch} {G : gG} {n : Nat} {σ : gS} {h0 ka ln : Nat} {kd N sr : Nat} {fk fx : Nat → Option Nat} (hc0 : σ h0 = some (.inr (3, [.ref (h0 + 1), .ref (h0 + 2), .ref (h0 + 3)]))) (hc1 : σ ka = some (aR 3 G ln fk)) (hc2 : σ (h0 + 3) = some (aR 4 G 616 fx)) (hso : shOK kd N sr) (hka : ka = if sid kd = true then h0 + 2 else h0 + 1) (hka2 : ka = h0 + 1 ∨ ka = h0 + 2) (hln : N < ln ∧ ln < 100) (hfk : fk N = none) (hfx : fx (((kd * 7 + N) * 22) + sr) = none) (hap : h0 + 4 ≤ n) : GM l G yX3_shape cX3_shape 6 (some (.object "TurnTops$Shape")) rm_X3_shape_nn n σ [.ref h0, .int (nI kd), .int (nI N), .int (nI sr)] (fun rv n2 σ2 => some (.ref (n + 5)) = rv ∧ n + 7 = n2 ∧ ∃ (cfl : Nat) (g1 : Nat → Int32) (g2 : Nat → Int32) (g3 : Nat → Int32) (g4 : Nat → Int32) (g5 : Nat → Int32), (hU (RW (hU (RW σ n [(.inr (1, [.int (nI N), .int (nI (rR (sid kd) N)), .int (nI (sbN (sid kd) N)), .int (nI (sm (sid kd) N - 1)), .ref (n + 1), .ref (n + 2), .ref (n + 3), .ref (n + 4)])), (aI G (fac N) g1), (aI G (fac N * N) g2), (aI G (rR (sid kd) N * N) g3), (aI G (rR (sid kd) N) g4)]) ka (aR 3 G ln (va_up fk N (some n)))) (n + 5) [(.inr (2, [.int (nI kd), .int (nI sr), .int (nI N), .ref n, .ref (n + 6), .null])), (aI G (rR (sid kd) N) g5)]) (h0 + 3) (aR 4 G 616 (va_up fx (((kd * 7 + N) * 22) + sr) (some (n + 5))))) = σ2 ∧ (∀ o, o < fac N → g1 o = nI (cd N o)) ∧ (∀ o, o < fac N → ∀ j, j < N → g2 (o * N + j) = nI (sz N o j)) ∧ (∀ r, r < rR (sid kd) N → ∀ k, 1 ≤ k → k ≤ N → g3 (r * N + k - 1) = nI (nx (sid kd) N r k)) ∧ (∀ r, r < rR (sid kd) N → g4 r = nI (jw (sid kd) N r)) ∧ (∀ r, r < rR (sid kd) N → g5 r = nI (psR kd sr N r))) := by
  refine GM.intro (by decide +kernel) (Nat.le_of_ble_eq_true rfl) (fun p e s m args below meth c C hr hlocks hname po hpo => ?_)
  have C : Cx p s m args c cX3_shape 6 RX3 G := C
  have hN6 := hso.N
  have hN1 := hso.2.1
  have hkd := hso.1
  have hsr := hso.sr
  have hNx := hso.2.2.1
  have hmx : (if sid kd = true then 5 else 6) ≤ 6 := by split <;> omega
  have hLL := hso.L
  refine r_iload_n C dX3_shape_0 rfl 1 rfl ?_
  refine r_if_ltN C dX3_shape_1 (tgt := 22) (by decide) (by omega) ?_
  refine r_iload_n C dX3_shape_4 rfl 1 rfl ?_
  refine r_iconst (v := nI 3) C dX3_shape_5 (by decide) ?_
  refine r_icmp_gtN (tgt := 22) C dX3_shape_6 (by decide) (by omega) (by decide) (fun c6 => ?_) (fun c6 => ?_)
  · exact absurd c6 (by omega)
  · refine r_iload_n C dX3_shape_9 rfl 2 rfl ?_
    refine r_iconst (v := nI 1) C dX3_shape_10 (by decide) ?_
    refine r_icmp_ltN (tgt := 22) C dX3_shape_11 (by decide) (by omega) (by decide) (fun c11 => ?_) (fun c11 => ?_)
    · exact absurd c11 (by omega)
    · refine r_iload_n C dX3_shape_14 rfl 2 rfl ?_
      refine r_iload_n C dX3_shape_15 rfl 1 rfl ?_
      refine r_callS (As := [.int (nI kd)]) C (c_X3_mostCakes (kd := kd)  (by first | assumption | omega)) wM_X3_26 wS_X3_mostCakes wN_X3 wC_X3_mostCakes hd_X3_mostCakes ⟨Nat.le_of_ble_eq_true rfl, Nat.le_of_ble_eq_true rfl⟩ rfl rfl (Nat.le_of_ble_eq_true rfl) dX3_shape_16 ⟨(Nat.le_of_ble_eq_true rfl), (Nat.le_of_ble_eq_true rfl)⟩ (fun rv n2 σ2 hp => ?_)
      obtain ⟨rfl, rfl, rfl⟩ := hp
      refine V.eq (σ2 := σ) (n2 := n) (st2 := [.int (nI (if sid kd = true then 5 else 6)), .int (nI N)]) rfl rfl rfl rfl ?_
      refine r_icmp_leN (tgt := 24) C dX3_shape_19 (by decide) (by omega) (by omega) (fun c19 => ?_) (fun c19 => ?_)
      · refine r_iload_n C dX3_shape_24 rfl 3 rfl ?_
        refine r_iload_n C dX3_shape_25 rfl 1 rfl ?_
        refine r_iconst (v := nI 3) C dX3_shape_26 (by decide) ?_
        have L35 : ∀ (lo : Nat), (lo = if kd = 3 then 1 else 0) → V p l e rm_X3_shape_nn s m args below meth c G 6 (MQ below (gQ G po) args s rm_X3_shape_nn.cells rm_X3_shape_nn.slots (gF G)) 0 0 n σ 35 [(0, .ref h0), (1, .int (nI kd)), (2, .int (nI N)), (3, .int (nI sr))] [.int (nI lo), .int (nI sr)] := by
          intro lo hlo
          have hl9 : lo ≤ 1 := by rw [hlo]; split <;> omega
          refine r_icmp_ltN (tgt := 53) C dX3_shape_35 (by decide) (by omega) (by omega) (fun c35 => ?_) (fun c35 => ?_)
          · exact absurd c35 (Nat.not_lt.mpr (sr_lo hso.2.2.2 hlo))
          · refine r_iload_n C dX3_shape_38 rfl 3 rfl ?_
            refine r_iload_n C dX3_shape_39 rfl 1 rfl ?_
            refine r_iconst (v := nI 3) C dX3_shape_40 (by decide) ?_
            have L50 : ∀ (hi : Nat), (hi = if kd = 3 then 21 else 0) → V p l e rm_X3_shape_nn s m args below meth c G 6 (MQ below (gQ G po) args s rm_X3_shape_nn.cells rm_X3_shape_nn.slots (gF G)) 0 0 n σ 50 [(0, .ref h0), (1, .int (nI kd)), (2, .int (nI N)), (3, .int (nI sr))] [.int (nI hi), .int (nI sr)] := by
              intro hi hhi
              have hh9 : hi ≤ 21 := by rw [hhi]; split <;> omega
              refine r_icmp_leN (tgt := 55) C dX3_shape_50 (by decide) (by omega) (by omega) (fun c50 => ?_) (fun c50 => ?_)
              · refine r_aload_n C dX3_shape_55 rfl 0 rfl ?_
                refine r_iload_n C dX3_shape_56 rfl 2 rfl ?_
                refine r_iload_n C dX3_shape_57 rfl 1 rfl ?_
                refine r_callS (As := [.int (nI kd)]) C (c_X3_isSided (kd := kd)  (by first | assumption | omega)) wM_X3_30 wS_X3_isSided wN_X3 wC_X3_isSided hd_X3_isSided ⟨Nat.le_of_ble_eq_true rfl, Nat.le_of_ble_eq_true rfl⟩ rfl rfl (Nat.le_of_ble_eq_true rfl) dX3_shape_58 ⟨(Nat.le_of_ble_eq_true rfl), (Nat.le_of_ble_eq_true rfl)⟩ (fun rv n2 σ2 hp => ?_)
                obtain ⟨rfl, rfl, rfl⟩ := hp
                refine V.eq (σ2 := σ) (n2 := n) (st2 := [.int (bI (sid kd)), .int (nI N), .ref h0]) rfl rfl rfl rfl ?_
                refine r_callV (As := [.int (nI N), .int (bI (sid kd))]) C (c_X3_layouts_n (h0 := h0) (N := N) (ka := ka) (ln := ln) (sb := (sid kd)) (fk := fk) hc0 hc1 (hLL) (by first | assumption | omega) (by first | assumption | omega) (by first | assumption | omega) (by first | assumption | omega) (by first | assumption | omega)) wM_X3_34 wI_X3_layouts wN_X3 wC_X3_layouts wV_X3_layouts hd_X3_layouts ⟨Nat.le_of_ble_eq_true rfl, Nat.le_of_ble_eq_true rfl⟩ rfl hc0 rfl rfl (Nat.le_of_ble_eq_true rfl) dX3_shape_61 ⟨(Nat.le_of_ble_eq_true rfl), (Nat.le_of_ble_eq_true rfl)⟩ (fun rv n2 σ2 hp => ?_)
                obtain ⟨rfl, rfl, cf9, q1, q2, q3, q4, rfl, hq1, hq2, hq3, hq4⟩ := hp
                refine V.eq (σ2 := (hU (RW σ n [(.inr (1, [.int (nI N), .int (nI (rR (sid kd) N)), .int (nI (sbN (sid kd) N)), .int (nI (sm (sid kd) N - 1)), .ref (n + 1), .ref (n + 2), .ref (n + 3), .ref (n + 4)])), (aI G (fac N) q1), (aI G (fac N * N) q2), (aI G (rR (sid kd) N * N) q3), (aI G (rR (sid kd) N) q4)]) ka (aR 3 G ln (va_up fk N (some n))))) (n2 := n + 5) (st2 := [.ref n]) rfl rfl rfl rfl ?_
                refine r_astore (lv2 := [(4, .ref n), (0, .ref h0), (1, .int (nI kd)), (2, .int (nI N)), (3, .int (nI sr))]) C dX3_shape_64 (by decide) rfl ?_
                refine r_iload_n C dX3_shape_66 rfl 2 rfl ?_
                refine r_bipush (v := nI 7) C dX3_shape_67 (by decide) ?_
                refine r_imulN C dX3_shape_69 ?_
                refine r_iload_n C dX3_shape_70 rfl 3 rfl ?_
                refine r_iaddN C dX3_shape_71 ?_
                refine r_bipush (v := nI 22) C dX3_shape_72 (by decide) ?_
                refine r_imulN C dX3_shape_74 ?_
                refine r_iload_n C dX3_shape_75 rfl 4 rfl ?_
                refine r_iaddN C dX3_shape_76 ?_
                refine r_istore (lv2 := [(5, .int (nI (((kd * 7 + N) * 22) + sr))), (4, .ref n), (0, .ref h0), (1, .int (nI kd)), (2, .int (nI N)), (3, .int (nI sr))]) C dX3_shape_77 (by decide) rfl ?_
                refine r_aload C dX3_shape_79 1 rfl ?_
                refine r_ifnull C dX3_shape_81 ?_
                refine r_iload C dX3_shape_84 0 rfl ?_
                refine r_if_ltN C dX3_shape_86 (tgt := 99) (by decide) (by omega) ?_
                refine r_iload C dX3_shape_89 0 rfl ?_
                refine r_aload_n C dX3_shape_91 rfl 2 rfl ?_
                refine r_get (Cn := RX3) (T := TX3) (N := 3) (v := .ref (h0 + 3)) C inlX3 ((hU_ne (by omega)).trans ((RW_ne (m := 5) rfl (by omega)).trans hc0)) rfl 2 (by decide) wF_X3_22 (fun _ h => h) rfl dX3_shape_92 ?_
                refine r_alenR C 4 ((hU_ne (by omega)).trans ((RW_ne (m := 5) rfl (by omega)).trans hc2)) rfl dX3_shape_95 ?_
                refine r_icmp_ltN (tgt := 101) C dX3_shape_96 (by decide) (by omega) (by decide) (fun c96 => ?_) (fun c96 => ?_)
                · refine r_aload_n C dX3_shape_101 rfl 2 rfl ?_
                  refine r_get (Cn := RX3) (T := TX3) (N := 3) (v := .ref (h0 + 3)) C inlX3 ((hU_ne (by omega)).trans ((RW_ne (m := 5) rfl (by omega)).trans hc0)) rfl 2 (by decide) wF_X3_22 (fun _ h => h) rfl dX3_shape_102 ?_
                  refine r_iload C dX3_shape_105 0 rfl ?_
                  refine r_aald C 4 ((hU_ne (by omega)).trans ((RW_ne (m := 5) rfl (by omega)).trans hc2)) rfl (by omega) (by decide) dX3_shape_107 ?_
                  refine V.eq (st2 := [.null]) rfl rfl rfl (by rw [hfx]; rfl) ?_
                  refine r_ifnonnullN C dX3_shape_108 ?_
                  refine r_aload_n C dX3_shape_111 rfl 2 rfl ?_
                  refine r_get (Cn := RX3) (T := TX3) (N := 3) (v := .ref (h0 + 3)) C inlX3 ((hU_ne (by omega)).trans ((RW_ne (m := 5) rfl (by omega)).trans hc0)) rfl 2 (by decide) wF_X3_22 (fun _ h => h) rfl dX3_shape_112 ?_
                  refine r_iload C dX3_shape_115 0 rfl ?_
                  refine r_new (fs := [.int (nI 0), .int (nI 0), .int (nI 0), .null, .null, .null]) C inlX2 tyX2 tyX2_ok wK_X3_20 wB_X2 wN_X2 (ci := 2) rfl (by decide) (Nat.le_of_ble_eq_true rfl) (Nat.le_of_ble_eq_true rfl) dX3_shape_117 ?_
                  refine V.eq (σ2 := (hU (hU (RW σ n [(.inr (1, [.int (nI N), .int (nI (rR (sid kd) N)), .int (nI (sbN (sid kd) N)), .int (nI (sm (sid kd) N - 1)), .ref (n + 1), .ref (n + 2), .ref (n + 3), .ref (n + 4)])), (aI G (fac N) q1), (aI G (fac N * N) q2), (aI G (rR (sid kd) N * N) q3), (aI G (rR (sid kd) N) q4)]) ka (aR 3 G ln (va_up fk N (some n)))) (n + 5) (.inr (2, [.int (nI 0), .int (nI 0), .int (nI 0), .null, .null, .null])))) (n2 := n + 6) rfl rfl rfl rfl ?_
                  refine V.hp (σ2 := (RW (hU (RW σ n [(.inr (1, [.int (nI N), .int (nI (rR (sid kd) N)), .int (nI (sbN (sid kd) N)), .int (nI (sm (sid kd) N - 1)), .ref (n + 1), .ref (n + 2), .ref (n + 3), .ref (n + 4)])), (aI G (fac N) q1), (aI G (fac N * N) q2), (aI G (rR (sid kd) N * N) q3), (aI G (rR (sid kd) N) q4)]) ka (aR 3 G ln (va_up fk N (some n)))) (n + 5) [(.inr (2, [.int (nI 0), .int (nI 0), .int (nI 0), .null, .null, .null]))])) (RW_one _ _ _) ?_
                  refine r_dup C dX3_shape_120 rfl ?_
                  refine r_iload_n C dX3_shape_121 rfl 3 rfl ?_
                  refine r_iload_n C dX3_shape_122 rfl 5 rfl ?_
                  refine r_aload C dX3_shape_123 1 rfl ?_
                  refine r_callI (As := [.int (nI kd), .int (nI sr), .ref n]) C (c_X2_init (sa := n + 5) (la := n) (kd := kd) (N := N) (sr := sr) (cfl := 0) (f2 := q2) (f4 := q4) (RW_at0 rfl) ((RW_ne (m := 1) rfl (by omega)).trans ((hU_ne (by omega)).trans (RW_at0 rfl))) ((RW_ne (m := 1) rfl (by omega)).trans ((hU_ne (by omega)).trans (RW_at 2 rfl))) ((RW_ne (m := 1) rfl (by omega)).trans ((hU_ne (by omega)).trans (RW_at 4 rfl))) (by first | assumption | omega) (by first | assumption | omega) (by first | assumption | omega) (by first | assumption | omega) (by first | assumption | omega) (by first | assumption | omega)) wM_X3_38 wI_X2_init wN_X2 wC_X2_init rfl hd_X2_init ⟨Nat.le_of_ble_eq_true rfl, Nat.le_of_ble_eq_true rfl⟩ rfl rfl (Nat.le_of_ble_eq_true rfl) dX3_shape_125 ⟨(Nat.le_of_ble_eq_true rfl), (Nat.le_of_ble_eq_true rfl)⟩ (fun rv n2 σ2 hp => ?_)
                  obtain ⟨rfl, rfl, q5, rfl, hq5⟩ := hp
                  refine V.eq (σ2 := (RW (RW (hU (RW σ n [(.inr (1, [.int (nI N), .int (nI (rR (sid kd) N)), .int (nI (sbN (sid kd) N)), .int (nI (sm (sid kd) N - 1)), .ref (n + 1), .ref (n + 2), .ref (n + 3), .ref (n + 4)])), (aI G (fac N) q1), (aI G (fac N * N) q2), (aI G (rR (sid kd) N * N) q3), (aI G (rR (sid kd) N) q4)]) ka (aR 3 G ln (va_up fk N (some n)))) (n + 5) [(.inr (2, [.int (nI 0), .int (nI 0), .int (nI 0), .null, .null, .null]))]) (n + 5) [(.inr (2, [.int (nI kd), .int (nI sr), .int (nI N), .ref n, .ref (n + 6), .null])), (aI G (rR (sid kd) N) q5)])) (n2 := n + 7) (st2 := [.ref (n + 5), .int (nI (((kd * 7 + N) * 22) + sr)), .ref (h0 + 3)]) rfl rfl rfl rfl ?_
                  refine V.hp (σ2 := (RW (hU (RW σ n [(.inr (1, [.int (nI N), .int (nI (rR (sid kd) N)), .int (nI (sbN (sid kd) N)), .int (nI (sm (sid kd) N - 1)), .ref (n + 1), .ref (n + 2), .ref (n + 3), .ref (n + 4)])), (aI G (fac N) q1), (aI G (fac N * N) q2), (aI G (rR (sid kd) N * N) q3), (aI G (rR (sid kd) N) q4)]) ka (aR 3 G ln (va_up fk N (some n)))) (n + 5) [(.inr (2, [.int (nI kd), .int (nI sr), .int (nI N), .ref n, .ref (n + 6), .null])), (aI G (rR (sid kd) N) q5)])) (RW_over (Nat.le_of_ble_eq_true rfl)) ?_
                  refine r_aast C 4 ((RW_ne (m := 2) rfl (by omega)).trans ((hU_ne (by omega)).trans ((RW_ne (m := 5) rfl (by omega)).trans hc2))) rfl (RW_at0 rfl) rfl (by omega) (by decide) dX3_shape_128 ?_
                  refine r_aload_n C dX3_shape_129 rfl 2 rfl ?_
                  refine r_get (Cn := RX3) (T := TX3) (N := 3) (v := .ref (h0 + 3)) C inlX3 ((hU_ne (by omega)).trans ((RW_ne (m := 2) rfl (by omega)).trans ((hU_ne (by omega)).trans ((RW_ne (m := 5) rfl (by omega)).trans hc0)))) rfl 2 (by decide) wF_X3_22 (fun _ h => h) rfl dX3_shape_130 ?_
                  refine r_iload C dX3_shape_133 0 rfl ?_
                  refine r_aald C 4 (hU_at _ _ _) rfl (by omega) (by decide) dX3_shape_135 ?_
                  refine V.eq (st2 := [.ref (n + 5)]) rfl rfl rfl (by rw [va_up_s]; rfl) ?_
                  exact r_aret C (Or.inl ⟨_, rfl⟩) (Or.inr ⟨_, rfl⟩) hr hlocks (Nat.le_of_ble_eq_true rfl) (Nat.le_of_ble_eq_true rfl) dX3_shape_136 (hpo _ _ _ ⟨rfl, rfl, cf9, q1, q2, q3, q4, q5, rfl, hq1, hq2, hq3, hq4, hq5⟩)
                · exact absurd c96 (by omega)
              · exact absurd c50 (Nat.not_lt.mpr (sr_hi hso.2.2.2 hhi))
            refine r_icmp_neN (tgt := 49) C dX3_shape_41 (by decide) (by omega) (by decide) (fun c41 => ?_) (fun c41 => ?_)
            · refine r_iconst (v := nI 0) C dX3_shape_49 (by decide) ?_
              exact L50 0 (by first | (rw [if_pos c41]; done) | (rw [if_neg c41]; done))
            · refine r_bipush (v := nI 21) C dX3_shape_44 (by decide) ?_
              refine r_goto (tgt := 50) C dX3_shape_46 (by decide) ?_
              exact L50 21 (by first | (rw [if_pos c41]; done) | (rw [if_neg c41]; done))
        refine r_icmp_neN (tgt := 34) C dX3_shape_27 (by decide) (by omega) (by decide) (fun c27 => ?_) (fun c27 => ?_)
        · refine r_iconst (v := nI 0) C dX3_shape_34 (by decide) ?_
          exact L35 0 (by first | (rw [if_pos c27]; done) | (rw [if_neg c27]; done))
        · refine r_iconst (v := nI 1) C dX3_shape_30 (by decide) ?_
          refine r_goto (tgt := 35) C dX3_shape_31 (by decide) ?_
          exact L35 1 (by first | (rw [if_pos c27]; done) | (rw [if_neg c27]; done))
      · exact absurd hNx (by omega)
