/-- the set of the first sizes of an order -/
def usp (N o : Nat) : Nat → Nat
  | 0 => 0
  | i + 1 => usp N o i ||| 1 * 2 ^ sz N o i
/-- how many of the sizes 1 .. s are not in a set -/
def fq (u : Nat) : Nat → Nat
  | 0 => 0
  | s + 1 => fq u s + (if u &&& 1 * 2 ^ (s + 1) = 0 then 1 else 0)
theorem fq_free {u s : Nat} (h : 1 ≤ s) (h2 : u &&& 1 * 2 ^ s = 0) : fq u s = fq u (s - 1) + 1 := by
  obtain ⟨z, rfl⟩ : ∃ z, s = z + 1 := ⟨s - 1, by omega⟩
  rw [fq, if_pos h2]
  rfl
theorem fq_used {u s : Nat} (h : 1 ≤ s) (h2 : u &&& 1 * 2 ^ s ≠ 0) : fq u s = fq u (s - 1) := by
  obtain ⟨z, rfl⟩ : ∃ z, s = z + 1 := ⟨s - 1, by omega⟩
  rw [fq, if_neg h2]
  rfl
theorem k_usp : chkO (fun N o => (List.range 7).all fun d => decide (usp N o d < 128)) = true := by decide +kernel
theorem usp_lt {N o d : Nat} (hN : N ≤ 6) (ho : o < fac N) (hd : d < 7) : usp N o d < 128 := of_decide_eq_true (dec1 (chkO_of k_usp hN ho) d hd)
theorem k_fqa : chkO (fun N o => (List.range N).all fun d => fq (usp N o d) N == N - d) = true := by decide +kernel
theorem fq_all {N d k o : Nat} (hN : N ≤ 6) (hd : d + (k + 1) = N) (ho : o < fac N) : fq (usp N o d) N = k + 1 := by
  have := dec1 (chkO_of k_fqa hN ho) d (by omega)
  simp at this
  omega
def fcB (N o d s : Nat) : Bool := !(o % fac (N - d) == 0) || !(usp N o d &&& 1 * 2 ^ s == 0) || (let q := o + fq (usp N o d) (s - 1) * fac (N - d - 1); decide (q < fac N) && q % fac (N - d - 1) == 0 && cdp N q (d + 1) == cdp N o d * 10 + s && usp N q (d + 1) == (usp N o d ||| 1 * 2 ^ s))
theorem k_fcb : chkO (fun N o => (List.range N).all fun d => (List.range N).all fun s => fcB N o d (s + 1)) = true := by decide +kernel
theorem fc_ok {N d k a s : Nat} (hN : N ≤ 6) (hd : d + (k + 1) = N) (ha : a < fac N) (ham : a % fac (k + 1) = 0) (h1 : 1 ≤ s) (h2 : s ≤ N) (hu : usp N a d &&& 1 * 2 ^ s = 0) :
    a + fq (usp N a d) (s - 1) * fac k < fac N ∧ (a + fq (usp N a d) (s - 1) * fac k) % fac k = 0 ∧ cdp N (a + fq (usp N a d) (s - 1) * fac k) (d + 1) = cdp N a d * 10 + s ∧ usp N (a + fq (usp N a d) (s - 1) * fac k) (d + 1) = (usp N a d ||| 1 * 2 ^ s) := by
  have := dec1 (dec1 (chkO_of k_fcb hN ha) d (by omega)) (s - 1) (by omega)
  rw [show s - 1 + 1 = s by omega, fcB, show N - d = k + 1 by omega, show k + 1 - 1 = k by omega] at this
  simp only [ham, hu, BEq.rfl, Bool.not_true, Bool.false_or, Bool.and_eq_true, decide_eq_true_eq, beq_iff_eq] at this
  exact ⟨this.1.1.1, this.1.1.2, this.1.2, this.2⟩
theorem fc_w {N a x y : Nat} {w v : Nat → Int32} (h : ∀ q, a ≤ q → q < a + x * y → w q = nI (cd N q)) (h1 : ∀ q, a + x * y ≤ q → q < a + x * y + y → v q = nI (cd N q)) (h0 : ∀ q, q < a + x * y → v q = w q) : ∀ q, a ≤ q → q < a + (x + 1) * y → v q = nI (cd N q) := fun q g1 g2 => by
  rw [Nat.add_mul, Nat.one_mul] at g2
  rcases Nat.lt_or_ge q (a + x * y) with g | g
  · rw [h0 q g]; exact h q g1 g
  · exact h1 q g (by omega)

abbrev rm_X1_fillCodes_0 : Room := { frames := 1, cells := 0, slots := 0, locals := 22 }
set_option maxRecDepth 100000 in
set_option maxHeartbeats 4000000 in
theorem c_X1_fillCodes_0 {l : Launch} {G : gG} {n : Nat} {σ : gS} {pa N : Nat} {sb : Bool} {f1 : Nat → Int32} {a d : Nat} (hc0 : σ pa = some (aI G (fac N) f1)) (hL : LOK sb N) (hd : d + 0 = N) (ha : a < fac N) (ham : a % fac 0 = 0) : GM l G yX1_fillCodes cX1_fillCodes 8 (some .int) rm_X1_fillCodes_0 n σ [.ref pa, .int (nI a), .int (nI N), .int (nI (cdp N a d)), .int (nI (usp N a d)), .int (nI d)] (fun rv n2 σ2 => some (.int (nI (a + fac 0))) = rv ∧ n = n2 ∧ ∃ (g1 : Nat → Int32), (RW σ pa [(aI G (fac N) g1)]) = σ2 ∧ (∀ q, a ≤ q → q < a + fac 0 → g1 q = nI (cd N q)) ∧ (∀ q, q < a → g1 q = f1 q)) := by
  refine GM.intro (by decide +kernel) (Nat.le_of_ble_eq_true rfl) (fun p e s m args below meth c C hr hlocks hname po hpo => ?_)
  have C : Cx p s m args c cX1_fillCodes 8 RX1 G := C
  have hb9 := hL.b
  have hcb := cdp_lt hL.2.1 ha (show d < 7 by omega)
  have hub := usp_lt hL.2.1 ha (show d < 7 by omega)
  refine V.hp (σ2 := (RW σ pa [(aI G (fac N) f1)])) (RW_cons hc0 (RW_nil _ _)).symm ?_
  refine r_iload C dX1_fillCodes_0 5 rfl ?_
  refine r_iload_n C dX1_fillCodes_2 rfl 2 rfl ?_
  refine r_icmp_ltN (tgt := 16) C dX1_fillCodes_3 (by decide) (by omega) (by omega) (fun c3 => ?_) (fun c3 => ?_)
  · exact absurd c3 (by omega)
  · refine r_aload_n C dX1_fillCodes_6 rfl 0 rfl ?_
    refine r_iload_n C dX1_fillCodes_7 rfl 1 rfl ?_
    refine r_iload_n C dX1_fillCodes_8 rfl 3 rfl ?_
    refine r_callSN (As := [.ref pa, .int (nI a), .int (nI (cdp N a d))]) C (c_X6_put (a := pa) (len := fac N) (f := f1) (i := a) (x := nI (cdp N a d)) (RW_at0 rfl) (by first | assumption | omega) (by first | assumption | omega)) wZ_X1_56 wS_X6_put wN_X6 wC_X6_put hd_X6_put ⟨Nat.le_of_ble_eq_true rfl, Nat.le_of_ble_eq_true rfl⟩ rfl rfl (Nat.le_of_ble_eq_true rfl) dX1_fillCodes_9 ⟨(Nat.le_of_ble_eq_true rfl), (Nat.le_of_ble_eq_true rfl)⟩ (fun rv n2 σ2 hp => ?_)
    obtain ⟨rfl, rfl, rfl⟩ := hp
    refine V.eq (σ2 := (hU (RW σ pa [(aI G (fac N) f1)]) pa (aI G (fac N) (upd f1 a (nI (cdp N a d)))))) (n2 := n) (st2 := []) rfl rfl rfl rfl ?_
    refine V.hp (σ2 := (RW σ pa [(aI G (fac N) (upd f1 a (nI (cdp N a d))))])) (RW_set0 (Nat.le_of_ble_eq_true rfl) rfl) ?_
    refine r_iload_n C dX1_fillCodes_12 rfl 1 rfl ?_
    refine r_iconst (v := nI 1) C dX1_fillCodes_13 (by decide) ?_
    refine r_iaddN C dX1_fillCodes_14 ?_
    exact r_iret C hr hlocks (Nat.le_of_ble_eq_true rfl) (Nat.le_of_ble_eq_true rfl) dX1_fillCodes_15 (hpo _ _ _ ⟨rfl, rfl, (upd f1 a (nI (cdp N a d))), rfl, fun q h1 h2 => by rw [show q = a from Nat.le_antisymm (Nat.le_of_lt_succ h2) h1, pk_us, cd, show d = N by omega], fun q h => pk_un (by omega)⟩)

abbrev rm_X1_fillCodes_1 : Room := { frames := 2, cells := 0, slots := 0, locals := 49 }
set_option maxRecDepth 100000 in
set_option maxHeartbeats 4000000 in
theorem c_X1_fillCodes_1 {l : Launch} {G : gG} {n : Nat} {σ : gS} {pa N : Nat} {sb : Bool} {f1 : Nat → Int32} {a d : Nat} (hc0 : σ pa = some (aI G (fac N) f1)) (hL : LOK sb N) (hd : d + 1 = N) (ha : a < fac N) (ham : a % fac 1 = 0) : GM l G yX1_fillCodes cX1_fillCodes 8 (some .int) rm_X1_fillCodes_1 n σ [.ref pa, .int (nI a), .int (nI N), .int (nI (cdp N a d)), .int (nI (usp N a d)), .int (nI d)] (fun rv n2 σ2 => some (.int (nI (a + fac 1))) = rv ∧ n = n2 ∧ ∃ (g1 : Nat → Int32), (RW σ pa [(aI G (fac N) g1)]) = σ2 ∧ (∀ q, a ≤ q → q < a + fac 1 → g1 q = nI (cd N q)) ∧ (∀ q, q < a → g1 q = f1 q)) := by
  refine GM.intro (by decide +kernel) (Nat.le_of_ble_eq_true rfl) (fun p e s m args below meth c C hr hlocks hname po hpo => ?_)
  have C : Cx p s m args c cX1_fillCodes 8 RX1 G := C
  have hb9 := hL.b
  have hcb := cdp_lt hL.2.1 ha (show d < 7 by omega)
  have hub := usp_lt hL.2.1 ha (show d < 7 by omega)
  have hfc : fac 1 = 1 * fac 0 := rfl
  refine V.hp (σ2 := (RW σ pa [(aI G (fac N) f1)])) (RW_cons hc0 (RW_nil _ _)).symm ?_
  refine r_iload C dX1_fillCodes_0 5 rfl ?_
  refine r_iload_n C dX1_fillCodes_2 rfl 2 rfl ?_
  refine r_icmp_ltN (tgt := 16) C dX1_fillCodes_3 (by decide) (by omega) (by omega) (fun c3 => ?_) (fun c3 => ?_)
  · refine r_iload_n C dX1_fillCodes_16 rfl 1 rfl ?_
    refine r_istore (lv2 := [(6, .int (nI a)), (0, .ref pa), (1, .int (nI a)), (2, .int (nI N)), (3, .int (nI (cdp N a d))), (4, .int (nI (usp N a d))), (5, .int (nI d))]) C dX1_fillCodes_17 (by decide) rfl ?_
    refine r_iconst (v := nI 1) C dX1_fillCodes_19 (by decide) ?_
    refine r_istore (lv2 := [(7, .int (nI 1)), (6, .int (nI a)), (0, .ref pa), (1, .int (nI a)), (2, .int (nI N)), (3, .int (nI (cdp N a d))), (4, .int (nI (usp N a d))), (5, .int (nI d))]) C dX1_fillCodes_20 (by decide) rfl ?_
    have L22 : ∀ (fu : Nat) (s9 : Nat) (w1 : Nat → Int32), (1 ≤ s9) → (s9 ≤ N + 1) → (∀ q, a ≤ q → q < a + fq (usp N a d) (s9 - 1) * fac 0 → w1 q = nI (cd N q)) → (∀ q, q < a → w1 q = f1 q) → (N + 2 - s9) < fu → V p l e rm_X1_fillCodes_1 s m args below meth c G 8 (MQ below (gQ G po) args s rm_X1_fillCodes_1.cells rm_X1_fillCodes_1.slots (gF G)) 0 0 n (RW σ pa [(aI G (fac N) w1)]) 22 [(0, .ref pa), (1, .int (nI a)), (2, .int (nI N)), (3, .int (nI (cdp N a d))), (4, .int (nI (usp N a d))), (5, .int (nI d)), (6, .int (nI (a + fq (usp N a d) (s9 - 1) * fac 0))), (7, .int (nI s9))] [] := by
      intro fu
      induction fu with
      | zero => intro s9 w1 hs1 hs2 hwa hw0 hm; exact absurd hm (Nat.not_lt_zero _)
      | succ fu ih22 =>
        intro s9 w1 hs1 hs2 hwa hw0 hm22
        refine r_iload C dX1_fillCodes_22 7 rfl ?_
        refine r_iload_n C dX1_fillCodes_24 rfl 2 rfl ?_
        refine r_icmp_gtN (tgt := 71) C dX1_fillCodes_25 (by decide) (by omega) (by omega) (fun c25 => ?_) (fun c25 => ?_)
        · have hfn := fq_all hL.2.1 (show d + (0 + 1) = N by omega) ha
          have hsN : s9 - 1 = N := by omega
          have hcf : a + fq (usp N a d) (s9 - 1) * fac 0 = a + fac 1 := by rw [hsN, hfn, hfc]
          refine r_iload C dX1_fillCodes_71 6 rfl ?_
          exact r_iret C hr hlocks (Nat.le_of_ble_eq_true rfl) (Nat.le_of_ble_eq_true rfl) dX1_fillCodes_73 (hpo _ _ _ ⟨by rw [hcf], rfl, w1, rfl, fun q h1 h2 => hwa q h1 (by rw [hcf]; exact h2), hw0⟩)
        · refine r_iload C dX1_fillCodes_28 4 rfl ?_
          refine r_iconst (v := nI 1) C dX1_fillCodes_30 (by decide) ?_
          refine r_iload C dX1_fillCodes_31 7 rfl ?_
          refine r_ishlN C dX1_fillCodes_33 (by omega) ?_
          have hand := Nat.and_le_left (n := usp N a d) (m := 1 * 2 ^ s9)
          refine r_iandN C dX1_fillCodes_34 ?_
          refine r_if_neN (tgt := 65) C dX1_fillCodes_35 (by decide) (by omega) (fun c35 => ?_) (fun c35 => ?_)
          · have hfq := fq_used hs1 c35
            refine r_iinc (v := nI (s9 + 1)) (lv2 := [(7, .int (nI (s9 + 1))), (0, .ref pa), (1, .int (nI a)), (2, .int (nI N)), (3, .int (nI (cdp N a d))), (4, .int (nI (usp N a d))), (5, .int (nI d)), (6, .int (nI (a + fq (usp N a d) (s9 - 1) * fac 0)))]) C dX1_fillCodes_65 (k := 7) rfl (nI_add _ 1) (by decide) rfl ?_
            refine r_goto (tgt := 22) C dX1_fillCodes_68 (by decide) ?_
            refine V.sub (lv2 := [(0, .ref pa), (1, .int (nI a)), (2, .int (nI N)), (3, .int (nI (cdp N a d))), (4, .int (nI (usp N a d))), (5, .int (nI d)), (6, .int (nI (a + fq (usp N a d) (s9 - 1) * fac 0))), (7, .int (nI (s9 + 1)))]) [1, 2, 3, 4, 5, 6, 7, 0] rfl ?_
            refine V.eq (σ2 := (RW σ pa [(aI G (fac N) w1)])) (lv2 := [(0, .ref pa), (1, .int (nI a)), (2, .int (nI N)), (3, .int (nI (cdp N a d))), (4, .int (nI (usp N a d))), (5, .int (nI d)), (6, .int (nI (a + fq (usp N a d) ((s9 + 1) - 1) * fac 0))), (7, .int (nI (s9 + 1)))]) (st2 := []) rfl rfl (by rw [(show nI (a + fq (usp N a d) (s9 - 1) * fac 0) = nI (a + fq (usp N a d) ((s9 + 1) - 1) * fac 0) from congrArg nI (by rw [show s9 + 1 - 1 = s9 by omega]; first | (rw [hfq]; done) | (rw [hfq, Nat.add_mul, Nat.one_mul, Nat.add_assoc]; done) | (rw [hfq, Nat.add_mul, Nat.one_mul, Nat.add_assoc]; rfl)))]) rfl ?_
            exact ih22 (s9 + 1) w1 (by omega) (by omega) (by rw [show s9 + 1 - 1 = s9 by omega, hfq]; first | exact hwa | exact fc_w hwa hn1 hn0) (by first | exact hw0 | exact fun q h => (hn0 q (by omega)).trans (hw0 q h)) (by omega)
          · have hfa := fc_ok (s := s9) hL.2.1 (show d + (0 + 1) = N by omega) ha ham hs1 (by omega) c35
            have hfq := fq_free hs1 c35
            refine r_aload_n C dX1_fillCodes_38 rfl 0 rfl ?_
            refine r_iload C dX1_fillCodes_39 6 rfl ?_
            refine r_iload_n C dX1_fillCodes_41 rfl 2 rfl ?_
            refine r_iload_n C dX1_fillCodes_42 rfl 3 rfl ?_
            refine r_bipush (v := nI 10) C dX1_fillCodes_43 (by decide) ?_
            refine r_imulN C dX1_fillCodes_45 ?_
            refine r_iload C dX1_fillCodes_46 7 rfl ?_
            refine r_iaddN C dX1_fillCodes_48 ?_
            refine V.top (y := nI (cdp N (a + fq (usp N a d) (s9 - 1) * fac 0) (d + 1))) (congrArg nI hfa.2.2.1.symm) ?_
            refine r_iload C dX1_fillCodes_49 4 rfl ?_
            refine r_iconst (v := nI 1) C dX1_fillCodes_51 (by decide) ?_
            refine r_iload C dX1_fillCodes_52 7 rfl ?_
            refine r_ishlN C dX1_fillCodes_54 (by omega) ?_
            refine r_iorN C dX1_fillCodes_55 ?_
            refine V.top (y := nI (usp N (a + fq (usp N a d) (s9 - 1) * fac 0) (d + 1))) (congrArg nI hfa.2.2.2.symm) ?_
            refine r_iload C dX1_fillCodes_56 5 rfl ?_
            refine r_iconst (v := nI 1) C dX1_fillCodes_58 (by decide) ?_
            refine r_iaddN C dX1_fillCodes_59 ?_
            refine r_callS (As := [.ref pa, .int (nI (a + fq (usp N a d) (s9 - 1) * fac 0)), .int (nI N), .int (nI (cdp N (a + fq (usp N a d) (s9 - 1) * fac 0) (d + 1))), .int (nI (usp N (a + fq (usp N a d) (s9 - 1) * fac 0) (d + 1))), .int (nI (d + 1))]) C (c_X1_fillCodes_0 (pa := pa) (N := N) (sb := sb) (f1 := w1) (a := (a + fq (usp N a d) (s9 - 1) * fac 0)) (d := d + 1) (RW_at0 rfl) (by first | assumption | omega) (by omega) (hfa.1) (hfa.2.1)) wM_X1_41 wS_X1_fillCodes wN_X1 wC_X1_fillCodes hd_X1_fillCodes ⟨Nat.le_of_ble_eq_true rfl, Nat.le_of_ble_eq_true rfl⟩ rfl rfl (Nat.le_of_ble_eq_true rfl) dX1_fillCodes_60 ⟨(Nat.le_of_ble_eq_true rfl), (Nat.le_of_ble_eq_true rfl)⟩ (fun rv n2 σ2 hp => ?_)
            obtain ⟨rfl, rfl, n1, rfl, hn1, hn0⟩ := hp
            refine V.eq (σ2 := (RW (RW σ pa [(aI G (fac N) w1)]) pa [(aI G (fac N) n1)])) (n2 := n) (st2 := [.int (nI ((a + fq (usp N a d) (s9 - 1) * fac 0) + fac 0))]) rfl rfl rfl rfl ?_
            refine V.hp (σ2 := (RW σ pa [(aI G (fac N) n1)])) (RW_in0 (m := 1) rfl (Nat.le_of_ble_eq_true rfl) rfl) ?_
            refine r_istore (lv2 := [(6, .int (nI ((a + fq (usp N a d) (s9 - 1) * fac 0) + fac 0))), (0, .ref pa), (1, .int (nI a)), (2, .int (nI N)), (3, .int (nI (cdp N a d))), (4, .int (nI (usp N a d))), (5, .int (nI d)), (7, .int (nI s9))]) C dX1_fillCodes_63 (by decide) rfl ?_
            refine r_iinc (v := nI (s9 + 1)) (lv2 := [(7, .int (nI (s9 + 1))), (6, .int (nI ((a + fq (usp N a d) (s9 - 1) * fac 0) + fac 0))), (0, .ref pa), (1, .int (nI a)), (2, .int (nI N)), (3, .int (nI (cdp N a d))), (4, .int (nI (usp N a d))), (5, .int (nI d))]) C dX1_fillCodes_65 (k := 7) rfl (nI_add _ 1) (by decide) rfl ?_
            refine r_goto (tgt := 22) C dX1_fillCodes_68 (by decide) ?_
            refine V.sub (lv2 := [(0, .ref pa), (1, .int (nI a)), (2, .int (nI N)), (3, .int (nI (cdp N a d))), (4, .int (nI (usp N a d))), (5, .int (nI d)), (6, .int (nI ((a + fq (usp N a d) (s9 - 1) * fac 0) + fac 0))), (7, .int (nI (s9 + 1)))]) [2, 3, 4, 5, 6, 7, 1, 0] rfl ?_
            refine V.eq (σ2 := (RW σ pa [(aI G (fac N) n1)])) (lv2 := [(0, .ref pa), (1, .int (nI a)), (2, .int (nI N)), (3, .int (nI (cdp N a d))), (4, .int (nI (usp N a d))), (5, .int (nI d)), (6, .int (nI (a + fq (usp N a d) ((s9 + 1) - 1) * fac 0))), (7, .int (nI (s9 + 1)))]) (st2 := []) rfl rfl (by rw [(show nI ((a + fq (usp N a d) (s9 - 1) * fac 0) + fac 0) = nI (a + fq (usp N a d) ((s9 + 1) - 1) * fac 0) from congrArg nI (by rw [show s9 + 1 - 1 = s9 by omega]; first | (rw [hfq]; done) | (rw [hfq, Nat.add_mul, Nat.one_mul, Nat.add_assoc]; done) | (rw [hfq, Nat.add_mul, Nat.one_mul, Nat.add_assoc]; rfl)))]) rfl ?_
            exact ih22 (s9 + 1) n1 (by omega) (by omega) (by rw [show s9 + 1 - 1 = s9 by omega, hfq]; first | exact hwa | exact fc_w hwa hn1 hn0) (by first | exact hw0 | exact fun q h => (hn0 q (by omega)).trans (hw0 q h)) (by omega)
    refine V.sub (lv2 := [(0, .ref pa), (1, .int (nI a)), (2, .int (nI N)), (3, .int (nI (cdp N a d))), (4, .int (nI (usp N a d))), (5, .int (nI d)), (6, .int (nI a)), (7, .int (nI 1))]) [2, 3, 4, 5, 6, 7, 1, 0] rfl ?_
    refine V.eq (σ2 := (RW σ pa [(aI G (fac N) f1)])) (lv2 := [(0, .ref pa), (1, .int (nI a)), (2, .int (nI N)), (3, .int (nI (cdp N a d))), (4, .int (nI (usp N a d))), (5, .int (nI d)), (6, .int (nI (a + fq (usp N a d) (1 - 1) * fac 0))), (7, .int (nI 1))]) (st2 := []) rfl rfl (by rw [(show nI a = nI (a + fq (usp N a d) (1 - 1) * fac 0) from by simp [fq])]) rfl ?_
    exact L22 _ 1 f1 (by omega) (by omega) (fun q h1 h2 => absurd h2 (by first | (simp [fq]; done) | (simp [fq]; omega))) (fun _ _ => rfl) (Nat.lt_succ_self _)
  · exact absurd c3 (by omega)

abbrev rm_X1_fillCodes_2 : Room := { frames := 3, cells := 0, slots := 0, locals := 76 }
set_option maxRecDepth 100000 in
set_option maxHeartbeats 4000000 in
theorem c_X1_fillCodes_2 {l : Launch} {G : gG} {n : Nat} {σ : gS} {pa N : Nat} {sb : Bool} {f1 : Nat → Int32} {a d : Nat} (hc0 : σ pa = some (aI G (fac N) f1)) (hL : LOK sb N) (hd : d + 2 = N) (ha : a < fac N) (ham : a % fac 2 = 0) : GM l G yX1_fillCodes cX1_fillCodes 8 (some .int) rm_X1_fillCodes_2 n σ [.ref pa, .int (nI a), .int (nI N), .int (nI (cdp N a d)), .int (nI (usp N a d)), .int (nI d)] (fun rv n2 σ2 => some (.int (nI (a + fac 2))) = rv ∧ n = n2 ∧ ∃ (g1 : Nat → Int32), (RW σ pa [(aI G (fac N) g1)]) = σ2 ∧ (∀ q, a ≤ q → q < a + fac 2 → g1 q = nI (cd N q)) ∧ (∀ q, q < a → g1 q = f1 q)) := by
  refine GM.intro (by decide +kernel) (Nat.le_of_ble_eq_true rfl) (fun p e s m args below meth c C hr hlocks hname po hpo => ?_)
  have C : Cx p s m args c cX1_fillCodes 8 RX1 G := C
  have hb9 := hL.b
  have hcb := cdp_lt hL.2.1 ha (show d < 7 by omega)
  have hub := usp_lt hL.2.1 ha (show d < 7 by omega)
  have hfc : fac 2 = 2 * fac 1 := rfl
  refine V.hp (σ2 := (RW σ pa [(aI G (fac N) f1)])) (RW_cons hc0 (RW_nil _ _)).symm ?_
  refine r_iload C dX1_fillCodes_0 5 rfl ?_
  refine r_iload_n C dX1_fillCodes_2 rfl 2 rfl ?_
  refine r_icmp_ltN (tgt := 16) C dX1_fillCodes_3 (by decide) (by omega) (by omega) (fun c3 => ?_) (fun c3 => ?_)
  · refine r_iload_n C dX1_fillCodes_16 rfl 1 rfl ?_
    refine r_istore (lv2 := [(6, .int (nI a)), (0, .ref pa), (1, .int (nI a)), (2, .int (nI N)), (3, .int (nI (cdp N a d))), (4, .int (nI (usp N a d))), (5, .int (nI d))]) C dX1_fillCodes_17 (by decide) rfl ?_
    refine r_iconst (v := nI 1) C dX1_fillCodes_19 (by decide) ?_
    refine r_istore (lv2 := [(7, .int (nI 1)), (6, .int (nI a)), (0, .ref pa), (1, .int (nI a)), (2, .int (nI N)), (3, .int (nI (cdp N a d))), (4, .int (nI (usp N a d))), (5, .int (nI d))]) C dX1_fillCodes_20 (by decide) rfl ?_
    have L22 : ∀ (fu : Nat) (s9 : Nat) (w1 : Nat → Int32), (1 ≤ s9) → (s9 ≤ N + 1) → (∀ q, a ≤ q → q < a + fq (usp N a d) (s9 - 1) * fac 1 → w1 q = nI (cd N q)) → (∀ q, q < a → w1 q = f1 q) → (N + 2 - s9) < fu → V p l e rm_X1_fillCodes_2 s m args below meth c G 8 (MQ below (gQ G po) args s rm_X1_fillCodes_2.cells rm_X1_fillCodes_2.slots (gF G)) 0 0 n (RW σ pa [(aI G (fac N) w1)]) 22 [(0, .ref pa), (1, .int (nI a)), (2, .int (nI N)), (3, .int (nI (cdp N a d))), (4, .int (nI (usp N a d))), (5, .int (nI d)), (6, .int (nI (a + fq (usp N a d) (s9 - 1) * fac 1))), (7, .int (nI s9))] [] := by
      intro fu
      induction fu with
      | zero => intro s9 w1 hs1 hs2 hwa hw0 hm; exact absurd hm (Nat.not_lt_zero _)
      | succ fu ih22 =>
        intro s9 w1 hs1 hs2 hwa hw0 hm22
        refine r_iload C dX1_fillCodes_22 7 rfl ?_
        refine r_iload_n C dX1_fillCodes_24 rfl 2 rfl ?_
        refine r_icmp_gtN (tgt := 71) C dX1_fillCodes_25 (by decide) (by omega) (by omega) (fun c25 => ?_) (fun c25 => ?_)
        · have hfn := fq_all hL.2.1 (show d + (1 + 1) = N by omega) ha
          have hsN : s9 - 1 = N := by omega
          have hcf : a + fq (usp N a d) (s9 - 1) * fac 1 = a + fac 2 := by rw [hsN, hfn, hfc]
          refine r_iload C dX1_fillCodes_71 6 rfl ?_
          exact r_iret C hr hlocks (Nat.le_of_ble_eq_true rfl) (Nat.le_of_ble_eq_true rfl) dX1_fillCodes_73 (hpo _ _ _ ⟨by rw [hcf], rfl, w1, rfl, fun q h1 h2 => hwa q h1 (by rw [hcf]; exact h2), hw0⟩)
        · refine r_iload C dX1_fillCodes_28 4 rfl ?_
          refine r_iconst (v := nI 1) C dX1_fillCodes_30 (by decide) ?_
          refine r_iload C dX1_fillCodes_31 7 rfl ?_
          refine r_ishlN C dX1_fillCodes_33 (by omega) ?_
          have hand := Nat.and_le_left (n := usp N a d) (m := 1 * 2 ^ s9)
          refine r_iandN C dX1_fillCodes_34 ?_
          refine r_if_neN (tgt := 65) C dX1_fillCodes_35 (by decide) (by omega) (fun c35 => ?_) (fun c35 => ?_)
          · have hfq := fq_used hs1 c35
            refine r_iinc (v := nI (s9 + 1)) (lv2 := [(7, .int (nI (s9 + 1))), (0, .ref pa), (1, .int (nI a)), (2, .int (nI N)), (3, .int (nI (cdp N a d))), (4, .int (nI (usp N a d))), (5, .int (nI d)), (6, .int (nI (a + fq (usp N a d) (s9 - 1) * fac 1)))]) C dX1_fillCodes_65 (k := 7) rfl (nI_add _ 1) (by decide) rfl ?_
            refine r_goto (tgt := 22) C dX1_fillCodes_68 (by decide) ?_
            refine V.sub (lv2 := [(0, .ref pa), (1, .int (nI a)), (2, .int (nI N)), (3, .int (nI (cdp N a d))), (4, .int (nI (usp N a d))), (5, .int (nI d)), (6, .int (nI (a + fq (usp N a d) (s9 - 1) * fac 1))), (7, .int (nI (s9 + 1)))]) [1, 2, 3, 4, 5, 6, 7, 0] rfl ?_
            refine V.eq (σ2 := (RW σ pa [(aI G (fac N) w1)])) (lv2 := [(0, .ref pa), (1, .int (nI a)), (2, .int (nI N)), (3, .int (nI (cdp N a d))), (4, .int (nI (usp N a d))), (5, .int (nI d)), (6, .int (nI (a + fq (usp N a d) ((s9 + 1) - 1) * fac 1))), (7, .int (nI (s9 + 1)))]) (st2 := []) rfl rfl (by rw [(show nI (a + fq (usp N a d) (s9 - 1) * fac 1) = nI (a + fq (usp N a d) ((s9 + 1) - 1) * fac 1) from congrArg nI (by rw [show s9 + 1 - 1 = s9 by omega]; first | (rw [hfq]; done) | (rw [hfq, Nat.add_mul, Nat.one_mul, Nat.add_assoc]; done) | (rw [hfq, Nat.add_mul, Nat.one_mul, Nat.add_assoc]; rfl)))]) rfl ?_
            exact ih22 (s9 + 1) w1 (by omega) (by omega) (by rw [show s9 + 1 - 1 = s9 by omega, hfq]; first | exact hwa | exact fc_w hwa hn1 hn0) (by first | exact hw0 | exact fun q h => (hn0 q (by omega)).trans (hw0 q h)) (by omega)
          · have hfa := fc_ok (s := s9) hL.2.1 (show d + (1 + 1) = N by omega) ha ham hs1 (by omega) c35
            have hfq := fq_free hs1 c35
            refine r_aload_n C dX1_fillCodes_38 rfl 0 rfl ?_
            refine r_iload C dX1_fillCodes_39 6 rfl ?_
            refine r_iload_n C dX1_fillCodes_41 rfl 2 rfl ?_
            refine r_iload_n C dX1_fillCodes_42 rfl 3 rfl ?_
            refine r_bipush (v := nI 10) C dX1_fillCodes_43 (by decide) ?_
            refine r_imulN C dX1_fillCodes_45 ?_
            refine r_iload C dX1_fillCodes_46 7 rfl ?_
            refine r_iaddN C dX1_fillCodes_48 ?_
            refine V.top (y := nI (cdp N (a + fq (usp N a d) (s9 - 1) * fac 1) (d + 1))) (congrArg nI hfa.2.2.1.symm) ?_
            refine r_iload C dX1_fillCodes_49 4 rfl ?_
            refine r_iconst (v := nI 1) C dX1_fillCodes_51 (by decide) ?_
            refine r_iload C dX1_fillCodes_52 7 rfl ?_
            refine r_ishlN C dX1_fillCodes_54 (by omega) ?_
            refine r_iorN C dX1_fillCodes_55 ?_
            refine V.top (y := nI (usp N (a + fq (usp N a d) (s9 - 1) * fac 1) (d + 1))) (congrArg nI hfa.2.2.2.symm) ?_
            refine r_iload C dX1_fillCodes_56 5 rfl ?_
            refine r_iconst (v := nI 1) C dX1_fillCodes_58 (by decide) ?_
            refine r_iaddN C dX1_fillCodes_59 ?_
            refine r_callS (As := [.ref pa, .int (nI (a + fq (usp N a d) (s9 - 1) * fac 1)), .int (nI N), .int (nI (cdp N (a + fq (usp N a d) (s9 - 1) * fac 1) (d + 1))), .int (nI (usp N (a + fq (usp N a d) (s9 - 1) * fac 1) (d + 1))), .int (nI (d + 1))]) C (c_X1_fillCodes_1 (pa := pa) (N := N) (sb := sb) (f1 := w1) (a := (a + fq (usp N a d) (s9 - 1) * fac 1)) (d := d + 1) (RW_at0 rfl) (by first | assumption | omega) (by omega) (hfa.1) (hfa.2.1)) wM_X1_41 wS_X1_fillCodes wN_X1 wC_X1_fillCodes hd_X1_fillCodes ⟨Nat.le_of_ble_eq_true rfl, Nat.le_of_ble_eq_true rfl⟩ rfl rfl (Nat.le_of_ble_eq_true rfl) dX1_fillCodes_60 ⟨(Nat.le_of_ble_eq_true rfl), (Nat.le_of_ble_eq_true rfl)⟩ (fun rv n2 σ2 hp => ?_)
            obtain ⟨rfl, rfl, n1, rfl, hn1, hn0⟩ := hp
            refine V.eq (σ2 := (RW (RW σ pa [(aI G (fac N) w1)]) pa [(aI G (fac N) n1)])) (n2 := n) (st2 := [.int (nI ((a + fq (usp N a d) (s9 - 1) * fac 1) + fac 1))]) rfl rfl rfl rfl ?_
            refine V.hp (σ2 := (RW σ pa [(aI G (fac N) n1)])) (RW_in0 (m := 1) rfl (Nat.le_of_ble_eq_true rfl) rfl) ?_
            refine r_istore (lv2 := [(6, .int (nI ((a + fq (usp N a d) (s9 - 1) * fac 1) + fac 1))), (0, .ref pa), (1, .int (nI a)), (2, .int (nI N)), (3, .int (nI (cdp N a d))), (4, .int (nI (usp N a d))), (5, .int (nI d)), (7, .int (nI s9))]) C dX1_fillCodes_63 (by decide) rfl ?_
            refine r_iinc (v := nI (s9 + 1)) (lv2 := [(7, .int (nI (s9 + 1))), (6, .int (nI ((a + fq (usp N a d) (s9 - 1) * fac 1) + fac 1))), (0, .ref pa), (1, .int (nI a)), (2, .int (nI N)), (3, .int (nI (cdp N a d))), (4, .int (nI (usp N a d))), (5, .int (nI d))]) C dX1_fillCodes_65 (k := 7) rfl (nI_add _ 1) (by decide) rfl ?_
            refine r_goto (tgt := 22) C dX1_fillCodes_68 (by decide) ?_
            refine V.sub (lv2 := [(0, .ref pa), (1, .int (nI a)), (2, .int (nI N)), (3, .int (nI (cdp N a d))), (4, .int (nI (usp N a d))), (5, .int (nI d)), (6, .int (nI ((a + fq (usp N a d) (s9 - 1) * fac 1) + fac 1))), (7, .int (nI (s9 + 1)))]) [2, 3, 4, 5, 6, 7, 1, 0] rfl ?_
            refine V.eq (σ2 := (RW σ pa [(aI G (fac N) n1)])) (lv2 := [(0, .ref pa), (1, .int (nI a)), (2, .int (nI N)), (3, .int (nI (cdp N a d))), (4, .int (nI (usp N a d))), (5, .int (nI d)), (6, .int (nI (a + fq (usp N a d) ((s9 + 1) - 1) * fac 1))), (7, .int (nI (s9 + 1)))]) (st2 := []) rfl rfl (by rw [(show nI ((a + fq (usp N a d) (s9 - 1) * fac 1) + fac 1) = nI (a + fq (usp N a d) ((s9 + 1) - 1) * fac 1) from congrArg nI (by rw [show s9 + 1 - 1 = s9 by omega]; first | (rw [hfq]; done) | (rw [hfq, Nat.add_mul, Nat.one_mul, Nat.add_assoc]; done) | (rw [hfq, Nat.add_mul, Nat.one_mul, Nat.add_assoc]; rfl)))]) rfl ?_
            exact ih22 (s9 + 1) n1 (by omega) (by omega) (by rw [show s9 + 1 - 1 = s9 by omega, hfq]; first | exact hwa | exact fc_w hwa hn1 hn0) (by first | exact hw0 | exact fun q h => (hn0 q (by omega)).trans (hw0 q h)) (by omega)
    refine V.sub (lv2 := [(0, .ref pa), (1, .int (nI a)), (2, .int (nI N)), (3, .int (nI (cdp N a d))), (4, .int (nI (usp N a d))), (5, .int (nI d)), (6, .int (nI a)), (7, .int (nI 1))]) [2, 3, 4, 5, 6, 7, 1, 0] rfl ?_
    refine V.eq (σ2 := (RW σ pa [(aI G (fac N) f1)])) (lv2 := [(0, .ref pa), (1, .int (nI a)), (2, .int (nI N)), (3, .int (nI (cdp N a d))), (4, .int (nI (usp N a d))), (5, .int (nI d)), (6, .int (nI (a + fq (usp N a d) (1 - 1) * fac 1))), (7, .int (nI 1))]) (st2 := []) rfl rfl (by rw [(show nI a = nI (a + fq (usp N a d) (1 - 1) * fac 1) from by simp [fq])]) rfl ?_
    exact L22 _ 1 f1 (by omega) (by omega) (fun q h1 h2 => absurd h2 (by first | (simp [fq]; done) | (simp [fq]; omega))) (fun _ _ => rfl) (Nat.lt_succ_self _)
  · exact absurd c3 (by omega)

abbrev rm_X1_fillCodes_3 : Room := { frames := 4, cells := 0, slots := 0, locals := 103 }
set_option maxRecDepth 100000 in
set_option maxHeartbeats 4000000 in
theorem c_X1_fillCodes_3 {l : Launch} {G : gG} {n : Nat} {σ : gS} {pa N : Nat} {sb : Bool} {f1 : Nat → Int32} {a d : Nat} (hc0 : σ pa = some (aI G (fac N) f1)) (hL : LOK sb N) (hd : d + 3 = N) (ha : a < fac N) (ham : a % fac 3 = 0) : GM l G yX1_fillCodes cX1_fillCodes 8 (some .int) rm_X1_fillCodes_3 n σ [.ref pa, .int (nI a), .int (nI N), .int (nI (cdp N a d)), .int (nI (usp N a d)), .int (nI d)] (fun rv n2 σ2 => some (.int (nI (a + fac 3))) = rv ∧ n = n2 ∧ ∃ (g1 : Nat → Int32), (RW σ pa [(aI G (fac N) g1)]) = σ2 ∧ (∀ q, a ≤ q → q < a + fac 3 → g1 q = nI (cd N q)) ∧ (∀ q, q < a → g1 q = f1 q)) := by
  refine GM.intro (by decide +kernel) (Nat.le_of_ble_eq_true rfl) (fun p e s m args below meth c C hr hlocks hname po hpo => ?_)
  have C : Cx p s m args c cX1_fillCodes 8 RX1 G := C
  have hb9 := hL.b
  have hcb := cdp_lt hL.2.1 ha (show d < 7 by omega)
  have hub := usp_lt hL.2.1 ha (show d < 7 by omega)
  have hfc : fac 3 = 3 * fac 2 := rfl
  refine V.hp (σ2 := (RW σ pa [(aI G (fac N) f1)])) (RW_cons hc0 (RW_nil _ _)).symm ?_
  refine r_iload C dX1_fillCodes_0 5 rfl ?_
  refine r_iload_n C dX1_fillCodes_2 rfl 2 rfl ?_
  refine r_icmp_ltN (tgt := 16) C dX1_fillCodes_3 (by decide) (by omega) (by omega) (fun c3 => ?_) (fun c3 => ?_)
  · refine r_iload_n C dX1_fillCodes_16 rfl 1 rfl ?_
    refine r_istore (lv2 := [(6, .int (nI a)), (0, .ref pa), (1, .int (nI a)), (2, .int (nI N)), (3, .int (nI (cdp N a d))), (4, .int (nI (usp N a d))), (5, .int (nI d))]) C dX1_fillCodes_17 (by decide) rfl ?_
    refine r_iconst (v := nI 1) C dX1_fillCodes_19 (by decide) ?_
    refine r_istore (lv2 := [(7, .int (nI 1)), (6, .int (nI a)), (0, .ref pa), (1, .int (nI a)), (2, .int (nI N)), (3, .int (nI (cdp N a d))), (4, .int (nI (usp N a d))), (5, .int (nI d))]) C dX1_fillCodes_20 (by decide) rfl ?_
    have L22 : ∀ (fu : Nat) (s9 : Nat) (w1 : Nat → Int32), (1 ≤ s9) → (s9 ≤ N + 1) → (∀ q, a ≤ q → q < a + fq (usp N a d) (s9 - 1) * fac 2 → w1 q = nI (cd N q)) → (∀ q, q < a → w1 q = f1 q) → (N + 2 - s9) < fu → V p l e rm_X1_fillCodes_3 s m args below meth c G 8 (MQ below (gQ G po) args s rm_X1_fillCodes_3.cells rm_X1_fillCodes_3.slots (gF G)) 0 0 n (RW σ pa [(aI G (fac N) w1)]) 22 [(0, .ref pa), (1, .int (nI a)), (2, .int (nI N)), (3, .int (nI (cdp N a d))), (4, .int (nI (usp N a d))), (5, .int (nI d)), (6, .int (nI (a + fq (usp N a d) (s9 - 1) * fac 2))), (7, .int (nI s9))] [] := by
      intro fu
      induction fu with
      | zero => intro s9 w1 hs1 hs2 hwa hw0 hm; exact absurd hm (Nat.not_lt_zero _)
      | succ fu ih22 =>
        intro s9 w1 hs1 hs2 hwa hw0 hm22
        refine r_iload C dX1_fillCodes_22 7 rfl ?_
        refine r_iload_n C dX1_fillCodes_24 rfl 2 rfl ?_
        refine r_icmp_gtN (tgt := 71) C dX1_fillCodes_25 (by decide) (by omega) (by omega) (fun c25 => ?_) (fun c25 => ?_)
        · have hfn := fq_all hL.2.1 (show d + (2 + 1) = N by omega) ha
          have hsN : s9 - 1 = N := by omega
          have hcf : a + fq (usp N a d) (s9 - 1) * fac 2 = a + fac 3 := by rw [hsN, hfn, hfc]
          refine r_iload C dX1_fillCodes_71 6 rfl ?_
          exact r_iret C hr hlocks (Nat.le_of_ble_eq_true rfl) (Nat.le_of_ble_eq_true rfl) dX1_fillCodes_73 (hpo _ _ _ ⟨by rw [hcf], rfl, w1, rfl, fun q h1 h2 => hwa q h1 (by rw [hcf]; exact h2), hw0⟩)
        · refine r_iload C dX1_fillCodes_28 4 rfl ?_
          refine r_iconst (v := nI 1) C dX1_fillCodes_30 (by decide) ?_
          refine r_iload C dX1_fillCodes_31 7 rfl ?_
          refine r_ishlN C dX1_fillCodes_33 (by omega) ?_
          have hand := Nat.and_le_left (n := usp N a d) (m := 1 * 2 ^ s9)
          refine r_iandN C dX1_fillCodes_34 ?_
          refine r_if_neN (tgt := 65) C dX1_fillCodes_35 (by decide) (by omega) (fun c35 => ?_) (fun c35 => ?_)
          · have hfq := fq_used hs1 c35
            refine r_iinc (v := nI (s9 + 1)) (lv2 := [(7, .int (nI (s9 + 1))), (0, .ref pa), (1, .int (nI a)), (2, .int (nI N)), (3, .int (nI (cdp N a d))), (4, .int (nI (usp N a d))), (5, .int (nI d)), (6, .int (nI (a + fq (usp N a d) (s9 - 1) * fac 2)))]) C dX1_fillCodes_65 (k := 7) rfl (nI_add _ 1) (by decide) rfl ?_
            refine r_goto (tgt := 22) C dX1_fillCodes_68 (by decide) ?_
            refine V.sub (lv2 := [(0, .ref pa), (1, .int (nI a)), (2, .int (nI N)), (3, .int (nI (cdp N a d))), (4, .int (nI (usp N a d))), (5, .int (nI d)), (6, .int (nI (a + fq (usp N a d) (s9 - 1) * fac 2))), (7, .int (nI (s9 + 1)))]) [1, 2, 3, 4, 5, 6, 7, 0] rfl ?_
            refine V.eq (σ2 := (RW σ pa [(aI G (fac N) w1)])) (lv2 := [(0, .ref pa), (1, .int (nI a)), (2, .int (nI N)), (3, .int (nI (cdp N a d))), (4, .int (nI (usp N a d))), (5, .int (nI d)), (6, .int (nI (a + fq (usp N a d) ((s9 + 1) - 1) * fac 2))), (7, .int (nI (s9 + 1)))]) (st2 := []) rfl rfl (by rw [(show nI (a + fq (usp N a d) (s9 - 1) * fac 2) = nI (a + fq (usp N a d) ((s9 + 1) - 1) * fac 2) from congrArg nI (by rw [show s9 + 1 - 1 = s9 by omega]; first | (rw [hfq]; done) | (rw [hfq, Nat.add_mul, Nat.one_mul, Nat.add_assoc]; done) | (rw [hfq, Nat.add_mul, Nat.one_mul, Nat.add_assoc]; rfl)))]) rfl ?_
            exact ih22 (s9 + 1) w1 (by omega) (by omega) (by rw [show s9 + 1 - 1 = s9 by omega, hfq]; first | exact hwa | exact fc_w hwa hn1 hn0) (by first | exact hw0 | exact fun q h => (hn0 q (by omega)).trans (hw0 q h)) (by omega)
          · have hfa := fc_ok (s := s9) hL.2.1 (show d + (2 + 1) = N by omega) ha ham hs1 (by omega) c35
            have hfq := fq_free hs1 c35
            refine r_aload_n C dX1_fillCodes_38 rfl 0 rfl ?_
            refine r_iload C dX1_fillCodes_39 6 rfl ?_
            refine r_iload_n C dX1_fillCodes_41 rfl 2 rfl ?_
            refine r_iload_n C dX1_fillCodes_42 rfl 3 rfl ?_
            refine r_bipush (v := nI 10) C dX1_fillCodes_43 (by decide) ?_
            refine r_imulN C dX1_fillCodes_45 ?_
            refine r_iload C dX1_fillCodes_46 7 rfl ?_
            refine r_iaddN C dX1_fillCodes_48 ?_
            refine V.top (y := nI (cdp N (a + fq (usp N a d) (s9 - 1) * fac 2) (d + 1))) (congrArg nI hfa.2.2.1.symm) ?_
            refine r_iload C dX1_fillCodes_49 4 rfl ?_
            refine r_iconst (v := nI 1) C dX1_fillCodes_51 (by decide) ?_
            refine r_iload C dX1_fillCodes_52 7 rfl ?_
            refine r_ishlN C dX1_fillCodes_54 (by omega) ?_
            refine r_iorN C dX1_fillCodes_55 ?_
            refine V.top (y := nI (usp N (a + fq (usp N a d) (s9 - 1) * fac 2) (d + 1))) (congrArg nI hfa.2.2.2.symm) ?_
            refine r_iload C dX1_fillCodes_56 5 rfl ?_
            refine r_iconst (v := nI 1) C dX1_fillCodes_58 (by decide) ?_
            refine r_iaddN C dX1_fillCodes_59 ?_
            refine r_callS (As := [.ref pa, .int (nI (a + fq (usp N a d) (s9 - 1) * fac 2)), .int (nI N), .int (nI (cdp N (a + fq (usp N a d) (s9 - 1) * fac 2) (d + 1))), .int (nI (usp N (a + fq (usp N a d) (s9 - 1) * fac 2) (d + 1))), .int (nI (d + 1))]) C (c_X1_fillCodes_2 (pa := pa) (N := N) (sb := sb) (f1 := w1) (a := (a + fq (usp N a d) (s9 - 1) * fac 2)) (d := d + 1) (RW_at0 rfl) (by first | assumption | omega) (by omega) (hfa.1) (hfa.2.1)) wM_X1_41 wS_X1_fillCodes wN_X1 wC_X1_fillCodes hd_X1_fillCodes ⟨Nat.le_of_ble_eq_true rfl, Nat.le_of_ble_eq_true rfl⟩ rfl rfl (Nat.le_of_ble_eq_true rfl) dX1_fillCodes_60 ⟨(Nat.le_of_ble_eq_true rfl), (Nat.le_of_ble_eq_true rfl)⟩ (fun rv n2 σ2 hp => ?_)
            obtain ⟨rfl, rfl, n1, rfl, hn1, hn0⟩ := hp
            refine V.eq (σ2 := (RW (RW σ pa [(aI G (fac N) w1)]) pa [(aI G (fac N) n1)])) (n2 := n) (st2 := [.int (nI ((a + fq (usp N a d) (s9 - 1) * fac 2) + fac 2))]) rfl rfl rfl rfl ?_
            refine V.hp (σ2 := (RW σ pa [(aI G (fac N) n1)])) (RW_in0 (m := 1) rfl (Nat.le_of_ble_eq_true rfl) rfl) ?_
            refine r_istore (lv2 := [(6, .int (nI ((a + fq (usp N a d) (s9 - 1) * fac 2) + fac 2))), (0, .ref pa), (1, .int (nI a)), (2, .int (nI N)), (3, .int (nI (cdp N a d))), (4, .int (nI (usp N a d))), (5, .int (nI d)), (7, .int (nI s9))]) C dX1_fillCodes_63 (by decide) rfl ?_
            refine r_iinc (v := nI (s9 + 1)) (lv2 := [(7, .int (nI (s9 + 1))), (6, .int (nI ((a + fq (usp N a d) (s9 - 1) * fac 2) + fac 2))), (0, .ref pa), (1, .int (nI a)), (2, .int (nI N)), (3, .int (nI (cdp N a d))), (4, .int (nI (usp N a d))), (5, .int (nI d))]) C dX1_fillCodes_65 (k := 7) rfl (nI_add _ 1) (by decide) rfl ?_
            refine r_goto (tgt := 22) C dX1_fillCodes_68 (by decide) ?_
            refine V.sub (lv2 := [(0, .ref pa), (1, .int (nI a)), (2, .int (nI N)), (3, .int (nI (cdp N a d))), (4, .int (nI (usp N a d))), (5, .int (nI d)), (6, .int (nI ((a + fq (usp N a d) (s9 - 1) * fac 2) + fac 2))), (7, .int (nI (s9 + 1)))]) [2, 3, 4, 5, 6, 7, 1, 0] rfl ?_
            refine V.eq (σ2 := (RW σ pa [(aI G (fac N) n1)])) (lv2 := [(0, .ref pa), (1, .int (nI a)), (2, .int (nI N)), (3, .int (nI (cdp N a d))), (4, .int (nI (usp N a d))), (5, .int (nI d)), (6, .int (nI (a + fq (usp N a d) ((s9 + 1) - 1) * fac 2))), (7, .int (nI (s9 + 1)))]) (st2 := []) rfl rfl (by rw [(show nI ((a + fq (usp N a d) (s9 - 1) * fac 2) + fac 2) = nI (a + fq (usp N a d) ((s9 + 1) - 1) * fac 2) from congrArg nI (by rw [show s9 + 1 - 1 = s9 by omega]; first | (rw [hfq]; done) | (rw [hfq, Nat.add_mul, Nat.one_mul, Nat.add_assoc]; done) | (rw [hfq, Nat.add_mul, Nat.one_mul, Nat.add_assoc]; rfl)))]) rfl ?_
            exact ih22 (s9 + 1) n1 (by omega) (by omega) (by rw [show s9 + 1 - 1 = s9 by omega, hfq]; first | exact hwa | exact fc_w hwa hn1 hn0) (by first | exact hw0 | exact fun q h => (hn0 q (by omega)).trans (hw0 q h)) (by omega)
    refine V.sub (lv2 := [(0, .ref pa), (1, .int (nI a)), (2, .int (nI N)), (3, .int (nI (cdp N a d))), (4, .int (nI (usp N a d))), (5, .int (nI d)), (6, .int (nI a)), (7, .int (nI 1))]) [2, 3, 4, 5, 6, 7, 1, 0] rfl ?_
    refine V.eq (σ2 := (RW σ pa [(aI G (fac N) f1)])) (lv2 := [(0, .ref pa), (1, .int (nI a)), (2, .int (nI N)), (3, .int (nI (cdp N a d))), (4, .int (nI (usp N a d))), (5, .int (nI d)), (6, .int (nI (a + fq (usp N a d) (1 - 1) * fac 2))), (7, .int (nI 1))]) (st2 := []) rfl rfl (by rw [(show nI a = nI (a + fq (usp N a d) (1 - 1) * fac 2) from by simp [fq])]) rfl ?_
    exact L22 _ 1 f1 (by omega) (by omega) (fun q h1 h2 => absurd h2 (by first | (simp [fq]; done) | (simp [fq]; omega))) (fun _ _ => rfl) (Nat.lt_succ_self _)
  · exact absurd c3 (by omega)

abbrev rm_X1_fillCodes_4 : Room := { frames := 5, cells := 0, slots := 0, locals := 130 }
set_option maxRecDepth 100000 in
set_option maxHeartbeats 4000000 in
theorem c_X1_fillCodes_4 {l : Launch} {G : gG} {n : Nat} {σ : gS} {pa N : Nat} {sb : Bool} {f1 : Nat → Int32} {a d : Nat} (hc0 : σ pa = some (aI G (fac N) f1)) (hL : LOK sb N) (hd : d + 4 = N) (ha : a < fac N) (ham : a % fac 4 = 0) : GM l G yX1_fillCodes cX1_fillCodes 8 (some .int) rm_X1_fillCodes_4 n σ [.ref pa, .int (nI a), .int (nI N), .int (nI (cdp N a d)), .int (nI (usp N a d)), .int (nI d)] (fun rv n2 σ2 => some (.int (nI (a + fac 4))) = rv ∧ n = n2 ∧ ∃ (g1 : Nat → Int32), (RW σ pa [(aI G (fac N) g1)]) = σ2 ∧ (∀ q, a ≤ q → q < a + fac 4 → g1 q = nI (cd N q)) ∧ (∀ q, q < a → g1 q = f1 q)) := by
  refine GM.intro (by decide +kernel) (Nat.le_of_ble_eq_true rfl) (fun p e s m args below meth c C hr hlocks hname po hpo => ?_)
  have C : Cx p s m args c cX1_fillCodes 8 RX1 G := C
  have hb9 := hL.b
  have hcb := cdp_lt hL.2.1 ha (show d < 7 by omega)
  have hub := usp_lt hL.2.1 ha (show d < 7 by omega)
  have hfc : fac 4 = 4 * fac 3 := rfl
  refine V.hp (σ2 := (RW σ pa [(aI G (fac N) f1)])) (RW_cons hc0 (RW_nil _ _)).symm ?_
  refine r_iload C dX1_fillCodes_0 5 rfl ?_
  refine r_iload_n C dX1_fillCodes_2 rfl 2 rfl ?_
  refine r_icmp_ltN (tgt := 16) C dX1_fillCodes_3 (by decide) (by omega) (by omega) (fun c3 => ?_) (fun c3 => ?_)
  · refine r_iload_n C dX1_fillCodes_16 rfl 1 rfl ?_
    refine r_istore (lv2 := [(6, .int (nI a)), (0, .ref pa), (1, .int (nI a)), (2, .int (nI N)), (3, .int (nI (cdp N a d))), (4, .int (nI (usp N a d))), (5, .int (nI d))]) C dX1_fillCodes_17 (by decide) rfl ?_
    refine r_iconst (v := nI 1) C dX1_fillCodes_19 (by decide) ?_
    refine r_istore (lv2 := [(7, .int (nI 1)), (6, .int (nI a)), (0, .ref pa), (1, .int (nI a)), (2, .int (nI N)), (3, .int (nI (cdp N a d))), (4, .int (nI (usp N a d))), (5, .int (nI d))]) C dX1_fillCodes_20 (by decide) rfl ?_
    have L22 : ∀ (fu : Nat) (s9 : Nat) (w1 : Nat → Int32), (1 ≤ s9) → (s9 ≤ N + 1) → (∀ q, a ≤ q → q < a + fq (usp N a d) (s9 - 1) * fac 3 → w1 q = nI (cd N q)) → (∀ q, q < a → w1 q = f1 q) → (N + 2 - s9) < fu → V p l e rm_X1_fillCodes_4 s m args below meth c G 8 (MQ below (gQ G po) args s rm_X1_fillCodes_4.cells rm_X1_fillCodes_4.slots (gF G)) 0 0 n (RW σ pa [(aI G (fac N) w1)]) 22 [(0, .ref pa), (1, .int (nI a)), (2, .int (nI N)), (3, .int (nI (cdp N a d))), (4, .int (nI (usp N a d))), (5, .int (nI d)), (6, .int (nI (a + fq (usp N a d) (s9 - 1) * fac 3))), (7, .int (nI s9))] [] := by
      intro fu
      induction fu with
      | zero => intro s9 w1 hs1 hs2 hwa hw0 hm; exact absurd hm (Nat.not_lt_zero _)
      | succ fu ih22 =>
        intro s9 w1 hs1 hs2 hwa hw0 hm22
        refine r_iload C dX1_fillCodes_22 7 rfl ?_
        refine r_iload_n C dX1_fillCodes_24 rfl 2 rfl ?_
        refine r_icmp_gtN (tgt := 71) C dX1_fillCodes_25 (by decide) (by omega) (by omega) (fun c25 => ?_) (fun c25 => ?_)
        · have hfn := fq_all hL.2.1 (show d + (3 + 1) = N by omega) ha
          have hsN : s9 - 1 = N := by omega
          have hcf : a + fq (usp N a d) (s9 - 1) * fac 3 = a + fac 4 := by rw [hsN, hfn, hfc]
          refine r_iload C dX1_fillCodes_71 6 rfl ?_
          exact r_iret C hr hlocks (Nat.le_of_ble_eq_true rfl) (Nat.le_of_ble_eq_true rfl) dX1_fillCodes_73 (hpo _ _ _ ⟨by rw [hcf], rfl, w1, rfl, fun q h1 h2 => hwa q h1 (by rw [hcf]; exact h2), hw0⟩)
        · refine r_iload C dX1_fillCodes_28 4 rfl ?_
          refine r_iconst (v := nI 1) C dX1_fillCodes_30 (by decide) ?_
          refine r_iload C dX1_fillCodes_31 7 rfl ?_
          refine r_ishlN C dX1_fillCodes_33 (by omega) ?_
          have hand := Nat.and_le_left (n := usp N a d) (m := 1 * 2 ^ s9)
          refine r_iandN C dX1_fillCodes_34 ?_
          refine r_if_neN (tgt := 65) C dX1_fillCodes_35 (by decide) (by omega) (fun c35 => ?_) (fun c35 => ?_)
          · have hfq := fq_used hs1 c35
            refine r_iinc (v := nI (s9 + 1)) (lv2 := [(7, .int (nI (s9 + 1))), (0, .ref pa), (1, .int (nI a)), (2, .int (nI N)), (3, .int (nI (cdp N a d))), (4, .int (nI (usp N a d))), (5, .int (nI d)), (6, .int (nI (a + fq (usp N a d) (s9 - 1) * fac 3)))]) C dX1_fillCodes_65 (k := 7) rfl (nI_add _ 1) (by decide) rfl ?_
            refine r_goto (tgt := 22) C dX1_fillCodes_68 (by decide) ?_
            refine V.sub (lv2 := [(0, .ref pa), (1, .int (nI a)), (2, .int (nI N)), (3, .int (nI (cdp N a d))), (4, .int (nI (usp N a d))), (5, .int (nI d)), (6, .int (nI (a + fq (usp N a d) (s9 - 1) * fac 3))), (7, .int (nI (s9 + 1)))]) [1, 2, 3, 4, 5, 6, 7, 0] rfl ?_
            refine V.eq (σ2 := (RW σ pa [(aI G (fac N) w1)])) (lv2 := [(0, .ref pa), (1, .int (nI a)), (2, .int (nI N)), (3, .int (nI (cdp N a d))), (4, .int (nI (usp N a d))), (5, .int (nI d)), (6, .int (nI (a + fq (usp N a d) ((s9 + 1) - 1) * fac 3))), (7, .int (nI (s9 + 1)))]) (st2 := []) rfl rfl (by rw [(show nI (a + fq (usp N a d) (s9 - 1) * fac 3) = nI (a + fq (usp N a d) ((s9 + 1) - 1) * fac 3) from congrArg nI (by rw [show s9 + 1 - 1 = s9 by omega]; first | (rw [hfq]; done) | (rw [hfq, Nat.add_mul, Nat.one_mul, Nat.add_assoc]; done) | (rw [hfq, Nat.add_mul, Nat.one_mul, Nat.add_assoc]; rfl)))]) rfl ?_
            exact ih22 (s9 + 1) w1 (by omega) (by omega) (by rw [show s9 + 1 - 1 = s9 by omega, hfq]; first | exact hwa | exact fc_w hwa hn1 hn0) (by first | exact hw0 | exact fun q h => (hn0 q (by omega)).trans (hw0 q h)) (by omega)
          · have hfa := fc_ok (s := s9) hL.2.1 (show d + (3 + 1) = N by omega) ha ham hs1 (by omega) c35
            have hfq := fq_free hs1 c35
            refine r_aload_n C dX1_fillCodes_38 rfl 0 rfl ?_
            refine r_iload C dX1_fillCodes_39 6 rfl ?_
            refine r_iload_n C dX1_fillCodes_41 rfl 2 rfl ?_
            refine r_iload_n C dX1_fillCodes_42 rfl 3 rfl ?_
            refine r_bipush (v := nI 10) C dX1_fillCodes_43 (by decide) ?_
            refine r_imulN C dX1_fillCodes_45 ?_
            refine r_iload C dX1_fillCodes_46 7 rfl ?_
            refine r_iaddN C dX1_fillCodes_48 ?_
            refine V.top (y := nI (cdp N (a + fq (usp N a d) (s9 - 1) * fac 3) (d + 1))) (congrArg nI hfa.2.2.1.symm) ?_
            refine r_iload C dX1_fillCodes_49 4 rfl ?_
            refine r_iconst (v := nI 1) C dX1_fillCodes_51 (by decide) ?_
            refine r_iload C dX1_fillCodes_52 7 rfl ?_
            refine r_ishlN C dX1_fillCodes_54 (by omega) ?_
            refine r_iorN C dX1_fillCodes_55 ?_
            refine V.top (y := nI (usp N (a + fq (usp N a d) (s9 - 1) * fac 3) (d + 1))) (congrArg nI hfa.2.2.2.symm) ?_
            refine r_iload C dX1_fillCodes_56 5 rfl ?_
            refine r_iconst (v := nI 1) C dX1_fillCodes_58 (by decide) ?_
            refine r_iaddN C dX1_fillCodes_59 ?_
            refine r_callS (As := [.ref pa, .int (nI (a + fq (usp N a d) (s9 - 1) * fac 3)), .int (nI N), .int (nI (cdp N (a + fq (usp N a d) (s9 - 1) * fac 3) (d + 1))), .int (nI (usp N (a + fq (usp N a d) (s9 - 1) * fac 3) (d + 1))), .int (nI (d + 1))]) C (c_X1_fillCodes_3 (pa := pa) (N := N) (sb := sb) (f1 := w1) (a := (a + fq (usp N a d) (s9 - 1) * fac 3)) (d := d + 1) (RW_at0 rfl) (by first | assumption | omega) (by omega) (hfa.1) (hfa.2.1)) wM_X1_41 wS_X1_fillCodes wN_X1 wC_X1_fillCodes hd_X1_fillCodes ⟨Nat.le_of_ble_eq_true rfl, Nat.le_of_ble_eq_true rfl⟩ rfl rfl (Nat.le_of_ble_eq_true rfl) dX1_fillCodes_60 ⟨(Nat.le_of_ble_eq_true rfl), (Nat.le_of_ble_eq_true rfl)⟩ (fun rv n2 σ2 hp => ?_)
            obtain ⟨rfl, rfl, n1, rfl, hn1, hn0⟩ := hp
            refine V.eq (σ2 := (RW (RW σ pa [(aI G (fac N) w1)]) pa [(aI G (fac N) n1)])) (n2 := n) (st2 := [.int (nI ((a + fq (usp N a d) (s9 - 1) * fac 3) + fac 3))]) rfl rfl rfl rfl ?_
            refine V.hp (σ2 := (RW σ pa [(aI G (fac N) n1)])) (RW_in0 (m := 1) rfl (Nat.le_of_ble_eq_true rfl) rfl) ?_
            refine r_istore (lv2 := [(6, .int (nI ((a + fq (usp N a d) (s9 - 1) * fac 3) + fac 3))), (0, .ref pa), (1, .int (nI a)), (2, .int (nI N)), (3, .int (nI (cdp N a d))), (4, .int (nI (usp N a d))), (5, .int (nI d)), (7, .int (nI s9))]) C dX1_fillCodes_63 (by decide) rfl ?_
            refine r_iinc (v := nI (s9 + 1)) (lv2 := [(7, .int (nI (s9 + 1))), (6, .int (nI ((a + fq (usp N a d) (s9 - 1) * fac 3) + fac 3))), (0, .ref pa), (1, .int (nI a)), (2, .int (nI N)), (3, .int (nI (cdp N a d))), (4, .int (nI (usp N a d))), (5, .int (nI d))]) C dX1_fillCodes_65 (k := 7) rfl (nI_add _ 1) (by decide) rfl ?_
            refine r_goto (tgt := 22) C dX1_fillCodes_68 (by decide) ?_
            refine V.sub (lv2 := [(0, .ref pa), (1, .int (nI a)), (2, .int (nI N)), (3, .int (nI (cdp N a d))), (4, .int (nI (usp N a d))), (5, .int (nI d)), (6, .int (nI ((a + fq (usp N a d) (s9 - 1) * fac 3) + fac 3))), (7, .int (nI (s9 + 1)))]) [2, 3, 4, 5, 6, 7, 1, 0] rfl ?_
            refine V.eq (σ2 := (RW σ pa [(aI G (fac N) n1)])) (lv2 := [(0, .ref pa), (1, .int (nI a)), (2, .int (nI N)), (3, .int (nI (cdp N a d))), (4, .int (nI (usp N a d))), (5, .int (nI d)), (6, .int (nI (a + fq (usp N a d) ((s9 + 1) - 1) * fac 3))), (7, .int (nI (s9 + 1)))]) (st2 := []) rfl rfl (by rw [(show nI ((a + fq (usp N a d) (s9 - 1) * fac 3) + fac 3) = nI (a + fq (usp N a d) ((s9 + 1) - 1) * fac 3) from congrArg nI (by rw [show s9 + 1 - 1 = s9 by omega]; first | (rw [hfq]; done) | (rw [hfq, Nat.add_mul, Nat.one_mul, Nat.add_assoc]; done) | (rw [hfq, Nat.add_mul, Nat.one_mul, Nat.add_assoc]; rfl)))]) rfl ?_
            exact ih22 (s9 + 1) n1 (by omega) (by omega) (by rw [show s9 + 1 - 1 = s9 by omega, hfq]; first | exact hwa | exact fc_w hwa hn1 hn0) (by first | exact hw0 | exact fun q h => (hn0 q (by omega)).trans (hw0 q h)) (by omega)
    refine V.sub (lv2 := [(0, .ref pa), (1, .int (nI a)), (2, .int (nI N)), (3, .int (nI (cdp N a d))), (4, .int (nI (usp N a d))), (5, .int (nI d)), (6, .int (nI a)), (7, .int (nI 1))]) [2, 3, 4, 5, 6, 7, 1, 0] rfl ?_
    refine V.eq (σ2 := (RW σ pa [(aI G (fac N) f1)])) (lv2 := [(0, .ref pa), (1, .int (nI a)), (2, .int (nI N)), (3, .int (nI (cdp N a d))), (4, .int (nI (usp N a d))), (5, .int (nI d)), (6, .int (nI (a + fq (usp N a d) (1 - 1) * fac 3))), (7, .int (nI 1))]) (st2 := []) rfl rfl (by rw [(show nI a = nI (a + fq (usp N a d) (1 - 1) * fac 3) from by simp [fq])]) rfl ?_
    exact L22 _ 1 f1 (by omega) (by omega) (fun q h1 h2 => absurd h2 (by first | (simp [fq]; done) | (simp [fq]; omega))) (fun _ _ => rfl) (Nat.lt_succ_self _)
  · exact absurd c3 (by omega)

abbrev rm_X1_fillCodes_5 : Room := { frames := 6, cells := 0, slots := 0, locals := 157 }
set_option maxRecDepth 100000 in
set_option maxHeartbeats 4000000 in
theorem c_X1_fillCodes_5 {l : Launch} {G : gG} {n : Nat} {σ : gS} {pa N : Nat} {sb : Bool} {f1 : Nat → Int32} {a d : Nat} (hc0 : σ pa = some (aI G (fac N) f1)) (hL : LOK sb N) (hd : d + 5 = N) (ha : a < fac N) (ham : a % fac 5 = 0) : GM l G yX1_fillCodes cX1_fillCodes 8 (some .int) rm_X1_fillCodes_5 n σ [.ref pa, .int (nI a), .int (nI N), .int (nI (cdp N a d)), .int (nI (usp N a d)), .int (nI d)] (fun rv n2 σ2 => some (.int (nI (a + fac 5))) = rv ∧ n = n2 ∧ ∃ (g1 : Nat → Int32), (RW σ pa [(aI G (fac N) g1)]) = σ2 ∧ (∀ q, a ≤ q → q < a + fac 5 → g1 q = nI (cd N q)) ∧ (∀ q, q < a → g1 q = f1 q)) := by
  refine GM.intro (by decide +kernel) (Nat.le_of_ble_eq_true rfl) (fun p e s m args below meth c C hr hlocks hname po hpo => ?_)
  have C : Cx p s m args c cX1_fillCodes 8 RX1 G := C
  have hb9 := hL.b
  have hcb := cdp_lt hL.2.1 ha (show d < 7 by omega)
  have hub := usp_lt hL.2.1 ha (show d < 7 by omega)
  have hfc : fac 5 = 5 * fac 4 := rfl
  refine V.hp (σ2 := (RW σ pa [(aI G (fac N) f1)])) (RW_cons hc0 (RW_nil _ _)).symm ?_
  refine r_iload C dX1_fillCodes_0 5 rfl ?_
  refine r_iload_n C dX1_fillCodes_2 rfl 2 rfl ?_
  refine r_icmp_ltN (tgt := 16) C dX1_fillCodes_3 (by decide) (by omega) (by omega) (fun c3 => ?_) (fun c3 => ?_)
  · refine r_iload_n C dX1_fillCodes_16 rfl 1 rfl ?_
    refine r_istore (lv2 := [(6, .int (nI a)), (0, .ref pa), (1, .int (nI a)), (2, .int (nI N)), (3, .int (nI (cdp N a d))), (4, .int (nI (usp N a d))), (5, .int (nI d))]) C dX1_fillCodes_17 (by decide) rfl ?_
    refine r_iconst (v := nI 1) C dX1_fillCodes_19 (by decide) ?_
    refine r_istore (lv2 := [(7, .int (nI 1)), (6, .int (nI a)), (0, .ref pa), (1, .int (nI a)), (2, .int (nI N)), (3, .int (nI (cdp N a d))), (4, .int (nI (usp N a d))), (5, .int (nI d))]) C dX1_fillCodes_20 (by decide) rfl ?_
    have L22 : ∀ (fu : Nat) (s9 : Nat) (w1 : Nat → Int32), (1 ≤ s9) → (s9 ≤ N + 1) → (∀ q, a ≤ q → q < a + fq (usp N a d) (s9 - 1) * fac 4 → w1 q = nI (cd N q)) → (∀ q, q < a → w1 q = f1 q) → (N + 2 - s9) < fu → V p l e rm_X1_fillCodes_5 s m args below meth c G 8 (MQ below (gQ G po) args s rm_X1_fillCodes_5.cells rm_X1_fillCodes_5.slots (gF G)) 0 0 n (RW σ pa [(aI G (fac N) w1)]) 22 [(0, .ref pa), (1, .int (nI a)), (2, .int (nI N)), (3, .int (nI (cdp N a d))), (4, .int (nI (usp N a d))), (5, .int (nI d)), (6, .int (nI (a + fq (usp N a d) (s9 - 1) * fac 4))), (7, .int (nI s9))] [] := by
      intro fu
      induction fu with
      | zero => intro s9 w1 hs1 hs2 hwa hw0 hm; exact absurd hm (Nat.not_lt_zero _)
      | succ fu ih22 =>
        intro s9 w1 hs1 hs2 hwa hw0 hm22
        refine r_iload C dX1_fillCodes_22 7 rfl ?_
        refine r_iload_n C dX1_fillCodes_24 rfl 2 rfl ?_
        refine r_icmp_gtN (tgt := 71) C dX1_fillCodes_25 (by decide) (by omega) (by omega) (fun c25 => ?_) (fun c25 => ?_)
        · have hfn := fq_all hL.2.1 (show d + (4 + 1) = N by omega) ha
          have hsN : s9 - 1 = N := by omega
          have hcf : a + fq (usp N a d) (s9 - 1) * fac 4 = a + fac 5 := by rw [hsN, hfn, hfc]
          refine r_iload C dX1_fillCodes_71 6 rfl ?_
          exact r_iret C hr hlocks (Nat.le_of_ble_eq_true rfl) (Nat.le_of_ble_eq_true rfl) dX1_fillCodes_73 (hpo _ _ _ ⟨by rw [hcf], rfl, w1, rfl, fun q h1 h2 => hwa q h1 (by rw [hcf]; exact h2), hw0⟩)
        · refine r_iload C dX1_fillCodes_28 4 rfl ?_
          refine r_iconst (v := nI 1) C dX1_fillCodes_30 (by decide) ?_
          refine r_iload C dX1_fillCodes_31 7 rfl ?_
          refine r_ishlN C dX1_fillCodes_33 (by omega) ?_
          have hand := Nat.and_le_left (n := usp N a d) (m := 1 * 2 ^ s9)
          refine r_iandN C dX1_fillCodes_34 ?_
          refine r_if_neN (tgt := 65) C dX1_fillCodes_35 (by decide) (by omega) (fun c35 => ?_) (fun c35 => ?_)
          · have hfq := fq_used hs1 c35
            refine r_iinc (v := nI (s9 + 1)) (lv2 := [(7, .int (nI (s9 + 1))), (0, .ref pa), (1, .int (nI a)), (2, .int (nI N)), (3, .int (nI (cdp N a d))), (4, .int (nI (usp N a d))), (5, .int (nI d)), (6, .int (nI (a + fq (usp N a d) (s9 - 1) * fac 4)))]) C dX1_fillCodes_65 (k := 7) rfl (nI_add _ 1) (by decide) rfl ?_
            refine r_goto (tgt := 22) C dX1_fillCodes_68 (by decide) ?_
            refine V.sub (lv2 := [(0, .ref pa), (1, .int (nI a)), (2, .int (nI N)), (3, .int (nI (cdp N a d))), (4, .int (nI (usp N a d))), (5, .int (nI d)), (6, .int (nI (a + fq (usp N a d) (s9 - 1) * fac 4))), (7, .int (nI (s9 + 1)))]) [1, 2, 3, 4, 5, 6, 7, 0] rfl ?_
            refine V.eq (σ2 := (RW σ pa [(aI G (fac N) w1)])) (lv2 := [(0, .ref pa), (1, .int (nI a)), (2, .int (nI N)), (3, .int (nI (cdp N a d))), (4, .int (nI (usp N a d))), (5, .int (nI d)), (6, .int (nI (a + fq (usp N a d) ((s9 + 1) - 1) * fac 4))), (7, .int (nI (s9 + 1)))]) (st2 := []) rfl rfl (by rw [(show nI (a + fq (usp N a d) (s9 - 1) * fac 4) = nI (a + fq (usp N a d) ((s9 + 1) - 1) * fac 4) from congrArg nI (by rw [show s9 + 1 - 1 = s9 by omega]; first | (rw [hfq]; done) | (rw [hfq, Nat.add_mul, Nat.one_mul, Nat.add_assoc]; done) | (rw [hfq, Nat.add_mul, Nat.one_mul, Nat.add_assoc]; rfl)))]) rfl ?_
            exact ih22 (s9 + 1) w1 (by omega) (by omega) (by rw [show s9 + 1 - 1 = s9 by omega, hfq]; first | exact hwa | exact fc_w hwa hn1 hn0) (by first | exact hw0 | exact fun q h => (hn0 q (by omega)).trans (hw0 q h)) (by omega)
          · have hfa := fc_ok (s := s9) hL.2.1 (show d + (4 + 1) = N by omega) ha ham hs1 (by omega) c35
            have hfq := fq_free hs1 c35
            refine r_aload_n C dX1_fillCodes_38 rfl 0 rfl ?_
            refine r_iload C dX1_fillCodes_39 6 rfl ?_
            refine r_iload_n C dX1_fillCodes_41 rfl 2 rfl ?_
            refine r_iload_n C dX1_fillCodes_42 rfl 3 rfl ?_
            refine r_bipush (v := nI 10) C dX1_fillCodes_43 (by decide) ?_
            refine r_imulN C dX1_fillCodes_45 ?_
            refine r_iload C dX1_fillCodes_46 7 rfl ?_
            refine r_iaddN C dX1_fillCodes_48 ?_
            refine V.top (y := nI (cdp N (a + fq (usp N a d) (s9 - 1) * fac 4) (d + 1))) (congrArg nI hfa.2.2.1.symm) ?_
            refine r_iload C dX1_fillCodes_49 4 rfl ?_
            refine r_iconst (v := nI 1) C dX1_fillCodes_51 (by decide) ?_
            refine r_iload C dX1_fillCodes_52 7 rfl ?_
            refine r_ishlN C dX1_fillCodes_54 (by omega) ?_
            refine r_iorN C dX1_fillCodes_55 ?_
            refine V.top (y := nI (usp N (a + fq (usp N a d) (s9 - 1) * fac 4) (d + 1))) (congrArg nI hfa.2.2.2.symm) ?_
            refine r_iload C dX1_fillCodes_56 5 rfl ?_
            refine r_iconst (v := nI 1) C dX1_fillCodes_58 (by decide) ?_
            refine r_iaddN C dX1_fillCodes_59 ?_
            refine r_callS (As := [.ref pa, .int (nI (a + fq (usp N a d) (s9 - 1) * fac 4)), .int (nI N), .int (nI (cdp N (a + fq (usp N a d) (s9 - 1) * fac 4) (d + 1))), .int (nI (usp N (a + fq (usp N a d) (s9 - 1) * fac 4) (d + 1))), .int (nI (d + 1))]) C (c_X1_fillCodes_4 (pa := pa) (N := N) (sb := sb) (f1 := w1) (a := (a + fq (usp N a d) (s9 - 1) * fac 4)) (d := d + 1) (RW_at0 rfl) (by first | assumption | omega) (by omega) (hfa.1) (hfa.2.1)) wM_X1_41 wS_X1_fillCodes wN_X1 wC_X1_fillCodes hd_X1_fillCodes ⟨Nat.le_of_ble_eq_true rfl, Nat.le_of_ble_eq_true rfl⟩ rfl rfl (Nat.le_of_ble_eq_true rfl) dX1_fillCodes_60 ⟨(Nat.le_of_ble_eq_true rfl), (Nat.le_of_ble_eq_true rfl)⟩ (fun rv n2 σ2 hp => ?_)
            obtain ⟨rfl, rfl, n1, rfl, hn1, hn0⟩ := hp
            refine V.eq (σ2 := (RW (RW σ pa [(aI G (fac N) w1)]) pa [(aI G (fac N) n1)])) (n2 := n) (st2 := [.int (nI ((a + fq (usp N a d) (s9 - 1) * fac 4) + fac 4))]) rfl rfl rfl rfl ?_
            refine V.hp (σ2 := (RW σ pa [(aI G (fac N) n1)])) (RW_in0 (m := 1) rfl (Nat.le_of_ble_eq_true rfl) rfl) ?_
            refine r_istore (lv2 := [(6, .int (nI ((a + fq (usp N a d) (s9 - 1) * fac 4) + fac 4))), (0, .ref pa), (1, .int (nI a)), (2, .int (nI N)), (3, .int (nI (cdp N a d))), (4, .int (nI (usp N a d))), (5, .int (nI d)), (7, .int (nI s9))]) C dX1_fillCodes_63 (by decide) rfl ?_
            refine r_iinc (v := nI (s9 + 1)) (lv2 := [(7, .int (nI (s9 + 1))), (6, .int (nI ((a + fq (usp N a d) (s9 - 1) * fac 4) + fac 4))), (0, .ref pa), (1, .int (nI a)), (2, .int (nI N)), (3, .int (nI (cdp N a d))), (4, .int (nI (usp N a d))), (5, .int (nI d))]) C dX1_fillCodes_65 (k := 7) rfl (nI_add _ 1) (by decide) rfl ?_
            refine r_goto (tgt := 22) C dX1_fillCodes_68 (by decide) ?_
            refine V.sub (lv2 := [(0, .ref pa), (1, .int (nI a)), (2, .int (nI N)), (3, .int (nI (cdp N a d))), (4, .int (nI (usp N a d))), (5, .int (nI d)), (6, .int (nI ((a + fq (usp N a d) (s9 - 1) * fac 4) + fac 4))), (7, .int (nI (s9 + 1)))]) [2, 3, 4, 5, 6, 7, 1, 0] rfl ?_
            refine V.eq (σ2 := (RW σ pa [(aI G (fac N) n1)])) (lv2 := [(0, .ref pa), (1, .int (nI a)), (2, .int (nI N)), (3, .int (nI (cdp N a d))), (4, .int (nI (usp N a d))), (5, .int (nI d)), (6, .int (nI (a + fq (usp N a d) ((s9 + 1) - 1) * fac 4))), (7, .int (nI (s9 + 1)))]) (st2 := []) rfl rfl (by rw [(show nI ((a + fq (usp N a d) (s9 - 1) * fac 4) + fac 4) = nI (a + fq (usp N a d) ((s9 + 1) - 1) * fac 4) from congrArg nI (by rw [show s9 + 1 - 1 = s9 by omega]; first | (rw [hfq]; done) | (rw [hfq, Nat.add_mul, Nat.one_mul, Nat.add_assoc]; done) | (rw [hfq, Nat.add_mul, Nat.one_mul, Nat.add_assoc]; rfl)))]) rfl ?_
            exact ih22 (s9 + 1) n1 (by omega) (by omega) (by rw [show s9 + 1 - 1 = s9 by omega, hfq]; first | exact hwa | exact fc_w hwa hn1 hn0) (by first | exact hw0 | exact fun q h => (hn0 q (by omega)).trans (hw0 q h)) (by omega)
    refine V.sub (lv2 := [(0, .ref pa), (1, .int (nI a)), (2, .int (nI N)), (3, .int (nI (cdp N a d))), (4, .int (nI (usp N a d))), (5, .int (nI d)), (6, .int (nI a)), (7, .int (nI 1))]) [2, 3, 4, 5, 6, 7, 1, 0] rfl ?_
    refine V.eq (σ2 := (RW σ pa [(aI G (fac N) f1)])) (lv2 := [(0, .ref pa), (1, .int (nI a)), (2, .int (nI N)), (3, .int (nI (cdp N a d))), (4, .int (nI (usp N a d))), (5, .int (nI d)), (6, .int (nI (a + fq (usp N a d) (1 - 1) * fac 4))), (7, .int (nI 1))]) (st2 := []) rfl rfl (by rw [(show nI a = nI (a + fq (usp N a d) (1 - 1) * fac 4) from by simp [fq])]) rfl ?_
    exact L22 _ 1 f1 (by omega) (by omega) (fun q h1 h2 => absurd h2 (by first | (simp [fq]; done) | (simp [fq]; omega))) (fun _ _ => rfl) (Nat.lt_succ_self _)
  · exact absurd c3 (by omega)

abbrev rm_X1_fillCodes_6 : Room := { frames := 7, cells := 0, slots := 0, locals := 184 }
set_option maxRecDepth 100000 in
set_option maxHeartbeats 4000000 in
theorem c_X1_fillCodes_6 {l : Launch} {G : gG} {n : Nat} {σ : gS} {pa N : Nat} {sb : Bool} {f1 : Nat → Int32} {a d : Nat} (hc0 : σ pa = some (aI G (fac N) f1)) (hL : LOK sb N) (hd : d + 6 = N) (ha : a < fac N) (ham : a % fac 6 = 0) : GM l G yX1_fillCodes cX1_fillCodes 8 (some .int) rm_X1_fillCodes_6 n σ [.ref pa, .int (nI a), .int (nI N), .int (nI (cdp N a d)), .int (nI (usp N a d)), .int (nI d)] (fun rv n2 σ2 => some (.int (nI (a + fac 6))) = rv ∧ n = n2 ∧ ∃ (g1 : Nat → Int32), (RW σ pa [(aI G (fac N) g1)]) = σ2 ∧ (∀ q, a ≤ q → q < a + fac 6 → g1 q = nI (cd N q)) ∧ (∀ q, q < a → g1 q = f1 q)) := by
  refine GM.intro (by decide +kernel) (Nat.le_of_ble_eq_true rfl) (fun p e s m args below meth c C hr hlocks hname po hpo => ?_)
  have C : Cx p s m args c cX1_fillCodes 8 RX1 G := C
  have hb9 := hL.b
  have hcb := cdp_lt hL.2.1 ha (show d < 7 by omega)
  have hub := usp_lt hL.2.1 ha (show d < 7 by omega)
  have hfc : fac 6 = 6 * fac 5 := rfl
  refine V.hp (σ2 := (RW σ pa [(aI G (fac N) f1)])) (RW_cons hc0 (RW_nil _ _)).symm ?_
  refine r_iload C dX1_fillCodes_0 5 rfl ?_
  refine r_iload_n C dX1_fillCodes_2 rfl 2 rfl ?_
  refine r_icmp_ltN (tgt := 16) C dX1_fillCodes_3 (by decide) (by omega) (by omega) (fun c3 => ?_) (fun c3 => ?_)
  · refine r_iload_n C dX1_fillCodes_16 rfl 1 rfl ?_
    refine r_istore (lv2 := [(6, .int (nI a)), (0, .ref pa), (1, .int (nI a)), (2, .int (nI N)), (3, .int (nI (cdp N a d))), (4, .int (nI (usp N a d))), (5, .int (nI d))]) C dX1_fillCodes_17 (by decide) rfl ?_
    refine r_iconst (v := nI 1) C dX1_fillCodes_19 (by decide) ?_
    refine r_istore (lv2 := [(7, .int (nI 1)), (6, .int (nI a)), (0, .ref pa), (1, .int (nI a)), (2, .int (nI N)), (3, .int (nI (cdp N a d))), (4, .int (nI (usp N a d))), (5, .int (nI d))]) C dX1_fillCodes_20 (by decide) rfl ?_
    have L22 : ∀ (fu : Nat) (s9 : Nat) (w1 : Nat → Int32), (1 ≤ s9) → (s9 ≤ N + 1) → (∀ q, a ≤ q → q < a + fq (usp N a d) (s9 - 1) * fac 5 → w1 q = nI (cd N q)) → (∀ q, q < a → w1 q = f1 q) → (N + 2 - s9) < fu → V p l e rm_X1_fillCodes_6 s m args below meth c G 8 (MQ below (gQ G po) args s rm_X1_fillCodes_6.cells rm_X1_fillCodes_6.slots (gF G)) 0 0 n (RW σ pa [(aI G (fac N) w1)]) 22 [(0, .ref pa), (1, .int (nI a)), (2, .int (nI N)), (3, .int (nI (cdp N a d))), (4, .int (nI (usp N a d))), (5, .int (nI d)), (6, .int (nI (a + fq (usp N a d) (s9 - 1) * fac 5))), (7, .int (nI s9))] [] := by
      intro fu
      induction fu with
      | zero => intro s9 w1 hs1 hs2 hwa hw0 hm; exact absurd hm (Nat.not_lt_zero _)
      | succ fu ih22 =>
        intro s9 w1 hs1 hs2 hwa hw0 hm22
        refine r_iload C dX1_fillCodes_22 7 rfl ?_
        refine r_iload_n C dX1_fillCodes_24 rfl 2 rfl ?_
        refine r_icmp_gtN (tgt := 71) C dX1_fillCodes_25 (by decide) (by omega) (by omega) (fun c25 => ?_) (fun c25 => ?_)
        · have hfn := fq_all hL.2.1 (show d + (5 + 1) = N by omega) ha
          have hsN : s9 - 1 = N := by omega
          have hcf : a + fq (usp N a d) (s9 - 1) * fac 5 = a + fac 6 := by rw [hsN, hfn, hfc]
          refine r_iload C dX1_fillCodes_71 6 rfl ?_
          exact r_iret C hr hlocks (Nat.le_of_ble_eq_true rfl) (Nat.le_of_ble_eq_true rfl) dX1_fillCodes_73 (hpo _ _ _ ⟨by rw [hcf], rfl, w1, rfl, fun q h1 h2 => hwa q h1 (by rw [hcf]; exact h2), hw0⟩)
        · refine r_iload C dX1_fillCodes_28 4 rfl ?_
          refine r_iconst (v := nI 1) C dX1_fillCodes_30 (by decide) ?_
          refine r_iload C dX1_fillCodes_31 7 rfl ?_
          refine r_ishlN C dX1_fillCodes_33 (by omega) ?_
          have hand := Nat.and_le_left (n := usp N a d) (m := 1 * 2 ^ s9)
          refine r_iandN C dX1_fillCodes_34 ?_
          refine r_if_neN (tgt := 65) C dX1_fillCodes_35 (by decide) (by omega) (fun c35 => ?_) (fun c35 => ?_)
          · have hfq := fq_used hs1 c35
            refine r_iinc (v := nI (s9 + 1)) (lv2 := [(7, .int (nI (s9 + 1))), (0, .ref pa), (1, .int (nI a)), (2, .int (nI N)), (3, .int (nI (cdp N a d))), (4, .int (nI (usp N a d))), (5, .int (nI d)), (6, .int (nI (a + fq (usp N a d) (s9 - 1) * fac 5)))]) C dX1_fillCodes_65 (k := 7) rfl (nI_add _ 1) (by decide) rfl ?_
            refine r_goto (tgt := 22) C dX1_fillCodes_68 (by decide) ?_
            refine V.sub (lv2 := [(0, .ref pa), (1, .int (nI a)), (2, .int (nI N)), (3, .int (nI (cdp N a d))), (4, .int (nI (usp N a d))), (5, .int (nI d)), (6, .int (nI (a + fq (usp N a d) (s9 - 1) * fac 5))), (7, .int (nI (s9 + 1)))]) [1, 2, 3, 4, 5, 6, 7, 0] rfl ?_
            refine V.eq (σ2 := (RW σ pa [(aI G (fac N) w1)])) (lv2 := [(0, .ref pa), (1, .int (nI a)), (2, .int (nI N)), (3, .int (nI (cdp N a d))), (4, .int (nI (usp N a d))), (5, .int (nI d)), (6, .int (nI (a + fq (usp N a d) ((s9 + 1) - 1) * fac 5))), (7, .int (nI (s9 + 1)))]) (st2 := []) rfl rfl (by rw [(show nI (a + fq (usp N a d) (s9 - 1) * fac 5) = nI (a + fq (usp N a d) ((s9 + 1) - 1) * fac 5) from congrArg nI (by rw [show s9 + 1 - 1 = s9 by omega]; first | (rw [hfq]; done) | (rw [hfq, Nat.add_mul, Nat.one_mul, Nat.add_assoc]; done) | (rw [hfq, Nat.add_mul, Nat.one_mul, Nat.add_assoc]; rfl)))]) rfl ?_
            exact ih22 (s9 + 1) w1 (by omega) (by omega) (by rw [show s9 + 1 - 1 = s9 by omega, hfq]; first | exact hwa | exact fc_w hwa hn1 hn0) (by first | exact hw0 | exact fun q h => (hn0 q (by omega)).trans (hw0 q h)) (by omega)
          · have hfa := fc_ok (s := s9) hL.2.1 (show d + (5 + 1) = N by omega) ha ham hs1 (by omega) c35
            have hfq := fq_free hs1 c35
            refine r_aload_n C dX1_fillCodes_38 rfl 0 rfl ?_
            refine r_iload C dX1_fillCodes_39 6 rfl ?_
            refine r_iload_n C dX1_fillCodes_41 rfl 2 rfl ?_
            refine r_iload_n C dX1_fillCodes_42 rfl 3 rfl ?_
            refine r_bipush (v := nI 10) C dX1_fillCodes_43 (by decide) ?_
            refine r_imulN C dX1_fillCodes_45 ?_
            refine r_iload C dX1_fillCodes_46 7 rfl ?_
            refine r_iaddN C dX1_fillCodes_48 ?_
            refine V.top (y := nI (cdp N (a + fq (usp N a d) (s9 - 1) * fac 5) (d + 1))) (congrArg nI hfa.2.2.1.symm) ?_
            refine r_iload C dX1_fillCodes_49 4 rfl ?_
            refine r_iconst (v := nI 1) C dX1_fillCodes_51 (by decide) ?_
            refine r_iload C dX1_fillCodes_52 7 rfl ?_
            refine r_ishlN C dX1_fillCodes_54 (by omega) ?_
            refine r_iorN C dX1_fillCodes_55 ?_
            refine V.top (y := nI (usp N (a + fq (usp N a d) (s9 - 1) * fac 5) (d + 1))) (congrArg nI hfa.2.2.2.symm) ?_
            refine r_iload C dX1_fillCodes_56 5 rfl ?_
            refine r_iconst (v := nI 1) C dX1_fillCodes_58 (by decide) ?_
            refine r_iaddN C dX1_fillCodes_59 ?_
            refine r_callS (As := [.ref pa, .int (nI (a + fq (usp N a d) (s9 - 1) * fac 5)), .int (nI N), .int (nI (cdp N (a + fq (usp N a d) (s9 - 1) * fac 5) (d + 1))), .int (nI (usp N (a + fq (usp N a d) (s9 - 1) * fac 5) (d + 1))), .int (nI (d + 1))]) C (c_X1_fillCodes_5 (pa := pa) (N := N) (sb := sb) (f1 := w1) (a := (a + fq (usp N a d) (s9 - 1) * fac 5)) (d := d + 1) (RW_at0 rfl) (by first | assumption | omega) (by omega) (hfa.1) (hfa.2.1)) wM_X1_41 wS_X1_fillCodes wN_X1 wC_X1_fillCodes hd_X1_fillCodes ⟨Nat.le_of_ble_eq_true rfl, Nat.le_of_ble_eq_true rfl⟩ rfl rfl (Nat.le_of_ble_eq_true rfl) dX1_fillCodes_60 ⟨(Nat.le_of_ble_eq_true rfl), (Nat.le_of_ble_eq_true rfl)⟩ (fun rv n2 σ2 hp => ?_)
            obtain ⟨rfl, rfl, n1, rfl, hn1, hn0⟩ := hp
            refine V.eq (σ2 := (RW (RW σ pa [(aI G (fac N) w1)]) pa [(aI G (fac N) n1)])) (n2 := n) (st2 := [.int (nI ((a + fq (usp N a d) (s9 - 1) * fac 5) + fac 5))]) rfl rfl rfl rfl ?_
            refine V.hp (σ2 := (RW σ pa [(aI G (fac N) n1)])) (RW_in0 (m := 1) rfl (Nat.le_of_ble_eq_true rfl) rfl) ?_
            refine r_istore (lv2 := [(6, .int (nI ((a + fq (usp N a d) (s9 - 1) * fac 5) + fac 5))), (0, .ref pa), (1, .int (nI a)), (2, .int (nI N)), (3, .int (nI (cdp N a d))), (4, .int (nI (usp N a d))), (5, .int (nI d)), (7, .int (nI s9))]) C dX1_fillCodes_63 (by decide) rfl ?_
            refine r_iinc (v := nI (s9 + 1)) (lv2 := [(7, .int (nI (s9 + 1))), (6, .int (nI ((a + fq (usp N a d) (s9 - 1) * fac 5) + fac 5))), (0, .ref pa), (1, .int (nI a)), (2, .int (nI N)), (3, .int (nI (cdp N a d))), (4, .int (nI (usp N a d))), (5, .int (nI d))]) C dX1_fillCodes_65 (k := 7) rfl (nI_add _ 1) (by decide) rfl ?_
            refine r_goto (tgt := 22) C dX1_fillCodes_68 (by decide) ?_
            refine V.sub (lv2 := [(0, .ref pa), (1, .int (nI a)), (2, .int (nI N)), (3, .int (nI (cdp N a d))), (4, .int (nI (usp N a d))), (5, .int (nI d)), (6, .int (nI ((a + fq (usp N a d) (s9 - 1) * fac 5) + fac 5))), (7, .int (nI (s9 + 1)))]) [2, 3, 4, 5, 6, 7, 1, 0] rfl ?_
            refine V.eq (σ2 := (RW σ pa [(aI G (fac N) n1)])) (lv2 := [(0, .ref pa), (1, .int (nI a)), (2, .int (nI N)), (3, .int (nI (cdp N a d))), (4, .int (nI (usp N a d))), (5, .int (nI d)), (6, .int (nI (a + fq (usp N a d) ((s9 + 1) - 1) * fac 5))), (7, .int (nI (s9 + 1)))]) (st2 := []) rfl rfl (by rw [(show nI ((a + fq (usp N a d) (s9 - 1) * fac 5) + fac 5) = nI (a + fq (usp N a d) ((s9 + 1) - 1) * fac 5) from congrArg nI (by rw [show s9 + 1 - 1 = s9 by omega]; first | (rw [hfq]; done) | (rw [hfq, Nat.add_mul, Nat.one_mul, Nat.add_assoc]; done) | (rw [hfq, Nat.add_mul, Nat.one_mul, Nat.add_assoc]; rfl)))]) rfl ?_
            exact ih22 (s9 + 1) n1 (by omega) (by omega) (by rw [show s9 + 1 - 1 = s9 by omega, hfq]; first | exact hwa | exact fc_w hwa hn1 hn0) (by first | exact hw0 | exact fun q h => (hn0 q (by omega)).trans (hw0 q h)) (by omega)
    refine V.sub (lv2 := [(0, .ref pa), (1, .int (nI a)), (2, .int (nI N)), (3, .int (nI (cdp N a d))), (4, .int (nI (usp N a d))), (5, .int (nI d)), (6, .int (nI a)), (7, .int (nI 1))]) [2, 3, 4, 5, 6, 7, 1, 0] rfl ?_
    refine V.eq (σ2 := (RW σ pa [(aI G (fac N) f1)])) (lv2 := [(0, .ref pa), (1, .int (nI a)), (2, .int (nI N)), (3, .int (nI (cdp N a d))), (4, .int (nI (usp N a d))), (5, .int (nI d)), (6, .int (nI (a + fq (usp N a d) (1 - 1) * fac 5))), (7, .int (nI 1))]) (st2 := []) rfl rfl (by rw [(show nI a = nI (a + fq (usp N a d) (1 - 1) * fac 5) from by simp [fq])]) rfl ?_
    exact L22 _ 1 f1 (by omega) (by omega) (fun q h1 h2 => absurd h2 (by first | (simp [fq]; done) | (simp [fq]; omega))) (fun _ _ => rfl) (Nat.lt_succ_self _)
  · exact absurd c3 (by omega)
