theorem k_m4 : (List.range 2049).all (fun L => decide ((nI L - nI 4).toInt = (L : Int) - 4)) = true := by decide +kernel
theorem m4 {L : Nat} (h : L ≤ 2048) : (nI L - nI 4).toInt = (L : Int) - 4 := of_decide_eq_true (dec1 k_m4 L (by omega))
theorem gt_t {L i : Nat} (hL : L ≤ 2048) (hi : 4 * i ≤ 2048) (h : nI L - nI 4 < nI (4 * i)) : L < 4 * i + 4 := by
  have := Int32.lt_iff_toInt_lt.mp h
  rw [m4 hL, nI_toInt (by omega)] at this
  omega
theorem gt_f {L i : Nat} (hL : L ≤ 2048) (hi : 4 * i ≤ 2048) (h : ¬ nI L - nI 4 < nI (4 * i)) : 4 * i + 4 ≤ L := by
  have := Int32.le_iff_toInt_le.mp (Int32.not_lt.mp h)
  rw [m4 hL, nI_toInt (by omega)] at this
  omega

set_option maxHeartbeats 1000000 in
theorem law_next {p : Program} {l : Launch} {e : Env} {s : State} {m : MethodId} {below : List Frame} {meth : Method} {c : Code} {G : gG} {b b0 L i n mi cells slots : Nat} {σ : gS} {Z : ZT} {fu : Nat}
    (ih : ∀ (i n mi : Nat) (σ : gS) (Z : ZT), L + 4 ≤ 4 * i + 4 * fu → 4 * i ≤ L → mi ≤ 13 → ZOK Z → WX G b0 n σ Z mi → WM G b0 σ Z → V p l e room_1 s m #[Value.ref b] below meth c G 4 (lw_Z below #[Value.ref b] s) (100 + 7 * i + 7 * (13 - mi)) (40000 + 7686 * i + 31935 * (13 - mi)) n σ 18 [(0, .ref b), (1, .ref b0), (2, .ref (b0 + 44)), (3, .int (nI (4 * i)))] [])
    (C : Cx p s m #[Value.ref b] c code 4 RL G) (hfu : L + 4 ≤ 4 * i + 4 * (fu + 1)) (hi : 4 * i + 4 ≤ L) (hmi : mi ≤ 13) (hZ : ZOK Z) (hW : WX G b0 n σ Z mi) (hM : WM G b0 σ Z) (hc : cells ≤ 100 + 7 * (i + 1) + 7 * (13 - mi)) (hs : slots ≤ 40000 + 7686 * (i + 1) + 31935 * (13 - mi)) : V p l e room_1 s m #[Value.ref b] below meth c G 4 (lw_Z below #[Value.ref b] s) cells slots n σ 745 [(0, .ref b), (1, .ref b0), (2, .ref (b0 + 44)), (3, .int (nI (4 * i)))] [] := by
  refine r_iinc (v := nI (4 * (i + 1))) (lv2 := [(3, .int (nI (4 * (i + 1)))), (0, .ref b), (1, .ref b0), (2, .ref (b0 + 44))]) C dL_law_745 (k := 3) rfl (nI_add _ 4) (by decide) rfl ?_
  refine r_goto (tgt := 18) C dL_law_748 (by decide) ?_
  refine V.sub (lv2 := [(0, .ref b), (1, .ref b0), (2, .ref (b0 + 44)), (3, .int (nI (4 * (i + 1))))]) [1, 2, 3, 0] rfl ?_
  refine V.widen hc hs ?_
  exact ih (i + 1) n mi σ Z (by omega) (by omega) hmi hZ hW hM

set_option maxHeartbeats 4000000 in
theorem law_loop {p : Program} {l : Launch} {e : Env} {s : State} {m : MethodId} {below : List Frame} {meth : Method} {c : Code} {G : gG} {b b0 L : Nat} {xs : Nat → Int32} (C : Cx p s m #[Value.ref b] c code 4 RL G) (hr : meth.sig.returnType = ret) (hlocks : meth.locks = false) (hX : va_X b L xs s s.heap) (hbl : b < s.heap.size) (hG : G.2.2 = s.heap.size) (hL : L ≤ 2048) : ∀ (fu i n mi : Nat) (σ : gS) (Z : ZT), L + 4 ≤ 4 * i + 4 * fu → 4 * i ≤ L → mi ≤ 13 → ZOK Z → WX G b0 n σ Z mi → WM G b0 σ Z → V p l e room_1 s m #[Value.ref b] below meth c G 4 (lw_Z below #[Value.ref b] s) (100 + 7 * i + 7 * (13 - mi)) (40000 + 7686 * i + 31935 * (13 - mi)) n σ 18 [(0, .ref b), (1, .ref b0), (2, .ref (b0 + 44)), (3, .int (nI (4 * i)))] [] := by
  intro fu
  induction fu with
  | zero => intro i n mi σ Z h1 h2; exact absurd h1 (by omega)
  | succ fu ih =>
    intro i n mi σ Z hfu hi0 hmi hZ hW hM
    refine r_iload_n C dL_law_18 rfl 3 rfl ?_
    refine r_aload_n C dL_law_19 rfl 0 rfl ?_
    refine r_slen C hX hbl hG dL_law_20 ?_
    refine r_iconst (v := nI 4) C dL_law_21 (by decide) ?_
    refine r_isub C dL_law_22 ?_
    refine r_icmp_gt (tgt := 751) C dL_law_23 (by decide) (fun cg => ?_) (fun cg => ?_)
    · refine r_iconst (v := 1) C dL_law_751 (by decide) ?_
      intro H locs ls h1 h2 h3
      refine va_forget (fun q hq => by have h9 : G.2.2 ≤ q.base := h2.2.2 q hq; omega) ?_
      refine W.widen (k := 600000) (n := 7302250) (by omega) (by omega) ?_
      exact lw_ret C.1 C.2.1 hr hlocks dL_law_752
    · have hi := gt_f hL (by omega) cg
      have hnx := fun {n2 m2 : Nat} {σ2 : gS} {Z2 : ZT} {c2 s2 : Nat} => law_next (i := i) (n := n2) (mi := m2) (σ := σ2) (Z := Z2) (cells := c2) (slots := s2) ih C hfu hi
      refine r_aload_n C dL_law_26 rfl 0 rfl ?_
      refine r_iload_n C dL_law_27 rfl 3 rfl ?_
      refine r_sld C hX hbl hG (i := 4 * i) (by omega) (by omega) dL_law_28 ?_
      refine r_bipush (v := nI 31) C dL_law_29 (by decide) ?_
      refine r_iand C dL_law_31 ?_
      generalize xs (4 * i) &&& nI 31 = v
      by_cases hsw : v.toInt < 0 ∨ 20 < v.toInt
      · refine r_tableOut (tgt := 745) C dL_law_32 hsw (by decide) ?_
        exact hnx hmi hZ hW hM (by omega) (by omega)
      · obtain ⟨hlo, hhi⟩ := not_or.mp hsw
        rcases (show v.toInt = 0 ∨ v.toInt = 1 ∨ v.toInt = 2 ∨ v.toInt = 3 ∨ v.toInt = 4 ∨ v.toInt = 5 ∨ v.toInt = 6 ∨ v.toInt = 7 ∨ v.toInt = 8 ∨ v.toInt = 9 ∨ v.toInt = 10 ∨ v.toInt = 11 ∨ v.toInt = 12 ∨ v.toInt = 13 ∨ v.toInt = 14 ∨ v.toInt = 15 ∨ v.toInt = 16 ∨ v.toInt = 17 ∨ v.toInt = 18 ∨ v.toInt = 19 ∨ v.toInt = 20 by omega) with hz | hz | hz | hz | hz | hz | hz | hz | hz | hz | hz | hz | hz | hz | hz | hz | hz | hz | hz | hz | hz
        · refine r_tableIn (tgt := 132) C dL_law_32 hlo hhi (by rw [hz]; rfl) (by decide) ?_
          exact law_stack C hX hbl hG hL hi hZ hW hM (by omega) (by omega) (fun n2 σ2 Z2 hZ2 hW2 hM2 => hnx hmi hZ2 hW2 hM2 (by omega) (by omega)) (fun n2 σ2 Z2 h1 hZ2 hW2 hM2 => hnx (by omega) hZ2 hW2 hM2 (by omega) (by omega))
        · refine r_tableIn (tgt := 175) C dL_law_32 hlo hhi (by rw [hz]; rfl) (by decide) ?_
          exact law_lay C hX hbl hG hL hi hZ hW hM (by omega) (by omega) (fun n2 σ2 Z2 hZ2 hW2 hM2 => hnx hmi hZ2 hW2 hM2 (by omega) (by omega)) (fun n2 σ2 Z2 h1 hZ2 hW2 hM2 => hnx (by omega) hZ2 hW2 hM2 (by omega) (by omega))
        · refine r_tableIn (tgt := 218) C dL_law_32 hlo hhi (by rw [hz]; rfl) (by decide) ?_
          exact law_turn C hX hbl hG hL hi hZ hW hM (by omega) (by omega) (fun n2 σ2 Z2 hZ2 hW2 hM2 => hnx hmi hZ2 hW2 hM2 (by omega) (by omega)) (fun n2 σ2 Z2 h1 hZ2 hW2 hM2 => hnx (by omega) hZ2 hW2 hM2 (by omega) (by omega))
        · refine r_tableIn (tgt := 251) C dL_law_32 hlo hhi (by rw [hz]; rfl) (by decide) ?_
          exact law_doRow C hX hbl hG hL hi hZ hW hM (by omega) (by omega) (fun n2 σ2 Z2 hZ2 hW2 hM2 => hnx hmi hZ2 hW2 hM2 (by omega) (by omega)) (fun n2 σ2 Z2 h1 hZ2 hW2 hM2 => hnx (by omega) hZ2 hW2 hM2 (by omega) (by omega))
        · refine r_tableIn (tgt := 284) C dL_law_32 hlo hhi (by rw [hz]; rfl) (by decide) ?_
          exact law_stackOf C hX hbl hG hL hi hZ hW hM (by omega) (by omega) (fun n2 σ2 Z2 hZ2 hW2 hM2 => hnx hmi hZ2 hW2 hM2 (by omega) (by omega)) (fun n2 σ2 Z2 h1 hZ2 hW2 hM2 => hnx (by omega) hZ2 hW2 hM2 (by omega) (by omega))
        · refine r_tableIn (tgt := 317) C dL_law_32 hlo hhi (by rw [hz]; rfl) (by decide) ?_
          exact law_cakeAt C hX hbl hG hL hi hZ hW hM (by omega) (by omega) (fun n2 σ2 Z2 hZ2 hW2 hM2 => hnx hmi hZ2 hW2 hM2 (by omega) (by omega)) (fun n2 σ2 Z2 h1 hZ2 hW2 hM2 => hnx (by omega) hZ2 hW2 hM2 (by omega) (by omega))
        · refine r_tableIn (tgt := 350) C dL_law_32 hlo hhi (by rw [hz]; rfl) (by decide) ?_
          exact law_gapsBehind C hX hbl hG hL hi hZ hW hM (by omega) (by omega) (fun n2 σ2 Z2 hZ2 hW2 hM2 => hnx hmi hZ2 hW2 hM2 (by omega) (by omega)) (fun n2 σ2 Z2 h1 hZ2 hW2 hM2 => hnx (by omega) hZ2 hW2 hM2 (by omega) (by omega))
        · refine r_tableIn (tgt := 383) C dL_law_32 hlo hhi (by rw [hz]; rfl) (by decide) ?_
          exact law_fewest C hX hbl hG hL hi hZ hW hM (by omega) (by omega) (fun n2 σ2 Z2 hZ2 hW2 hM2 => hnx hmi hZ2 hW2 hM2 (by omega) (by omega)) (fun n2 σ2 Z2 h1 hZ2 hW2 hM2 => hnx (by omega) hZ2 hW2 hM2 (by omega) (by omega))
        · refine r_tableIn (tgt := 416) C dL_law_32 hlo hhi (by rw [hz]; rfl) (by decide) ?_
          exact law_leastWork C hX hbl hG hL hi hZ hW hM (by omega) (by omega) (fun n2 σ2 Z2 hZ2 hW2 hM2 => hnx hmi hZ2 hW2 hM2 (by omega) (by omega)) (fun n2 σ2 Z2 h1 hZ2 hW2 hM2 => hnx (by omega) hZ2 hW2 hM2 (by omega) (by omega))
        · refine r_tableIn (tgt := 439) C dL_law_32 hlo hhi (by rw [hz]; rfl) (by decide) ?_
          exact law_ways C hX hbl hG hL hi hZ hW hM (by omega) (by omega) (fun n2 σ2 Z2 hZ2 hW2 hM2 => hnx hmi hZ2 hW2 hM2 (by omega) (by omega)) (fun n2 σ2 Z2 h1 hZ2 hW2 hM2 => hnx (by omega) hZ2 hW2 hM2 (by omega) (by omega))
        · refine r_tableIn (tgt := 472) C dL_law_32 hlo hhi (by rw [hz]; rfl) (by decide) ?_
          exact law_lookedAt C hX hbl hG hL hi hZ hW hM (by omega) (by omega) (fun n2 σ2 Z2 hZ2 hW2 hM2 => hnx hmi hZ2 hW2 hM2 (by omega) (by omega)) (fun n2 σ2 Z2 h1 hZ2 hW2 hM2 => hnx (by omega) hZ2 hW2 hM2 (by omega) (by omega))
        · refine r_tableIn (tgt := 505) C dL_law_32 hlo hhi (by rw [hz]; rfl) (by decide) ?_
          exact law_simple C hX hbl hG hL hi hZ hW hM (by omega) (by omega) (fun n2 σ2 Z2 hZ2 hW2 hM2 => hnx hmi hZ2 hW2 hM2 (by omega) (by omega)) (fun n2 σ2 Z2 h1 hZ2 hW2 hM2 => hnx (by omega) hZ2 hW2 hM2 (by omega) (by omega))
        · refine r_tableIn (tgt := 538) C dL_law_32 hlo hhi (by rw [hz]; rfl) (by decide) ?_
          exact law_bestTurn C hX hbl hG hL hi hZ hW hM (by omega) (by omega) (fun n2 σ2 Z2 hZ2 hW2 hM2 => hnx hmi hZ2 hW2 hM2 (by omega) (by omega)) (fun n2 σ2 Z2 h1 hZ2 hW2 hM2 => hnx (by omega) hZ2 hW2 hM2 (by omega) (by omega))
        · refine r_tableIn (tgt := 561) C dL_law_32 hlo hhi (by rw [hz]; rfl) (by decide) ?_
          exact law_ranked C hX hbl hG hL hi hZ hW hM (by omega) (by omega) (fun n2 σ2 Z2 hZ2 hW2 hM2 => hnx hmi hZ2 hW2 hM2 (by omega) (by omega)) (fun n2 σ2 Z2 h1 hZ2 hW2 hM2 => hnx (by omega) hZ2 hW2 hM2 (by omega) (by omega))
        · refine r_tableIn (tgt := 604) C dL_law_32 hlo hhi (by rw [hz]; rfl) (by decide) ?_
          exact law_ofDistance C hX hbl hG hL hi hZ hW hM (by omega) (by omega) (fun n2 σ2 Z2 hZ2 hW2 hM2 => hnx hmi hZ2 hW2 hM2 (by omega) (by omega)) (fun n2 σ2 Z2 h1 hZ2 hW2 hM2 => hnx (by omega) hZ2 hW2 hM2 (by omega) (by omega))
        · refine r_tableIn (tgt := 637) C dL_law_32 hlo hhi (by rw [hz]; rfl) (by decide) ?_
          exact law_count C hX hbl hG hL hi hZ hW hM (by omega) (by omega) (fun n2 σ2 Z2 hZ2 hW2 hM2 => hnx hmi hZ2 hW2 hM2 (by omega) (by omega)) (fun n2 σ2 Z2 h1 hZ2 hW2 hM2 => hnx (by omega) hZ2 hW2 hM2 (by omega) (by omega))
        · refine r_tableIn (tgt := 660) C dL_law_32 hlo hhi (by rw [hz]; rfl) (by decide) ?_
          exact law_undo C hX hbl hG hL hi hZ hW hM (by omega) (by omega) (fun n2 σ2 Z2 hZ2 hW2 hM2 => hnx hmi hZ2 hW2 hM2 (by omega) (by omega)) (fun n2 σ2 Z2 h1 hZ2 hW2 hM2 => hnx (by omega) hZ2 hW2 hM2 (by omega) (by omega))
        · refine r_tableIn (tgt := 673) C dL_law_32 hlo hhi (by rw [hz]; rfl) (by decide) ?_
          exact law_type C hX hbl hG hL hi hZ hW hM (by omega) (by omega) (fun n2 σ2 Z2 hZ2 hW2 hM2 => hnx hmi hZ2 hW2 hM2 (by omega) (by omega)) (fun n2 σ2 Z2 h1 hZ2 hW2 hM2 => hnx (by omega) hZ2 hW2 hM2 (by omega) (by omega))
        · refine r_tableIn (tgt := 696) C dL_law_32 hlo hhi (by rw [hz]; rfl) (by decide) ?_
          exact law_clearText C hX hbl hG hL hi hZ hW hM (by omega) (by omega) (fun n2 σ2 Z2 hZ2 hW2 hM2 => hnx hmi hZ2 hW2 hM2 (by omega) (by omega)) (fun n2 σ2 Z2 h1 hZ2 hW2 hM2 => hnx (by omega) hZ2 hW2 hM2 (by omega) (by omega))
        · refine r_tableIn (tgt := 709) C dL_law_32 hlo hhi (by rw [hz]; rfl) (by decide) ?_
          exact law_fault C hX hbl hG hL hi hZ hW hM (by omega) (by omega) (fun n2 σ2 Z2 hZ2 hW2 hM2 => hnx hmi hZ2 hW2 hM2 (by omega) (by omega)) (fun n2 σ2 Z2 h1 hZ2 hW2 hM2 => hnx (by omega) hZ2 hW2 hM2 (by omega) (by omega))
        · refine r_tableIn (tgt := 732) C dL_law_32 hlo hhi (by rw [hz]; rfl) (by decide) ?_
          exact law_play C hX hbl hG hL hi hZ hW hM (by omega) (by omega) (fun n2 σ2 Z2 hZ2 hW2 hM2 => hnx hmi hZ2 hW2 hM2 (by omega) (by omega)) (fun n2 σ2 Z2 h1 hZ2 hW2 hM2 => hnx (by omega) hZ2 hW2 hM2 (by omega) (by omega))
theorem RW_mW {G : gG} {σ : gS} {m0 : Nat} : mW G (RW σ m0 [(.inr (7, [.ref (m0 + 1), .ref (m0 + 2), .ref (m0 + 3), .ref (m0 + 4), .int (nI 0), .ref (m0 + 5), .int (nI 0), .int (nI 0), .int (nI 0), .int (nI 0), .int (nI 0), .int (nI 0), .int (nI 0), .ref (m0 + 6), .ref (m0 + 7), .ref (m0 + 8), .ref (m0 + 9), .ref (m0 + 10), .ref (m0 + 11), .ref (m0 + 12), .ref (m0 + 13)])), (aI G 38 (fun _ => 0)), (aI G 152 (fun _ => 0)), (aI G 38 (fun _ => 0)), (aI G 38 (fun _ => 0)), (aC G 50 (fun _ => 0)), (aI G 6 (fun _ => 0)), (aI G 6 (fun _ => 0)), (aI G 23040 (fun _ => 0)), (aI G 3840 (fun _ => 0)), (aI G 3840 (fun _ => 0)), (aI G 3840 (fun _ => 0)), (aI G 8 (fun _ => 0)), (aI G 8 (fun _ => 0))]) m0 [nI 0, nI 0, nI 0, nI 0, nI 0, nI 0, nI 0, nI 0] [fun _ => 0, fun _ => 0, fun _ => 0, fun _ => 0, fun _ => 0, fun _ => 0, fun _ => 0, fun _ => 0, fun _ => 0, fun _ => 0, fun _ => 0, fun _ => 0, fun _ => 0] = RW σ m0 [(.inr (7, [.ref (m0 + 1), .ref (m0 + 2), .ref (m0 + 3), .ref (m0 + 4), .int (nI 0), .ref (m0 + 5), .int (nI 0), .int (nI 0), .int (nI 0), .int (nI 0), .int (nI 0), .int (nI 0), .int (nI 0), .ref (m0 + 6), .ref (m0 + 7), .ref (m0 + 8), .ref (m0 + 9), .ref (m0 + 10), .ref (m0 + 11), .ref (m0 + 12), .ref (m0 + 13)])), (aI G 38 (fun _ => 0)), (aI G 152 (fun _ => 0)), (aI G 38 (fun _ => 0)), (aI G 38 (fun _ => 0)), (aC G 50 (fun _ => 0)), (aI G 6 (fun _ => 0)), (aI G 6 (fun _ => 0)), (aI G 23040 (fun _ => 0)), (aI G 3840 (fun _ => 0)), (aI G 3840 (fun _ => 0)), (aI G 3840 (fun _ => 0)), (aI G 8 (fun _ => 0)), (aI G 8 (fun _ => 0))] := by
  funext q
  by_cases h : q = m0
  · rw [h, mW_o]
    exact (RW_at0 rfl).symm
  · by_cases h1 : m0 < q ∧ q ≤ m0 + 13
    · obtain ⟨j, hj, rfl⟩ : ∃ j, j < 13 ∧ q = m0 + (j + 1) := ⟨q - m0 - 1, by omega, by omega⟩
      rw [mW_a _ _ _ _ _ hj]
      rcases (show j = 0 ∨ j = 1 ∨ j = 2 ∨ j = 3 ∨ j = 4 ∨ j = 5 ∨ j = 6 ∨ j = 7 ∨ j = 8 ∨ j = 9 ∨ j = 10 ∨ j = 11 ∨ j = 12 by omega) with rfl | rfl | rfl | rfl | rfl | rfl | rfl | rfl | rfl | rfl | rfl | rfl | rfl
      · exact (RW_at 1 rfl).symm
      · exact (RW_at 2 rfl).symm
      · exact (RW_at 3 rfl).symm
      · exact (RW_at 4 rfl).symm
      · exact (RW_at 5 rfl).symm
      · exact (RW_at 6 rfl).symm
      · exact (RW_at 7 rfl).symm
      · exact (RW_at 8 rfl).symm
      · exact (RW_at 9 rfl).symm
      · exact (RW_at 10 rfl).symm
      · exact (RW_at 11 rfl).symm
      · exact (RW_at 12 rfl).symm
      · exact (RW_at 13 rfl).symm
    · simp only [mW, if_neg h, if_neg h1]

def aZ : AK := (0, 0, fun _ => (0, 0, 0), fun _ => (0, 0), fun _ => 0, fun _ => 0, fun _ => 0)
def zZ : ZT := (aZ, fun _ => aZ, 0, fun _ => 0, 0)
theorem zZ_ok : ZOK zZ := ⟨⟨Nat.zero_le _, by decide, fun k hk => absurd hk (Nat.not_lt_zero k)⟩, fun i hi => absurd hi (Nat.not_lt_zero i), Nat.zero_le _, Nat.zero_le _, fun _ => (by show 0 < 128; decide)⟩
theorem mrZ : MR (fun _ => 0) aZ := ⟨rfl, rfl, fun _ _ => rfl, fun _ _ => rfl, fun k hk => absurd hk (Nat.not_lt_zero k)⟩
theorem kaZ : KA kZ aZ := ⟨rfl, rfl, fun _ _ => rfl, fun _ _ => rfl, fun k hk => absurd hk (Nat.not_lt_zero k)⟩
theorem kshZ {tau : Nat → Option Rl} : KSh tau kZ := fun i v hv => by cases hv
theorem dynZ {G : gG} {B n : Nat} {σ : gS} : DynI G B n σ (fun _ => none) := ⟨fun q r h => (by cases h), fun q r q2 r2 h => (by cases h), fun q kd N h => (by cases h), fun q kd N sr la h => (by cases h), fun q kd N sr la sa h => (by cases h)⟩
theorem shelfZ : ShelfR (fun _ => none) (fun _ => none) (fun _ => none) (fun _ => none) := ⟨fun N la _ h => (by cases h), fun N la _ h => (by cases h), fun kd N sr sa _ _ _ h => (by cases h)⟩

set_option maxHeartbeats 4000000 in
theorem law_start {p : Program} {l : Launch} {e : Env} {s : State} {m : MethodId} {below : List Frame} {meth : Method} {c : Code} {G : gG} {b L : Nat} {xs : Nat → Int32} (C : Cx p s m #[Value.ref b] c code 4 RL G) (hr : meth.sig.returnType = ret) (hlocks : meth.locks = false) (hX : va_X b L xs s s.heap) (hbl : b < s.heap.size) (hG : G.2.2 = s.heap.size) (hL : L ≤ 2048) (b0 : Nat) : V p l e room_1 s m #[Value.ref b] below meth c G 4 (lw_Z below #[Value.ref b] s) 0 0 b0 (fun _ => none) 0 [(0, .ref b)] [] := by
  refine r_new (fs := [.null, .null, .null, .null, .null, .int (nI 0)]) C inlX6 tyX6 tyX6_ok wK_L_7 wB_X6 wN_X6 (ci := 6) rfl (by decide) (Nat.le_of_ble_eq_true rfl) (Nat.le_of_ble_eq_true rfl) dL_law_0 ?_
  refine r_dup C dL_law_3 rfl ?_
  refine r_callI (As := []) C (c_X6_init (b0 := b0) (hU_at _ _ _)) wM_L_9 wI_X6_init wN_X6 wC_X6_init rfl hd_X6_init ⟨Nat.le_of_ble_eq_true rfl, Nat.le_of_ble_eq_true rfl⟩ rfl rfl (Nat.le_of_ble_eq_true rfl) dL_law_4 ⟨Nat.le_of_ble_eq_true rfl, Nat.le_of_ble_eq_true rfl⟩ (fun rv n2 σ2 hp => ?_)
  obtain ⟨rfl, rfl, hx⟩ := hp
  refine V.eq (n2 := b0 + 44) (σ2 := σ2) (st2 := [.ref b0]) rfl rfl rfl rfl ?_
  refine r_astore_n (lv2 := [(1, .ref b0), (0, .ref b)]) C dL_law_7 rfl (by decide) rfl ?_
  refine r_new (fs := [.null, .null, .null, .null, .int (nI 0), .null, .int (nI 0), .int (nI 0), .int (nI 0), .int (nI 0), .int (nI 0), .int (nI 0), .int (nI 0), .null, .null, .null, .null, .null, .null, .null, .null]) C inlX7 tyX7 tyX7_ok wK_L_10 wB_X7 wN_X7 (ci := 7) rfl (by decide) (Nat.le_of_ble_eq_true rfl) (Nat.le_of_ble_eq_true rfl) dL_law_8 ?_
  refine r_dup C dL_law_11 rfl ?_
  refine r_callI (As := []) C (c_X7_init (m0 := b0 + 44) (hU_at _ _ _)) wM_L_12 wI_X7_init wN_X7 wC_X7_init rfl hd_X7_init ⟨Nat.le_of_ble_eq_true rfl, Nat.le_of_ble_eq_true rfl⟩ rfl rfl (Nat.le_of_ble_eq_true rfl) dL_law_12 ⟨Nat.le_of_ble_eq_true rfl, Nat.le_of_ble_eq_true rfl⟩ (fun rv n3 σ3 hp => ?_)
  obtain ⟨rfl, rfl, hm⟩ := hp
  refine V.eq (n2 := b0 + 58) (σ2 := σ3) (st2 := [.ref (b0 + 44)]) rfl rfl rfl rfl ?_
  refine r_astore_n (lv2 := [(2, .ref (b0 + 44)), (1, .ref b0), (0, .ref b)]) C dL_law_15 rfl (by decide) rfl ?_
  refine r_iconst (v := nI 0) C dL_law_16 (by decide) ?_
  refine r_istore_n (lv2 := [(3, .int (nI 0)), (2, .ref (b0 + 44)), (1, .ref b0), (0, .ref b)]) C dL_law_17 rfl (by decide) rfl ?_
  refine V.sub (lv2 := [(0, .ref b), (1, .ref b0), (2, .ref (b0 + 44)), (3, .int (nI 0))]) [3, 2, 1, 0] rfl ?_
  refine V.widen (k2 := 100 + 7 * 0 + 7 * (13 - 13)) (s2 := 40000 + 7686 * 0 + 31935 * (13 - 13)) (Nat.le_of_ble_eq_true rfl) (Nat.le_of_ble_eq_true rfl) ?_
  refine law_loop C hr hlocks hX hbl hG hL (L + 4) 0 (b0 + 58) 13 σ3 zZ (by omega) (by omega) (Nat.le_refl _) zZ_ok ?_ ?_
  · refine ⟨0, fun _ => none, fun _ => none, fun _ => none, fun _ => none, nI 0, nI 0, nI 0, (-1), nI 0, fun _ => 0, kZ, kZ, kZ, kZ, kZ, kZ, by decide, ?_, dynZ, Nat.le_refl _, shelfZ, mis_le _ _, ⟨kshZ, kshZ, kshZ, kshZ, kshZ, kshZ⟩, kaZ, fun k hk => absurd hk (Nat.not_lt_zero k), fun i hi => absurd hi (Nat.not_lt_zero i), fun j hj => absurd hj (Nat.not_lt_zero j)⟩
    refine RW_fix (σ := σ2) ?_ (fun q h1 h2 => ?_)
    · rw [← hx]; rw [hst0_eq]; exact RW_over (Nat.le_refl _)
    · have h2 : q < b0 + 44 := h2
      rw [← hm, RW_ne (m := 14) rfl (by omega), hU_ne (by omega)]
  · refine ⟨nI 0, nI 0, nI 0, nI 0, nI 0, nI 0, fun _ => 0, fun _ => 0, fun _ => 0, fun _ => 0, fun _ => 0, fun _ => 0, fun _ => 0, fun _ => 0, fun _ => 0, fun _ => 0, fun _ => 0, fun _ => 0, fun _ => 0, ?_, mrZ, fun i hi => absurd hi (Nat.not_lt_zero i), fun j hj => absurd hj (Nat.not_lt_zero j)⟩
    rw [← hm]
    exact RW_mW
