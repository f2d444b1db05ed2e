/-- all rows to level L (of it the ranks below q) are lowered by; g is at least each cost that is known -/
def FI (bw : Bool) (kd sr N L q : Nat) (d : Nat → Nat) (g : Nat) : Prop :=
  d 0 = 0 ∧ (∀ r, r < rR (sid kd) N → d r ≤ 1000000) ∧ (∀ r, r < rR (sid kd) N → d r ≠ 1000000 → rc (cF bw) kd sr N (d r) r ∧ d r ≤ g) ∧
  (∀ k, k < rR (sid kd) N → d k < L ∨ (d k = L ∧ k < q) → ∀ m r, r < rR (sid kd) N → ed kd sr N r m k → d r ≤ d k + cF bw m) ∧ q ≤ rR (sid kd) N ∧ g ≤ 19206
theorem FI.init {bw : Bool} {kd sr N : Nat} : FI bw kd sr N 0 0 (fun r => if r = 0 then 0 else 1000000) 0 := by
  refine ⟨rfl, fun r _ => ?_, fun r _ hd => ?_, fun k _ hk => ?_, Nat.zero_le _, Nat.zero_le _⟩
  · show (if r = 0 then 0 else 1000000) ≤ 1000000
    split <;> omega
  · by_cases e : r = 0
    · subst e
      exact ⟨⟨0, rfl, rfl⟩, Nat.le_refl _⟩
    · simp [e] at hd
  · rcases hk with h | h
    · exact absurd h (Nat.not_lt_zero _)
    · exact absurd h.2 (Nat.not_lt_zero _)
theorem FI.skip {bw : Bool} {kd sr N L q g : Nat} {d : Nat → Nat} (h : FI bw kd sr N L q d g) (hne : d q ≠ L) (hq : q < rR (sid kd) N := by omega) : FI bw kd sr N L (q + 1) d g := by
  obtain ⟨h1, h2, h3, h4, h5, h6⟩ := h
  refine ⟨h1, h2, h3, fun k hk hl => h4 k hk ?_, hq, h6⟩
  rcases hl with hl | ⟨hl, hl2⟩
  · exact Or.inl hl
  · rcases Nat.lt_or_eq_of_le (Nat.le_of_lt_succ hl2) with e | e
    · exact Or.inr ⟨hl, e⟩
    · subst e; exact absurd hl hne
theorem FI.level {bw : Bool} {kd sr N L q g : Nat} {d : Nat → Nat} (h : FI bw kd sr N L q d g) (hq : rR (sid kd) N ≤ q) : FI bw kd sr N (L + 1) 0 d g := by
  obtain ⟨h1, h2, h3, h4, h5, h6⟩ := h
  refine ⟨h1, h2, h3, fun k hk hl => h4 k hk ?_, Nat.zero_le _, h6⟩
  rcases hl with hl | ⟨hl, hl2⟩
  · rcases Nat.lt_or_eq_of_le (Nat.le_of_lt_succ hl) with e | e
    · exact Or.inl e
    · exact Or.inr ⟨e, by omega⟩
  · exact absurd hl2 (Nat.not_lt_zero _)
/-- a cheaper row than the level would have been found -/
theorem FI.below {bw : Bool} {kd sr N L q g : Nat} {d : Nat → Nat} (hN : N ≤ 6) (h : FI bw kd sr N L q d g) : ∀ l w r, r < rR (sid kd) N → w < L → pth (cF bw) kd sr N l w r → d r ≤ w := by
  obtain ⟨h1, h2, h3, h4, h5, h6⟩ := h
  intro l
  induction l with
  | zero =>
    intro w r hr hw hp
    obtain ⟨rfl, rfl⟩ := hp
    rw [h1]
    exact Nat.le_refl _
  | succ l ih =>
    intro w r hr hw hp
    obtain ⟨m, r2, w2, e, hw2, hp2⟩ := hp
    have hr2 := (ed_back hN hr e).2
    have g1 := ih w2 r2 hr2 (by omega) hp2
    have g2 := h4 r2 hr2 (Or.inl (by omega)) m r hr e
    omega
theorem pth_costF {bw : Bool} {kd sr N : Nat} (hN : 1 ≤ N) : ∀ l w r, pth (cF bw) kd sr N l w r → w ≤ N * l
  | 0, w, r, h => by have := h.1; omega
  | l + 1, w, r, h => by
    obtain ⟨m, r2, w2, ⟨h1, h2, -, -⟩, hw, hp⟩ := h
    have := pth_costF hN l w2 r2 hp
    have hc : cF bw m ≤ N := by unfold cF; split <;> omega
    rw [Nat.mul_succ]
    omega
theorem rc_bdF {bw : Bool} {kd N sr r w : Nat} (h : shOK kd N sr) (hr : r < rR (sid kd) N) (hw : rc (cF bw) kd sr N w r) : ∃ w2, w2 ≤ 19200 ∧ rc (cF bw) kd sr N w2 r := by
  obtain ⟨l, hl⟩ := hw
  obtain ⟨l2, w2, h1, h2⟩ := rb_pth (c := cF bw) _ r (rb_all h.N hr (pth_rb l w r hl))
  have h3 := pth_costF h.2.1 l2 w2 r h2
  have h4 := wk_le h
  have h5 := Nat.mul_le_mul_left N h1
  exact ⟨w2, by omega, l2, h2⟩
theorem FI.least {bw : Bool} {kd sr N L q g k : Nat} {d : Nat → Nat} (hh : shOK kd N sr) (h : FI bw kd sr N L q d g) (hk : k < rR (sid kd) N) (hd : d k = L) (hL : L ≤ 20001 := by omega) : L ≤ 19200 := by
  obtain ⟨w2, h1, l, hp⟩ := rc_bdF hh hk (h.2.2.1 k hk (by omega)).1
  rcases Nat.lt_or_ge w2 L with e | e
  · have := h.below hh.N l w2 k hk e hp
    omega
  · omega
theorem FI.step {bw : Bool} {kd sr N L q g g2 : Nat} {d d2 : Nat → Nat} (hh : shOK kd N sr) (h : FI bw kd sr N L q d g) (hq : q < rR (sid kd) N) (hd : d q = L) (hS : SPR bw kd sr N q d N d2 g2) (hL : L ≤ 20001 := by omega) : FI bw kd sr N L (q + 1) d2 (max g g2) := by
  have hl := h.least hh hq hd hL
  obtain ⟨h1, h2, h3, h4, h5, h6⟩ := h
  obtain ⟨s1, s2, s3, s4, s5⟩ := hS
  have hN := hh.N
  have hp := rR_pos (sb := sid kd) hN
  have keep : ∀ k, k < rR (sid kd) N → d2 k ≤ L → d2 k = d k := fun k hk hl2 => by
    rcases s3 k hk with e | ⟨m, e, e2, -, -⟩
    · exact e
    · have := (cF_b (bw := bw) e.1 e.2.1 hN).1
      omega
  refine ⟨by have := s2 0 hp; omega, fun r hr => Nat.le_trans (s2 r hr) (h2 r hr), fun r hr hd2 => ?_, fun k hk hl2 m r hr e => ?_, hq, Nat.max_le.mpr ⟨h6, by omega⟩⟩
  · rcases s3 r hr with e | ⟨m, e, e2, e3, -⟩
    · rw [e] at hd2 ⊢
      have := h3 r hr hd2
      exact ⟨this.1, Nat.le_trans this.2 (Nat.le_max_left _ _)⟩
    · obtain ⟨l, hl3⟩ := (h3 q hq (by omega)).1
      exact ⟨⟨l + 1, m, q, d q, e, e2, hl3⟩, by have := Nat.le_max_right g g2; omega⟩
  · have hk2 : d2 k = d k := keep k hk (by omega)
    have hcase : d k < L ∨ (d k = L ∧ k < q) ∨ k = q := by
      rcases hl2 with g1 | ⟨g1, g2⟩
      · exact Or.inl (by omega)
      · rcases Nat.lt_or_eq_of_le (Nat.le_of_lt_succ g2) with g3 | g3
        · exact Or.inr (Or.inl ⟨by omega, g3⟩)
        · exact Or.inr (Or.inr g3)
    rcases hcase with g1 | g1 | g1
    · have := h4 k hk (Or.inl g1) m r hr e
      have := s2 r hr
      omega
    · have := h4 k hk (Or.inr g1) m r hr e
      have := s2 r hr
      omega
    · subst g1
      have hb := (ed_back hN hr e).1
      have := s4 m e.1 e.2.1 (by rw [← hb]; exact e.2.2.1)
      rw [← hb] at this
      omega
theorem FI.done {bw : Bool} {kd sr N L q g : Nat} {d : Nat → Nat} (hh : shOK kd N sr) (h : FI bw kd sr N L q d g) (hg : g < L) : DistIs (cF bw) kd sr N d := by
  obtain ⟨h1, h2, h3, h4, h5, h6⟩ := h
  have key : ∀ l w r, r < rR (sid kd) N → pth (cF bw) kd sr N l w r → d r ≠ 1000000 ∧ d r ≤ w := by
    intro l
    induction l with
    | zero =>
      intro w r hr hp
      obtain ⟨rfl, rfl⟩ := hp
      rw [h1]
      exact ⟨by decide, Nat.le_refl _⟩
    | succ l ih =>
      intro w r hr hp
      obtain ⟨m, r2, w2, e, hw, hp2⟩ := hp
      have hr2 := (ed_back hh.N hr e).2
      obtain ⟨g1, g2⟩ := ih w2 r2 hr2 hp2
      have g3 := (h3 r2 hr2 g1).2
      have g4 := h4 r2 hr2 (Or.inl (by omega)) m r hr e
      have g5 := (cF_b (bw := bw) e.1 e.2.1 hh.N).2
      omega
  intro r hr
  refine ⟨h2 r hr, fun hd => ⟨(h3 r hr hd).1, fun w hw => ?_⟩, fun hd w hw => ?_⟩
  · obtain ⟨l, hl⟩ := hw
    exact (key l w r hr hl).2
  · obtain ⟨l, hl⟩ := hw
    exact (key l w r hr hl).1 hd

abbrev rm_X4_fillCosts : Room := { frames := 3, cells := 0, slots := 0, locals := 88 }
set_option maxRecDepth 100000 in
set_option maxHeartbeats 4000000 in
theorem c_X4_fillCosts {l : Launch} {G : gG} {n : Nat} {σ : gS} {va sa la : Nat} {kd N sr cfl : Nat} {sv : Value} {tk wk : Bool} {f3 : Nat → Int32} {f5 : Nat → Int32} {ca : Nat} {f6 : Nat → Int32} {bw : Bool} (hc0 : σ va = some (.inr (4, [.ref sa, .ref la, .ref (va + 1), .int (bI tk), .ref (va + 2), .int (bI wk)]))) (hc1 : σ sa = some (.inr (2, [.int (nI kd), .int (nI sr), .int (nI N), .ref la, .ref (sa + 1), sv]))) (hc2 : σ (sa + 1) = some (aI G (rR (sid kd) N) f5)) (hc3 : σ la = some (.inr (1, [.int (nI N), .int (nI (rR (sid kd) N)), .int (nI (sbN (sid kd) N)), .int (nI (sm (sid kd) N - 1)), .ref (la + 1), .ref (la + 2), .ref (la + 3), .ref (la + 4)]))) (hc4 : σ (la + 3) = some (aI G (rR (sid kd) N * N) f3)) (hc5 : σ ca = some (aI G (rR (sid kd) N) f6)) (hL : LOK (sid kd) N) (h5 : ∀ r, r < rR (sid kd) N → f5 r = nI (psR kd sr N r)) (h3 : ∀ r, r < rR (sid kd) N → ∀ k, 1 ≤ k → k ≤ N → f3 (r * N + k - 1) = nI (nx (sid kd) N r k)) (hap : va ≠ ca ∧ sa ≠ ca ∧ sa + 1 ≠ ca ∧ la ≠ ca ∧ la + 3 ≠ ca) (hso : shOK kd N sr) : GM l G yX4_fillCosts cX4_fillCosts 6 none rm_X4_fillCosts n σ [.ref va, .ref ca, .int (bI bw)] (fun rv n2 σ2 => (none : Option Value) = rv ∧ n = n2 ∧ ∃ (g6 : Nat → Int32) (d2 : Nat → Nat), (RW σ ca [(aI G (rR (sid kd) N) g6)]) = σ2 ∧ (∀ r, r < rR (sid kd) N → g6 r = cI (d2 r)) ∧ (DistIs (cF bw) kd sr N d2)) := by
  refine GM.intro (by decide +kernel) (Nat.le_of_ble_eq_true rfl) (fun p e s m args below meth c C hr hlocks hname po hpo => ?_)
  have C : Cx p s m args c cX4_fillCosts 6 RX4 G := C
  have hb9 := hL.b
  refine V.hp (σ2 := (RW σ ca [(aI G (rR (sid kd) N) f6)])) (RW_cons hc5 (RW_nil _ _)).symm ?_
  refine r_iconst (v := nI 0) C dX4_fillCosts_0 (by decide) ?_
  refine r_istore_n (lv2 := [(3, .int (nI 0)), (0, .ref va), (1, .ref ca), (2, .int (bI bw))]) C dX4_fillCosts_1 rfl (by decide) rfl ?_
  have L2 : ∀ (fu : Nat) (j : Nat) (u6 : Nat → Int32), (j ≤ rR (sid kd) N) → (∀ r, r < j → u6 r = -1) → (rR (sid kd) N + 1 - j) < fu → V p l e rm_X4_fillCosts s m args below meth c G 6 (MQ below (gQ G po) args s rm_X4_fillCosts.cells rm_X4_fillCosts.slots (gF G)) 0 0 n (RW σ ca [(aI G (rR (sid kd) N) u6)]) 2 [(0, .ref va), (1, .ref ca), (2, .int (bI bw)), (3, .int (nI j))] [] := by
    intro fu
    induction fu with
    | zero => intro j u6 hj hu6 hm; exact absurd hm (Nat.not_lt_zero _)
    | succ fu ih2 =>
      intro j u6 hj hu6 hm2
      refine r_iload_n C dX4_fillCosts_2 rfl 3 rfl ?_
      refine r_aload_n C dX4_fillCosts_3 rfl 1 rfl ?_
      refine r_alenI C (RW_at0 rfl) dX4_fillCosts_4 ?_
      refine r_icmp_geN (tgt := 18) C dX4_fillCosts_5 (by decide) (by omega) (by omega) (fun c5 => ?_) (fun c5 => ?_)
      · have hjR : j = rR (sid kd) N := by omega
        refine r_aload_n C dX4_fillCosts_18 rfl 1 rfl ?_
        refine r_iconst (v := nI 0) C dX4_fillCosts_19 (by decide) ?_
        refine r_iconst (v := nI 0) C dX4_fillCosts_20 (by decide) ?_
        refine r_callSN (As := [.ref ca, .int (nI 0), .int (nI 0)]) C (c_X6_put (a := ca) (len := rR (sid kd) N) (f := u6) (i := 0) (x := nI 0) (RW_at0 rfl) (by omega) (by first | assumption | omega)) wZ_X4_72 wS_X6_put wN_X6 wC_X6_put hd_X6_put ⟨Nat.le_of_ble_eq_true rfl, Nat.le_of_ble_eq_true rfl⟩ rfl rfl (Nat.le_of_ble_eq_true rfl) dX4_fillCosts_21 ⟨(Nat.le_of_ble_eq_true rfl), (Nat.le_of_ble_eq_true rfl)⟩ (fun rv n2 σ2 hp => ?_)
        obtain ⟨rfl, rfl, rfl⟩ := hp
        refine V.eq (σ2 := (hU (RW σ ca [(aI G (rR (sid kd) N) u6)]) ca (aI G (rR (sid kd) N) (upd u6 0 (nI 0))))) (n2 := n) (st2 := []) rfl rfl rfl rfl ?_
        refine V.hp (σ2 := (RW σ ca [(aI G (rR (sid kd) N) (upd u6 0 (nI 0)))])) (RW_set0 (Nat.le_of_ble_eq_true rfl) rfl) ?_
        refine r_iconst (v := nI 0) C dX4_fillCosts_24 (by decide) ?_
        refine r_istore_n (lv2 := [(3, .int (nI 0)), (0, .ref va), (1, .ref ca), (2, .int (bI bw))]) C dX4_fillCosts_25 rfl (by decide) rfl ?_
        refine r_iconst (v := nI 0) C dX4_fillCosts_26 (by decide) ?_
        refine r_istore (lv2 := [(4, .int (nI 0)), (3, .int (nI 0)), (0, .ref va), (1, .ref ca), (2, .int (bI bw))]) C dX4_fillCosts_27 (by decide) rfl ?_
        have L29 : ∀ (fu : Nat) (lv : Nat) (w6 : Nat → Int32) (d9 : Nat → Nat) (g : Nat), (lv ≤ 20001) → (∀ r, r < rR (sid kd) N → w6 r = cI (d9 r)) → (FI bw kd sr N lv 0 d9 g) → (20002 - lv) < fu → V p l e rm_X4_fillCosts s m args below meth c G 6 (MQ below (gQ G po) args s rm_X4_fillCosts.cells rm_X4_fillCosts.slots (gF G)) 0 0 n (RW σ ca [(aI G (rR (sid kd) N) w6)]) 29 [(0, .ref va), (1, .ref ca), (2, .int (bI bw)), (3, .int (nI g)), (4, .int (nI lv))] [] := by
          intro fu
          induction fu with
          | zero => intro lv w6 d9 g hlv hw6 hF hm; exact absurd hm (Nat.not_lt_zero _)
          | succ fu ih29 =>
            intro lv w6 d9 g hlv hw6 hF hm29
            have hFg := hF.2.2.2.2.2
            refine r_iload C dX4_fillCosts_29 4 rfl ?_
            refine r_iload_n C dX4_fillCosts_31 rfl 3 rfl ?_
            refine r_icmp_gtN (tgt := 87) C dX4_fillCosts_32 (by decide) (by omega) (by omega) (fun c32 => ?_) (fun c32 => ?_)
            · have hdn := hF.done hso (by omega)
              exact r_vret C hr hlocks (Nat.le_of_ble_eq_true rfl) (Nat.le_of_ble_eq_true rfl) dX4_fillCosts_87 (hpo _ _ _ ⟨rfl, rfl, w6, d9, rfl, hw6, hdn⟩)
            · refine r_iload C dX4_fillCosts_35 4 rfl ?_
              refine r_sipush (v := nI 20000) C dX4_fillCosts_37 (by decide) ?_
              refine r_icmp_gtN (tgt := 87) C dX4_fillCosts_40 (by decide) (by omega) (by decide) (fun c40 => ?_) (fun c40 => ?_)
              · have hdn := hF.done hso (by omega)
                exact r_vret C hr hlocks (Nat.le_of_ble_eq_true rfl) (Nat.le_of_ble_eq_true rfl) dX4_fillCosts_87 (hpo _ _ _ ⟨rfl, rfl, w6, d9, rfl, hw6, hdn⟩)
              · refine r_iconst (v := nI 0) C dX4_fillCosts_43 (by decide) ?_
                refine r_istore (lv2 := [(5, .int (nI 0)), (0, .ref va), (1, .ref ca), (2, .int (bI bw)), (3, .int (nI g)), (4, .int (nI lv))]) C dX4_fillCosts_44 (by decide) rfl ?_
                have L46 : ∀ (fu : Nat) (q : Nat) (w8 : Nat → Int32) (d8 : Nat → Nat) (g8 : Nat), (q ≤ rR (sid kd) N) → (∀ r, r < rR (sid kd) N → w8 r = cI (d8 r)) → (FI bw kd sr N lv q d8 g8) → (rR (sid kd) N + 1 - q) < fu → V p l e rm_X4_fillCosts s m args below meth c G 6 (MQ below (gQ G po) args s rm_X4_fillCosts.cells rm_X4_fillCosts.slots (gF G)) 0 0 n (RW σ ca [(aI G (rR (sid kd) N) w8)]) 46 [(0, .ref va), (1, .ref ca), (2, .int (bI bw)), (3, .int (nI g8)), (4, .int (nI lv)), (5, .int (nI q))] [] := by
                  intro fu
                  induction fu with
                  | zero => intro q w8 d8 g8 hq hw8 hF8 hm; exact absurd hm (Nat.not_lt_zero _)
                  | succ fu ih46 =>
                    intro q w8 d8 g8 hq hw8 hF8 hm46
                    have hFg8 := hF8.2.2.2.2.2
                    refine r_iload C dX4_fillCosts_46 5 rfl ?_
                    refine r_aload_n C dX4_fillCosts_48 rfl 1 rfl ?_
                    refine r_alenI C (RW_at0 rfl) dX4_fillCosts_49 ?_
                    refine r_icmp_geN (tgt := 81) C dX4_fillCosts_50 (by decide) (by omega) (by omega) (fun c50 => ?_) (fun c50 => ?_)
                    · refine r_iinc (v := nI (lv + 1)) (lv2 := [(4, .int (nI (lv + 1))), (0, .ref va), (1, .ref ca), (2, .int (bI bw)), (3, .int (nI g8)), (5, .int (nI q))]) C dX4_fillCosts_81 (k := 4) rfl (nI_add _ 1) (by decide) rfl ?_
                      refine r_goto (tgt := 29) C dX4_fillCosts_84 (by decide) ?_
                      refine V.sub (lv2 := [(0, .ref va), (1, .ref ca), (2, .int (bI bw)), (3, .int (nI g8)), (4, .int (nI (lv + 1)))]) [1, 2, 3, 4, 0] rfl ?_
                      exact ih29 (lv + 1) w8 d8 g8 (by omega) (hw8) (hF8.level (by omega)) (by omega)
                    · have hqR : q < rR (sid kd) N := by omega
                      have hd8q := hF8.2.1 q hqR
                      refine r_aload_n C dX4_fillCosts_53 rfl 1 rfl ?_
                      refine r_iload C dX4_fillCosts_54 5 rfl ?_
                      refine r_ialdN C (RW_at0 rfl) (by omega) (by omega) dX4_fillCosts_56 ?_
                      refine V.top (y := cI (d8 q)) (hw8 q hqR) ?_
                      refine r_iload C dX4_fillCosts_57 4 rfl ?_
                      refine r_icmp_ne (tgt := 75) C dX4_fillCosts_59 (by decide) (fun c59 => ?_) (fun c59 => ?_)
                      · have c59 : d8 q ≠ lv := fun z => c59 (by rw [z, cI_n (by omega)])
                        refine r_iinc (v := nI (q + 1)) (lv2 := [(5, .int (nI (q + 1))), (0, .ref va), (1, .ref ca), (2, .int (bI bw)), (3, .int (nI g8)), (4, .int (nI lv))]) C dX4_fillCosts_75 (k := 5) rfl (nI_add _ 1) (by decide) rfl ?_
                        refine r_goto (tgt := 46) C dX4_fillCosts_78 (by decide) ?_
                        refine V.sub (lv2 := [(0, .ref va), (1, .ref ca), (2, .int (bI bw)), (3, .int (nI g8)), (4, .int (nI lv)), (5, .int (nI (q + 1)))]) [1, 2, 3, 4, 5, 0] rfl ?_
                        exact ih46 (q + 1) w8 d8 g8 (by omega) (by first | exact hw8 | exact hw7) (by first | exact hF8.skip c59 | exact hF8.step hso hqR c59 hS7) (by omega)
                      · have c59 : d8 q = lv := cI_eq hd8q (by omega) c59
                        have hl9 := hF8.least hso hqR c59
                        refine r_iload_n C dX4_fillCosts_62 rfl 3 rfl ?_
                        refine r_aload_n C dX4_fillCosts_63 rfl 0 rfl ?_
                        refine r_aload_n C dX4_fillCosts_64 rfl 1 rfl ?_
                        refine r_iload C dX4_fillCosts_65 5 rfl ?_
                        refine r_iload_n C dX4_fillCosts_67 rfl 2 rfl ?_
                        refine r_callV (As := [.ref ca, .int (nI q), .int (bI bw)]) C (c_X4_spreadCost (va := va) (sa := sa) (la := la) (kd := kd) (N := N) (sr := sr) (cfl := cfl) (sv := sv) (tk := tk) (wk := wk) (f3 := f3) (f5 := f5) (ca := ca) (f6 := w8) (bw := bw) (k := q) (d0 := d8) ((RW_ne (m := 1) rfl (by omega)).trans hc0) ((RW_ne (m := 1) rfl (by omega)).trans hc1) ((RW_ne (m := 1) rfl (by omega)).trans hc2) ((RW_ne (m := 1) rfl (by omega)).trans hc3) ((RW_ne (m := 1) rfl (by omega)).trans hc4) (RW_at0 rfl) (by first | assumption | omega) (by first | assumption | omega) (by first | assumption | omega) (by first | assumption | omega) (hqR) (hw8) (hF8.2.1) (by omega)) wM_X4_76 wI_X4_spreadCost wN_X4 wC_X4_spreadCost wV_X4_spreadCost hd_X4_spreadCost ⟨Nat.le_of_ble_eq_true rfl, Nat.le_of_ble_eq_true rfl⟩ rfl ((RW_ne (m := 1) rfl (by omega)).trans hc0) rfl rfl (Nat.le_of_ble_eq_true rfl) dX4_fillCosts_68 ⟨(Nat.le_of_ble_eq_true rfl), (Nat.le_of_ble_eq_true rfl)⟩ (fun rv n2 σ2 hp => ?_)
                        obtain ⟨g7, d7, w7, rfl, rfl, rfl, hw7, hS7⟩ := hp
                        refine V.eq (σ2 := (RW (RW σ ca [(aI G (rR (sid kd) N) w8)]) ca [(aI G (rR (sid kd) N) w7)])) (n2 := n) (st2 := [.int (nI g7), .int (nI g8)]) rfl rfl rfl rfl ?_
                        refine V.hp (σ2 := (RW σ ca [(aI G (rR (sid kd) N) w7)])) (RW_in0 (m := 1) rfl (Nat.le_of_ble_eq_true rfl) rfl) ?_
                        have hg7 := hS7.2.2.2.2
                        refine r_mmax C wM_X4_80 dX4_fillCosts_71 (mx_N (by omega) (by omega)) (Nat.le_of_ble_eq_true rfl) (Nat.le_of_ble_eq_true rfl) (Nat.le_of_ble_eq_true rfl) (Nat.le_of_ble_eq_true rfl) (Nat.le_of_ble_eq_true rfl) ?_
                        refine r_istore_n (lv2 := [(3, .int (nI (max g8 g7))), (0, .ref va), (1, .ref ca), (2, .int (bI bw)), (4, .int (nI lv)), (5, .int (nI q))]) C dX4_fillCosts_74 rfl (by decide) rfl ?_
                        refine r_iinc (v := nI (q + 1)) (lv2 := [(5, .int (nI (q + 1))), (3, .int (nI (max g8 g7))), (0, .ref va), (1, .ref ca), (2, .int (bI bw)), (4, .int (nI lv))]) C dX4_fillCosts_75 (k := 5) rfl (nI_add _ 1) (by decide) rfl ?_
                        refine r_goto (tgt := 46) C dX4_fillCosts_78 (by decide) ?_
                        refine V.sub (lv2 := [(0, .ref va), (1, .ref ca), (2, .int (bI bw)), (3, .int (nI (max g8 g7))), (4, .int (nI lv)), (5, .int (nI (q + 1)))]) [2, 3, 4, 1, 5, 0] rfl ?_
                        exact ih46 (q + 1) w7 d7 (max g8 g7) (by omega) (by first | exact hw8 | exact hw7) (by first | exact hF8.skip c59 | exact hF8.step hso hqR c59 hS7) (by omega)
                refine V.sub (lv2 := [(0, .ref va), (1, .ref ca), (2, .int (bI bw)), (3, .int (nI g)), (4, .int (nI lv)), (5, .int (nI 0))]) [1, 2, 3, 4, 5, 0] rfl ?_
                exact L46 _ 0 w6 d9 g (by omega) (hw6) (hF) (Nat.lt_succ_self _)
        refine V.sub (lv2 := [(0, .ref va), (1, .ref ca), (2, .int (bI bw)), (3, .int (nI 0)), (4, .int (nI 0))]) [2, 3, 4, 1, 0] rfl ?_
        exact L29 _ 0 (upd u6 0 (nI 0)) (fun r => if r = 0 then 0 else 1000000) 0 (by omega) (fun r hr => by by_cases e : r = 0; (rw [e, pk_us]; rfl); (rw [pk_un e, hu6 r (by omega)]; simp [e, cI])) (FI.init) (Nat.lt_succ_self _)
      · refine r_aload_n C dX4_fillCosts_8 rfl 1 rfl ?_
        refine r_iload_n C dX4_fillCosts_9 rfl 3 rfl ?_
        refine r_iconst (v := (-1)) C dX4_fillCosts_10 (by decide) ?_
        refine r_iastN C (RW_at0 rfl) (by omega) (by omega) dX4_fillCosts_11 ?_
        refine V.hp (σ2 := (RW σ ca [(aI G (rR (sid kd) N) (upd u6 j (-1)))])) (RW_set0 (Nat.le_of_ble_eq_true rfl) rfl) ?_
        refine r_iinc (v := nI (j + 1)) (lv2 := [(3, .int (nI (j + 1))), (0, .ref va), (1, .ref ca), (2, .int (bI bw))]) C dX4_fillCosts_12 (k := 3) rfl (nI_add _ 1) (by decide) rfl ?_
        refine r_goto (tgt := 2) C dX4_fillCosts_15 (by decide) ?_
        refine V.sub (lv2 := [(0, .ref va), (1, .ref ca), (2, .int (bI bw)), (3, .int (nI (j + 1)))]) [1, 2, 3, 0] rfl ?_
        exact ih2 (j + 1) (upd u6 j (-1)) (by omega) (fun r hr => upd_step (g := fun _ => -1) hr hu6 rfl) (by omega)
  refine V.sub (lv2 := [(0, .ref va), (1, .ref ca), (2, .int (bI bw)), (3, .int (nI 0))]) [1, 2, 3, 0] rfl ?_
  exact L2 _ 0 f6 (by omega) (fun r hr => absurd hr (Nat.not_lt_zero r)) (Nat.lt_succ_self _)
