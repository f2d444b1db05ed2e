def aZ : AK := (0, 0, fun _ => (0, 0, 0), fun _ => (0, 0), fun _ => 0, fun _ => 0, fun _ => 0)
def zZ : ZT := (aZ, fun _ => aZ, 0, fun _ => 0, 0)
theorem zZ_ok : ZOK zZ := ⟨⟨Nat.zero_le _, by decide, fun k hk => absurd hk (Nat.not_lt_zero k)⟩, fun i hi => absurd hi (Nat.not_lt_zero i), Nat.zero_le _, Nat.zero_le _, fun _ => (by show 0 < 128; decide)⟩
theorem sumZ : SUMI (zA zZ) := by show (0 : Int32) = 0 + 0 + 0; decide
theorem kaZ : KA kZ aZ := ⟨rfl, rfl, fun _ _ => rfl, fun _ _ => rfl, fun k hk => absurd hk (Nat.not_lt_zero k)⟩
theorem kshZ {tau : Nat → Option Rl} : KSh tau kZ := fun i v hv => by cases hv
theorem dynZ {G : gG} {B n : Nat} {σ : gS} : DynI G B n σ (fun _ => none) := ⟨fun q r h => (by cases h), fun q r q2 r2 h => (by cases h), fun q kd N h => (by cases h), fun q kd N sr la h => (by cases h), fun q kd N sr la sa h => (by cases h)⟩
theorem shelfZ : ShelfR (fun _ => none) (fun _ => none) (fun _ => none) (fun _ => none) := ⟨fun N la _ h => (by cases h), fun N la _ h => (by cases h), fun kd N sr sa _ _ _ h => (by cases h)⟩
theorem sh_a {w y : Nat} (h : w < 4) (h3 : w ≠ 3) : shOK w (1 + y % 4) 0 := ⟨h, by omega, by split <;> omega, by rw [if_neg h3]⟩
theorem sh_b (y v : Nat) : shOK 3 (1 + y % 4) (1 + v % 12) := ⟨by decide, by omega, by split <;> omega, by rw [if_pos rfl]; omega⟩
theorem oR_00 (sb : Bool) (N : Nat) : oR sb N 0 = 0 := by unfold oR; split <;> simp
theorem rkA_lay (a : AK) (k o2 sd2 : Nat) : rkA (layA a k o2 sd2) k = rk (sid (aKd a k)) (aCk a k) o2 sd2 := by
  rw [rkA]
  have e1 : aO (layA a k o2 sd2) k = o2 := by simp [aO, layA, va_up]
  have e2 : aSd (layA a k o2 sd2) k = sd2 := by simp [aSd, layA, va_up]
  rw [e1, e2]
  rfl
theorem ne_4 {v : Nat} (h : v < 2 ^ 31) : ¬ nI v = -1000004 := by
  intro z
  have := congrArg Int32.toInt z
  rw [nI_toInt h, show (-1000004 : Int32).toInt = -1000004 by decide] at this
  omega
theorem wx_0 {G : gG} {σ : gS} {b0 : Nat} : WX G b0 (b0 + 44) (RW σ b0 [(.inr (6, [.ref (b0 + 1), .ref (b0 + 5), .ref (b0 + 7), .ref (b0 + 13), .ref (b0 + 19), .int (nI 0)])), (.inr (3, [.ref (b0 + 2), .ref (b0 + 3), .ref (b0 + 4)])), (aR 3 G 7 (fun _ => none)), (aR 3 G 6 (fun _ => none)), (aR 4 G 616 (fun _ => none)), (.inr (5, [.int (nI 0), .int (nI 0), .int (nI 0), .int (nI 0), .ref (b0 + 6), .int (-1), .int (nI 0)])), (aI G 50 (fun _ => 0)), (.inr (0, [.int (nI (kN kZ)), .int (nI (kH kZ)), .ref (b0 + 8), .ref (b0 + 9), .ref (b0 + 10), .ref (b0 + 11), .ref (b0 + 12)])), (aI G 3 (kT kZ)), (aI G 3 (kW kZ)), (aR 4 G 5 (kS kZ)), (aI G 5 (kR kZ)), (aI G 5 (kM kZ)), (.inr (0, [.int (nI (kN kZ)), .int (nI (kH kZ)), .ref (b0 + 14), .ref (b0 + 15), .ref (b0 + 16), .ref (b0 + 17), .ref (b0 + 18)])), (aI G 3 (kT kZ)), (aI G 3 (kW kZ)), (aR 4 G 5 (kS kZ)), (aI G 5 (kR kZ)), (aI G 5 (kM kZ)), (aR 2 G 4 (hst0 b0)), (.inr (0, [.int (nI (kN kZ)), .int (nI (kH kZ)), .ref (b0 + 21), .ref (b0 + 22), .ref (b0 + 23), .ref (b0 + 24), .ref (b0 + 25)])), (aI G 3 (kT kZ)), (aI G 3 (kW kZ)), (aR 4 G 5 (kS kZ)), (aI G 5 (kR kZ)), (aI G 5 (kM kZ)), (.inr (0, [.int (nI (kN kZ)), .int (nI (kH kZ)), .ref (b0 + 27), .ref (b0 + 28), .ref (b0 + 29), .ref (b0 + 30), .ref (b0 + 31)])), (aI G 3 (kT kZ)), (aI G 3 (kW kZ)), (aR 4 G 5 (kS kZ)), (aI G 5 (kR kZ)), (aI G 5 (kM kZ)), (.inr (0, [.int (nI (kN kZ)), .int (nI (kH kZ)), .ref (b0 + 33), .ref (b0 + 34), .ref (b0 + 35), .ref (b0 + 36), .ref (b0 + 37)])), (aI G 3 (kT kZ)), (aI G 3 (kW kZ)), (aR 4 G 5 (kS kZ)), (aI G 5 (kR kZ)), (aI G 5 (kM kZ)), (.inr (0, [.int (nI (kN kZ)), .int (nI (kH kZ)), .ref (b0 + 39), .ref (b0 + 40), .ref (b0 + 41), .ref (b0 + 42), .ref (b0 + 43)])), (aI G 3 (kT kZ)), (aI G 3 (kW kZ)), (aR 4 G 5 (kS kZ)), (aI G 5 (kR kZ)), (aI G 5 (kM kZ))]) zZ 13 := by
  refine ⟨0, fun _ => none, fun _ => none, fun _ => none, fun _ => none, nI 0, nI 0, nI 0, (-1), nI 0, fun _ => 0, kZ, kZ, kZ, kZ, kZ, kZ, by decide, ?_, dynZ, Nat.le_refl _, shelfZ, mis_le _ _, ⟨kshZ, kshZ, kshZ, kshZ, kshZ, kshZ⟩, kaZ, fun k hk => absurd hk (Nat.not_lt_zero k), fun i hi => absurd hi (Nat.not_lt_zero i), fun j hj => absurd hj (Nat.not_lt_zero j)⟩
  rw [hst0_eq]
  exact RW_over (Nat.le_refl _)
set_option maxRecDepth 100000 in
set_option maxHeartbeats 4000000 in
theorem law_walk {p : Program} {l : Launch} {e : Env} {s : State} {m : MethodId} {below : List Frame} {meth : Method} {c : Code} {G : gG} {b L : Nat} {xs : Nat → Int32} (C : Cx p s m #[Value.ref b] c code 9 RL G) (hr : meth.sig.returnType = ret) (hlocks : meth.locks = false) (hX : va_X b L xs s s.heap) (hbl : b < s.heap.size) (hG : G.2.2 = s.heap.size) (hL : L ≤ 260) (b0 : Nat) (σ : gS) : V p l e room_1 s m #[Value.ref b] below meth c G 9 (lw_Z below #[Value.ref b] s) 0 0 b0 σ 0 [(0, .ref b)] [] := by
  have hbG : ¬ G.2.2 ≤ b := by omega
  refine r_new (fs := [.null, .null, .null, .null, .null, .int (nI 0)]) C inlX6 tyX6 tyX6_ok wK_L_10 wB_X6 wN_X6 (ci := 6) rfl (by decide) (Nat.le_of_ble_eq_true rfl) (Nat.le_of_ble_eq_true rfl) dL_law_0 ?_
  refine V.eq (σ2 := (hU σ b0 (.inr (6, [.null, .null, .null, .null, .null, .int (nI 0)])))) (n2 := b0 + 1) rfl rfl rfl rfl ?_
  refine V.hp (σ2 := (RW σ b0 [(.inr (6, [.null, .null, .null, .null, .null, .int (nI 0)]))])) (RW_one _ _ _) ?_
  refine r_dup C dL_law_3 rfl ?_
  refine r_callI (As := []) C (c_X6_init (b0 := b0) (RW_at0 rfl) ) wM_L_49 wI_X6_init wN_X6 wC_X6_init rfl hd_X6_init ⟨Nat.le_of_ble_eq_true rfl, Nat.le_of_ble_eq_true rfl⟩ rfl rfl (Nat.le_of_ble_eq_true rfl) dL_law_4 ⟨(Nat.le_of_ble_eq_true rfl), (Nat.le_of_ble_eq_true rfl)⟩ (fun rv n2 σ2 hp => ?_)
  obtain ⟨rfl, rfl, rfl⟩ := hp
  refine V.eq (σ2 := (RW (RW σ b0 [(.inr (6, [.null, .null, .null, .null, .null, .int (nI 0)]))]) b0 [(.inr (6, [.ref (b0 + 1), .ref (b0 + 5), .ref (b0 + 7), .ref (b0 + 13), .ref (b0 + 19), .int (nI 0)])), (.inr (3, [.ref (b0 + 2), .ref (b0 + 3), .ref (b0 + 4)])), (aR 3 G 7 (fun _ => none)), (aR 3 G 6 (fun _ => none)), (aR 4 G 616 (fun _ => none)), (.inr (5, [.int (nI 0), .int (nI 0), .int (nI 0), .int (nI 0), .ref (b0 + 6), .int (-1), .int (nI 0)])), (aI G 50 (fun _ => 0)), (.inr (0, [.int (nI (kN kZ)), .int (nI (kH kZ)), .ref (b0 + 8), .ref (b0 + 9), .ref (b0 + 10), .ref (b0 + 11), .ref (b0 + 12)])), (aI G 3 (kT kZ)), (aI G 3 (kW kZ)), (aR 4 G 5 (kS kZ)), (aI G 5 (kR kZ)), (aI G 5 (kM kZ)), (.inr (0, [.int (nI (kN kZ)), .int (nI (kH kZ)), .ref (b0 + 14), .ref (b0 + 15), .ref (b0 + 16), .ref (b0 + 17), .ref (b0 + 18)])), (aI G 3 (kT kZ)), (aI G 3 (kW kZ)), (aR 4 G 5 (kS kZ)), (aI G 5 (kR kZ)), (aI G 5 (kM kZ)), (aR 2 G 4 (hst0 b0)), (.inr (0, [.int (nI (kN kZ)), .int (nI (kH kZ)), .ref (b0 + 21), .ref (b0 + 22), .ref (b0 + 23), .ref (b0 + 24), .ref (b0 + 25)])), (aI G 3 (kT kZ)), (aI G 3 (kW kZ)), (aR 4 G 5 (kS kZ)), (aI G 5 (kR kZ)), (aI G 5 (kM kZ)), (.inr (0, [.int (nI (kN kZ)), .int (nI (kH kZ)), .ref (b0 + 27), .ref (b0 + 28), .ref (b0 + 29), .ref (b0 + 30), .ref (b0 + 31)])), (aI G 3 (kT kZ)), (aI G 3 (kW kZ)), (aR 4 G 5 (kS kZ)), (aI G 5 (kR kZ)), (aI G 5 (kM kZ)), (.inr (0, [.int (nI (kN kZ)), .int (nI (kH kZ)), .ref (b0 + 33), .ref (b0 + 34), .ref (b0 + 35), .ref (b0 + 36), .ref (b0 + 37)])), (aI G 3 (kT kZ)), (aI G 3 (kW kZ)), (aR 4 G 5 (kS kZ)), (aI G 5 (kR kZ)), (aI G 5 (kM kZ)), (.inr (0, [.int (nI (kN kZ)), .int (nI (kH kZ)), .ref (b0 + 39), .ref (b0 + 40), .ref (b0 + 41), .ref (b0 + 42), .ref (b0 + 43)])), (aI G 3 (kT kZ)), (aI G 3 (kW kZ)), (aR 4 G 5 (kS kZ)), (aI G 5 (kR kZ)), (aI G 5 (kM kZ))])) (n2 := b0 + 44) (st2 := [.ref b0]) rfl rfl rfl rfl ?_
  refine V.hp (σ2 := (RW σ b0 [(.inr (6, [.ref (b0 + 1), .ref (b0 + 5), .ref (b0 + 7), .ref (b0 + 13), .ref (b0 + 19), .int (nI 0)])), (.inr (3, [.ref (b0 + 2), .ref (b0 + 3), .ref (b0 + 4)])), (aR 3 G 7 (fun _ => none)), (aR 3 G 6 (fun _ => none)), (aR 4 G 616 (fun _ => none)), (.inr (5, [.int (nI 0), .int (nI 0), .int (nI 0), .int (nI 0), .ref (b0 + 6), .int (-1), .int (nI 0)])), (aI G 50 (fun _ => 0)), (.inr (0, [.int (nI (kN kZ)), .int (nI (kH kZ)), .ref (b0 + 8), .ref (b0 + 9), .ref (b0 + 10), .ref (b0 + 11), .ref (b0 + 12)])), (aI G 3 (kT kZ)), (aI G 3 (kW kZ)), (aR 4 G 5 (kS kZ)), (aI G 5 (kR kZ)), (aI G 5 (kM kZ)), (.inr (0, [.int (nI (kN kZ)), .int (nI (kH kZ)), .ref (b0 + 14), .ref (b0 + 15), .ref (b0 + 16), .ref (b0 + 17), .ref (b0 + 18)])), (aI G 3 (kT kZ)), (aI G 3 (kW kZ)), (aR 4 G 5 (kS kZ)), (aI G 5 (kR kZ)), (aI G 5 (kM kZ)), (aR 2 G 4 (hst0 b0)), (.inr (0, [.int (nI (kN kZ)), .int (nI (kH kZ)), .ref (b0 + 21), .ref (b0 + 22), .ref (b0 + 23), .ref (b0 + 24), .ref (b0 + 25)])), (aI G 3 (kT kZ)), (aI G 3 (kW kZ)), (aR 4 G 5 (kS kZ)), (aI G 5 (kR kZ)), (aI G 5 (kM kZ)), (.inr (0, [.int (nI (kN kZ)), .int (nI (kH kZ)), .ref (b0 + 27), .ref (b0 + 28), .ref (b0 + 29), .ref (b0 + 30), .ref (b0 + 31)])), (aI G 3 (kT kZ)), (aI G 3 (kW kZ)), (aR 4 G 5 (kS kZ)), (aI G 5 (kR kZ)), (aI G 5 (kM kZ)), (.inr (0, [.int (nI (kN kZ)), .int (nI (kH kZ)), .ref (b0 + 33), .ref (b0 + 34), .ref (b0 + 35), .ref (b0 + 36), .ref (b0 + 37)])), (aI G 3 (kT kZ)), (aI G 3 (kW kZ)), (aR 4 G 5 (kS kZ)), (aI G 5 (kR kZ)), (aI G 5 (kM kZ)), (.inr (0, [.int (nI (kN kZ)), .int (nI (kH kZ)), .ref (b0 + 39), .ref (b0 + 40), .ref (b0 + 41), .ref (b0 + 42), .ref (b0 + 43)])), (aI G 3 (kT kZ)), (aI G 3 (kW kZ)), (aR 4 G 5 (kS kZ)), (aI G 5 (kR kZ)), (aI G 5 (kM kZ))])) (RW_over (Nat.le_of_ble_eq_true rfl)) ?_
  refine r_astore_n (lv2 := [(1, .ref b0), (0, .ref b)]) C dL_law_7 rfl (by decide) rfl ?_
  obtain ⟨σ0, hσ0, hWw0⟩ : ∃ z, (RW σ b0 [(.inr (6, [.ref (b0 + 1), .ref (b0 + 5), .ref (b0 + 7), .ref (b0 + 13), .ref (b0 + 19), .int (nI 0)])), (.inr (3, [.ref (b0 + 2), .ref (b0 + 3), .ref (b0 + 4)])), (aR 3 G 7 (fun _ => none)), (aR 3 G 6 (fun _ => none)), (aR 4 G 616 (fun _ => none)), (.inr (5, [.int (nI 0), .int (nI 0), .int (nI 0), .int (nI 0), .ref (b0 + 6), .int (-1), .int (nI 0)])), (aI G 50 (fun _ => 0)), (.inr (0, [.int (nI (kN kZ)), .int (nI (kH kZ)), .ref (b0 + 8), .ref (b0 + 9), .ref (b0 + 10), .ref (b0 + 11), .ref (b0 + 12)])), (aI G 3 (kT kZ)), (aI G 3 (kW kZ)), (aR 4 G 5 (kS kZ)), (aI G 5 (kR kZ)), (aI G 5 (kM kZ)), (.inr (0, [.int (nI (kN kZ)), .int (nI (kH kZ)), .ref (b0 + 14), .ref (b0 + 15), .ref (b0 + 16), .ref (b0 + 17), .ref (b0 + 18)])), (aI G 3 (kT kZ)), (aI G 3 (kW kZ)), (aR 4 G 5 (kS kZ)), (aI G 5 (kR kZ)), (aI G 5 (kM kZ)), (aR 2 G 4 (hst0 b0)), (.inr (0, [.int (nI (kN kZ)), .int (nI (kH kZ)), .ref (b0 + 21), .ref (b0 + 22), .ref (b0 + 23), .ref (b0 + 24), .ref (b0 + 25)])), (aI G 3 (kT kZ)), (aI G 3 (kW kZ)), (aR 4 G 5 (kS kZ)), (aI G 5 (kR kZ)), (aI G 5 (kM kZ)), (.inr (0, [.int (nI (kN kZ)), .int (nI (kH kZ)), .ref (b0 + 27), .ref (b0 + 28), .ref (b0 + 29), .ref (b0 + 30), .ref (b0 + 31)])), (aI G 3 (kT kZ)), (aI G 3 (kW kZ)), (aR 4 G 5 (kS kZ)), (aI G 5 (kR kZ)), (aI G 5 (kM kZ)), (.inr (0, [.int (nI (kN kZ)), .int (nI (kH kZ)), .ref (b0 + 33), .ref (b0 + 34), .ref (b0 + 35), .ref (b0 + 36), .ref (b0 + 37)])), (aI G 3 (kT kZ)), (aI G 3 (kW kZ)), (aR 4 G 5 (kS kZ)), (aI G 5 (kR kZ)), (aI G 5 (kM kZ)), (.inr (0, [.int (nI (kN kZ)), .int (nI (kH kZ)), .ref (b0 + 39), .ref (b0 + 40), .ref (b0 + 41), .ref (b0 + 42), .ref (b0 + 43)])), (aI G 3 (kT kZ)), (aI G 3 (kW kZ)), (aR 4 G 5 (kS kZ)), (aI G 5 (kR kZ)), (aI G 5 (kM kZ))]) = z ∧ WX G b0 (b0 + 44) z zZ 13 := ⟨_, rfl, wx_0⟩
  refine V.hp hσ0 ?_
  have hZ0 := zZ_ok
  have hS0 : SUMI (zA zZ) := sumZ
  have hn0 : aN (zA zZ) = 0 := rfl
  obtain ⟨fo0, hob0⟩ := hWw0.obj
  refine r_aload_n C dL_law_8 rfl 0 rfl ?_
  refine r_callS (As := [.ref b0]) C (c_L_holds (b0 := b0) (Z := zZ)  (by first | assumption | omega) (by first | assumption | omega) (by first | assumption | omega)) wM_L_50 wS_L_holds wN_L wC_L_holds hd_L_holds ⟨Nat.le_of_ble_eq_true rfl, Nat.le_of_ble_eq_true rfl⟩ rfl rfl (Nat.le_of_ble_eq_true rfl) dL_law_9 ⟨(Nat.le_of_ble_eq_true rfl), (Nat.le_of_ble_eq_true rfl)⟩ (fun rv n2 σ2 hp => ?_)
  obtain ⟨rfl, rfl, rfl⟩ := hp
  refine V.eq (σ2 := σ0) (n2 := b0 + 44) (st2 := [.int (nI 1)]) rfl rfl rfl rfl ?_
  refine r_istore_n (lv2 := [(2, .int (nI 1)), (1, .ref b0), (0, .ref b)]) C dL_law_12 rfl (by decide) rfl ?_
  refine r_iconst (v := nI 0) C dL_law_13 (by decide) ?_
  refine r_istore_n (lv2 := [(3, .int (nI 0)), (2, .int (nI 1)), (1, .ref b0), (0, .ref b)]) C dL_law_14 rfl (by decide) rfl ?_
  have L15 : ∀ (fu : Nat) (w : Nat) (nA : Nat) (σA : gS) (ZA : ZT), (ZOK ZA) → (SUMI (zA ZA)) → (aN (zA ZA) = w) → (w ≤ 4) → (WX G b0 nA σA ZA 13) → (4 - w) < fu → V p l e room_1 s m #[Value.ref b] below meth c G 9 (lw_Z below #[Value.ref b] s) (44 + 10 * w) (900 + 39621 * w) nA σA 15 [(0, .ref b), (1, .ref b0), (2, .int (nI 1)), (3, .int (nI w))] [] := by
    intro fu
    induction fu with
    | zero => intro w nA σA ZA hZA hSA hwA hw4 hWA hm; exact absurd hm (Nat.not_lt_zero _)
    | succ fu ih15 =>
      intro w nA σA ZA hZA hSA hwA hw4 hWA hm15
      obtain ⟨foA, hobA⟩ := hWA.obj
      refine r_iload_n C dL_law_15 rfl 3 rfl ?_
      refine r_iconst (v := nI 4) C dL_law_16 (by decide) ?_
      refine r_icmp_geN (tgt := 96) C dL_law_17 (by decide) (by omega) (by decide) (fun c17 => ?_) (fun c17 => ?_)
      · refine r_iconst (v := nI 0) C dL_law_96 (by decide) ?_
        refine r_istore_n (lv2 := [(3, .int (nI 0)), (0, .ref b), (1, .ref b0), (2, .int (nI 1))]) C dL_law_97 rfl (by decide) rfl ?_
        have L98 : ∀ (fu : Nat) (kk : Nat) (nB : Nat) (σB : gS) (ZB : ZT), (ZOK ZB) → (SUMI (zA ZB)) → (aN (zA ZB) = 4) → (kk ≤ 30) → (WX G b0 nB σB ZB 13) → (30 - kk) < fu → V p l e room_1 s m #[Value.ref b] below meth c G 9 (lw_Z below #[Value.ref b] s) (84 + 21 * kk) (159384 + 53802 * kk) nB σB 98 [(0, .ref b), (1, .ref b0), (2, .int (nI 1)), (3, .int (nI kk))] [] := by
          intro fu
          induction fu with
          | zero => intro kk nB σB ZB hZB hSB hn4 hkk hWB hm; exact absurd hm (Nat.not_lt_zero _)
          | succ fu ih98 =>
            intro kk nB σB ZB hZB hSB hn4 hkk hWB hm98
            obtain ⟨foB, hobB⟩ := hWB.obj
            have hA := hZB.1
            have hH3 := hA.2.1
            refine r_iload_n C dL_law_98 rfl 3 rfl ?_
            refine r_bipush (v := nI 30) C dL_law_99 (by decide) ?_
            refine r_icmp_geN (tgt := 283) C dL_law_101 (by decide) (by omega) (by decide) (fun c101 => ?_) (fun c101 => ?_)
            · have hk0 : 0 < aN (zA ZB) := by omega
              have hv := hA.2.2 0 hk0
              have hN6 := hv.1.N
              have hsp : 0 < sm (sid (aKd (zA ZB) 0)) (aCk (zA ZB) 0) := Nat.lt_of_le_of_lt (Nat.zero_le _) hv.2.2
              have hg0 : gp (sid (aKd (zA ZB) 0)) (aCk (zA ZB) 0) (oR (sid (aKd (zA ZB) 0)) (aCk (zA ZB) 0) 0) 0 = 0 := by rw [oR_00]; exact gp_00 _ hN6
              refine r_aload_n C dL_law_283 rfl 1 rfl ?_
              refine r_bipush (v := nI 10) C dL_law_284 (by decide) ?_
              refine r_callV (As := [.int (nI 10)]) C (c_X6_count_p10 (b0 := b0) (Z := ZB)  (by first | assumption | omega) (by first | assumption | omega)) wM_L_9 wI_X6_count wN_X6 wC_X6_count wV_X6_count hd_X6_count ⟨Nat.le_of_ble_eq_true rfl, Nat.le_of_ble_eq_true rfl⟩ rfl hobB rfl rfl (Nat.le_of_ble_eq_true rfl) dL_law_286 ⟨(by show 84 + 21 * kk ≤ 600000; omega), (by show 159384 + 53802 * kk ≤ 7302250; omega)⟩ (fun rv n2 σ2 hp => ?_)
              obtain ⟨rfl, rfl, rfl⟩ := hp
              refine V.eq (σ2 := σB) (n2 := nB) (st2 := [.int (aTu (zA ZB) 0 + aTu (zA ZB) 1 + aTu (zA ZB) 2)]) rfl rfl rfl rfl ?_
              refine r_istore_n (lv2 := [(3, .int (aTu (zA ZB) 0 + aTu (zA ZB) 1 + aTu (zA ZB) 2)), (0, .ref b), (1, .ref b0), (2, .int (nI 1))]) C dL_law_289 rfl (by decide) rfl ?_
              refine r_aload_n C dL_law_290 rfl 2 rfl ?_
              refine r_iconst (v := nI 3) C dL_law_291 (by decide) ?_
              refine r_callV (As := [.int (nI 3)]) C (c_X6_count_p3 (b0 := b0) (Z := ZB)  (by first | assumption | omega) (by first | assumption | omega)) wM_L_9 wI_X6_count wN_X6 wC_X6_count wV_X6_count hd_X6_count ⟨Nat.le_of_ble_eq_true rfl, Nat.le_of_ble_eq_true rfl⟩ rfl hobB rfl rfl (Nat.le_of_ble_eq_true rfl) dL_law_292 ⟨(by show 84 + 21 * kk ≤ 600000; omega), (by show 159384 + 53802 * kk ≤ 7302250; omega)⟩ (fun rv n2 σ2 hp => ?_)
              obtain ⟨rfl, rfl, rfl⟩ := hp
              refine V.eq (σ2 := σB) (n2 := nB) (st2 := [.int (nI (aH (zA ZB)))]) rfl rfl rfl rfl ?_
              refine r_istore (lv2 := [(4, .int (nI (aH (zA ZB)))), (3, .int (aTu (zA ZB) 0 + aTu (zA ZB) 1 + aTu (zA ZB) 2)), (0, .ref b), (1, .ref b0), (2, .int (nI 1))]) C dL_law_295 (by decide) rfl ?_
              refine r_iload_n C dL_law_297 rfl 4 rfl ?_
              refine r_if_eqN (tgt := 328) C dL_law_298 (by decide) (by decide) (fun z => absurd z (by decide)) (fun _ => ?_)
              refine r_aload_n C dL_law_301 rfl 3 rfl ?_
              refine r_iconst (v := nI 0) C dL_law_302 (by decide) ?_
              refine r_aload_n C dL_law_303 rfl 3 rfl ?_
              refine r_iconst (v := nI 0) C dL_law_304 (by decide) ?_
              refine r_iconst (v := nI 0) C dL_law_305 (by decide) ?_
              refine r_iconst (v := nI 0) C dL_law_306 (by decide) ?_
              refine r_callV (As := [.int (nI 0), .int (nI 0), .int (nI 0)]) C (c_X6_ranked_p0 (b0 := b0) (Z := ZB) (k := 0) (r := 0)  (by first | assumption | omega) (by first | assumption | omega) (rR_pos hN6) (by first | assumption | omega)) wM_L_68 wI_X6_ranked wN_X6 wC_X6_ranked wV_X6_ranked hd_X6_ranked ⟨Nat.le_of_ble_eq_true rfl, Nat.le_of_ble_eq_true rfl⟩ rfl hobB rfl rfl (Nat.le_of_ble_eq_true rfl) dL_law_307 ⟨(by show 84 + 21 * kk ≤ 600000; omega), (by show 159384 + 53802 * kk ≤ 7302250; omega)⟩ (fun rv n2 σ2 hp => ?_)
              obtain ⟨rfl, rfl, rfl⟩ := hp
              refine V.eq (σ2 := σB) (n2 := nB) (st2 := [.int (nI (cd (aCk (zA ZB) 0) (oR (sid (aKd (zA ZB) 0)) (aCk (zA ZB) 0) 0))), .int (nI 0), .ref b0]) rfl rfl rfl rfl ?_
              refine r_iconst (v := nI 0) C dL_law_310 (by decide) ?_
              refine r_callV (As := [.int (nI 0), .int (nI (cd (aCk (zA ZB) 0) (oR (sid (aKd (zA ZB) 0)) (aCk (zA ZB) 0) 0))), .int (nI 0)]) C (c_X6_lay_p (b0 := b0) (Z := ZB) (k := 0) (o2 := (oR (sid (aKd (zA ZB) 0)) (aCk (zA ZB) 0) 0)) (sd2 := 0)  (by first | assumption | omega) (by first | assumption | omega) (oR_lt (rR_pos hN6)) (hsp) (by first | assumption | omega)) wM_L_71 wI_X6_lay wN_X6 wC_X6_lay wV_X6_lay hd_X6_lay ⟨Nat.le_of_ble_eq_true rfl, Nat.le_of_ble_eq_true rfl⟩ rfl hobB rfl rfl (Nat.le_of_ble_eq_true rfl) dL_law_311 ⟨(by show 84 + 21 * kk ≤ 600000; omega), (by show 159384 + 53802 * kk ≤ 7302250; omega)⟩ (fun rv n2 σ2 hp => ?_)
              obtain ⟨nw1, σw1, rfl, rfl, rfl, hWw1⟩ := hp
              refine V.eq (σ2 := σw1) (n2 := nw1) (st2 := [.int (nI (gp (sid (aKd (zA ZB) 0)) (aCk (zA ZB) 0) (oR (sid (aKd (zA ZB) 0)) (aCk (zA ZB) 0) 0) 0))]) rfl rfl rfl rfl ?_
              obtain ⟨Z1, hZe1⟩ : ∃ z, z = zP ZB (layA (zA ZB) 0 (oR (sid (aKd (zA ZB) 0)) (aCk (zA ZB) 0) 0) 0) := ⟨_, rfl⟩
              rw [← hZe1] at hWw1
              have hz1 : zA Z1 = (layA (zA ZB) 0 (oR (sid (aKd (zA ZB) 0)) (aCk (zA ZB) 0) 0) 0) := by rw [hZe1]; rfl
              have hZ1 : ZOK Z1 := by rw [hZe1]; exact zP_ok hZB (layA_ok hA (oR_lt (rR_pos hN6)) hsp)
              have hu1 : 1 ≤ zS Z1 := by rw [hZe1]; exact (zP_top _ _).2
              have hu2 : zH Z1 (zS Z1 - 1) = zA ZB := by rw [hZe1]; exact (zP_top _ _).1
              have hs4 := hZ1.2.2.1
              obtain ⟨fo1, hob1⟩ := hWw1.obj
              refine r_if_neN (tgt := 328) C dL_law_314 (by decide) (by omega) (fun c314 => ?_) (fun c314 => ?_)
              · exact absurd c314 (by omega)
              · refine r_aload_n C dL_law_317 rfl 3 rfl ?_
                refine r_callV (As := []) C (c_X6_undo_p (b0 := b0) (Z := Z1)  (by first | assumption | omega) (by first | assumption | omega) (by first | assumption | omega)) wM_L_29 wI_X6_undo wN_X6 wC_X6_undo wV_X6_undo hd_X6_undo ⟨Nat.le_of_ble_eq_true rfl, Nat.le_of_ble_eq_true rfl⟩ rfl hob1 rfl rfl (Nat.le_of_ble_eq_true rfl) dL_law_318 ⟨(by show 84 + 21 * kk ≤ 600000; omega), (by show 159384 + 53802 * kk ≤ 7302250; omega)⟩ (fun rv n2 σ2 hp => ?_)
                obtain ⟨nw2, σw2, rfl, rfl, rfl, hWw2⟩ := hp
                refine V.eq (σ2 := σw2) (n2 := nw2) (st2 := [.int (nI (zS Z1 - 1))]) rfl rfl rfl rfl ?_
                obtain ⟨Z2, hZe2⟩ : ∃ z, z = ((zH Z1 (zS Z1 - 1), zH Z1, zS Z1 - 1, zX Z1, zL Z1) : ZT) := ⟨_, rfl⟩
                rw [← hZe2] at hWw2
                have hz2 : zA Z2 = zA ZB := by rw [hZe2]; exact hu2
                have hZ2 : ZOK Z2 := by rw [hZe2]; exact zU_ok hZ1 hu1
                have hS2 : SUMI (zA Z2) := by rw [hz2]; exact hSB
                obtain ⟨fo2, hob2⟩ := hWw2.obj
                refine r_if_ltN C dL_law_321 (tgt := 328) (by decide) (by omega) ?_
                refine r_iconst (v := nI 1) C dL_law_324 (by decide) ?_
                refine r_goto (tgt := 329) C dL_law_325 (by decide) ?_
                refine r_istore_n (lv2 := [(2, .int (nI 1)), (4, .int (nI (aH (zA ZB)))), (3, .int (aTu (zA ZB) 0 + aTu (zA ZB) 1 + aTu (zA ZB) 2)), (0, .ref b), (1, .ref b0)]) C dL_law_329 rfl (by decide) rfl ?_
                refine r_iload_n C dL_law_330 rfl 0 rfl ?_
                refine r_if_eqN (tgt := 365) C dL_law_331 (by decide) (by decide) (fun z => absurd z (by decide)) (fun _ => ?_)
                refine r_aload_n C dL_law_334 rfl 4 rfl ?_
                refine r_bipush (v := nI 10) C dL_law_335 (by decide) ?_
                refine r_callV (As := [.int (nI 10)]) C (c_X6_count_p10 (b0 := b0) (Z := Z2)  (by first | assumption | omega) (by first | assumption | omega)) wM_L_9 wI_X6_count wN_X6 wC_X6_count wV_X6_count hd_X6_count ⟨Nat.le_of_ble_eq_true rfl, Nat.le_of_ble_eq_true rfl⟩ rfl hob2 rfl rfl (Nat.le_of_ble_eq_true rfl) dL_law_337 ⟨(by show 84 + 21 * kk ≤ 600000; omega), (by show 159384 + 53802 * kk ≤ 7302250; omega)⟩ (fun rv n2 σ2 hp => ?_)
                obtain ⟨rfl, rfl, rfl⟩ := hp
                refine V.eq (σ2 := σw2) (n2 := nw2) (st2 := [.int (aTu (zA Z2) 0 + aTu (zA Z2) 1 + aTu (zA Z2) 2)]) rfl rfl rfl rfl ?_
                refine r_iload_n C dL_law_340 rfl 2 rfl ?_
                refine r_icmp_ne (tgt := 365) C dL_law_341 (by decide) (fun c341 => ?_) (fun c341 => ?_)
                · exact absurd (by rw [hz2]) c341
                · refine r_aload_n C dL_law_344 rfl 4 rfl ?_
                  refine r_iconst (v := nI 3) C dL_law_345 (by decide) ?_
                  refine r_callV (As := [.int (nI 3)]) C (c_X6_count_p3 (b0 := b0) (Z := Z2)  (by first | assumption | omega) (by first | assumption | omega)) wM_L_9 wI_X6_count wN_X6 wC_X6_count wV_X6_count hd_X6_count ⟨Nat.le_of_ble_eq_true rfl, Nat.le_of_ble_eq_true rfl⟩ rfl hob2 rfl rfl (Nat.le_of_ble_eq_true rfl) dL_law_346 ⟨(by show 84 + 21 * kk ≤ 600000; omega), (by show 159384 + 53802 * kk ≤ 7302250; omega)⟩ (fun rv n2 σ2 hp => ?_)
                  obtain ⟨rfl, rfl, rfl⟩ := hp
                  refine V.eq (σ2 := σw2) (n2 := nw2) (st2 := [.int (nI (aH (zA Z2)))]) rfl rfl rfl rfl ?_
                  have hhe : aH (zA Z2) = aH (zA ZB) := by rw [hz2]
                  refine r_iload C dL_law_349 1 rfl ?_
                  refine r_icmp_neN (tgt := 365) C dL_law_351 (by decide) (by omega) (by omega) (fun c351 => ?_) (fun c351 => ?_)
                  · exact absurd c351 (by omega)
                  · refine r_aload_n C dL_law_354 rfl 4 rfl ?_
                    refine r_callS (As := [.ref b0]) C (c_L_holds (b0 := b0) (Z := Z2)  (by first | assumption | omega) (by first | assumption | omega) (by first | assumption | omega)) wM_L_50 wS_L_holds wN_L wC_L_holds hd_L_holds ⟨Nat.le_of_ble_eq_true rfl, Nat.le_of_ble_eq_true rfl⟩ rfl rfl (Nat.le_of_ble_eq_true rfl) dL_law_355 ⟨(by show 84 + 21 * kk ≤ 600000; omega), (by show 159384 + 53802 * kk ≤ 7302250; omega)⟩ (fun rv n2 σ2 hp => ?_)
                    obtain ⟨rfl, rfl, rfl⟩ := hp
                    refine V.eq (σ2 := σw2) (n2 := nw2) (st2 := [.int (nI 1)]) rfl rfl rfl rfl ?_
                    refine r_if_eqN (tgt := 365) C dL_law_358 (by decide) (by decide) (fun z => absurd z (by decide)) (fun _ => ?_)
                    refine r_iconst (v := nI 1) C dL_law_361 (by decide) ?_
                    refine r_goto (tgt := 366) C dL_law_362 (by decide) ?_
                    refine V.top (y := 1) (by decide) ?_
                    intro H locs ls h1 h2 h3
                    refine va_forget (fun q hq => by have h9 : G.2.2 ≤ q.base := h2.2.2 q hq; omega) ?_
                    refine W.widen (k := 600000) (n := 7302250) (by show 84 + 21 * kk ≤ 600000; omega) (by show 159384 + 53802 * kk ≤ 7302250; omega) ?_
                    exact lw_ret C.1 C.2.1 hr hlocks dL_law_366
            · refine r_iload_n C dL_law_104 rfl 2 rfl ?_
              refine r_if_eqN (tgt := 283) C dL_law_105 (by decide) (by decide) (fun z => absurd z (by decide)) (fun _ => ?_)
              refine r_aload_n C dL_law_108 rfl 0 rfl ?_
              refine r_iconst (v := nI 4) C dL_law_109 (by decide) ?_
              refine r_iload_n C dL_law_110 rfl 3 rfl ?_
              refine r_iaddN C dL_law_111 ?_
              refine r_callC (As := [.ref b, .int (nI (4 + kk))]) C (c_L_cell (b := b) (L := L) (k := 4 + kk) (xs := xs) hL (by omega) hbG) hX hbl hbG wM_L_56 wS_L_cell wN_L wC_L_cell hd_L_cell ⟨Nat.le_of_ble_eq_true rfl, Nat.le_of_ble_eq_true rfl⟩ rfl rfl (Nat.le_of_ble_eq_true rfl) dL_law_112 ⟨(by show 84 + 21 * kk ≤ 600000; omega), (by show 159384 + 53802 * kk ≤ 7302250; omega)⟩ (fun rv n2 σ2 hp => ?_)
              obtain ⟨y_1, rfl, rfl, rfl, hy_2⟩ := hp
              refine V.eq (σ2 := σB) (n2 := nB) (st2 := [.int (nI y_1)]) rfl rfl rfl rfl ?_
              refine r_istore (lv2 := [(4, .int (nI y_1)), (0, .ref b), (1, .ref b0), (2, .int (nI 1)), (3, .int (nI kk))]) C dL_law_115 (by decide) rfl ?_
              refine r_iload C dL_law_117 0 rfl ?_
              refine r_bipush (v := nI 8) C dL_law_119 (by decide) ?_
              refine r_idivN C dL_law_121 (by omega) (by decide) (by decide) ?_
              refine r_istore (lv2 := [(5, .int (nI (y_1 / 8))), (4, .int (nI y_1)), (0, .ref b), (1, .ref b0), (2, .int (nI 1)), (3, .int (nI kk))]) C dL_law_122 (by decide) rfl ?_
              refine r_iload C dL_law_124 0 rfl ?_
              refine r_iconst (v := nI 4) C dL_law_126 (by decide) ?_
              refine r_iremN C dL_law_127 (by omega) (by decide) (by decide) ?_
              refine r_istore (lv2 := [(6, .int (nI ((y_1 / 8) % 4))), (5, .int (nI (y_1 / 8))), (4, .int (nI y_1)), (0, .ref b), (1, .ref b0), (2, .int (nI 1)), (3, .int (nI kk))]) C dL_law_128 (by decide) rfl ?_
              refine r_iload C dL_law_130 2 rfl ?_
              refine r_bipush (v := nI 8) C dL_law_132 (by decide) ?_
              refine r_iremN C dL_law_134 (by omega) (by decide) (by decide) ?_
              have hkw : (y_1 / 8 % 4) < aN (zA ZB) := by omega
              have hv := hA.2.2 _ hkw
              have hN6 := hv.1.N
              have hN1 := hv.1.2.1
              rcases (show y_1 % 8 = 0 ∨ y_1 % 8 = 1 ∨ 1 < y_1 % 8 by omega) with hz | hz | hz
              · refine r_lookup (off := 25) (tgt := 160) C dL_law_135 (by decide) (by rw [nI_toInt (by omega)]; exact (ls_off _ (by omega)).trans (if_pos hz)) (by decide) ?_
                refine r_aload_n C dL_law_160 rfl 4 rfl ?_
                refine r_iload C dL_law_161 0 rfl ?_
                refine r_callS (As := [.ref b0, .int (nI ((y_1 / 8) % 4))]) C (c_L_sorts (b0 := b0) (Z := ZB) (k := (y_1 / 8) % 4)  (by first | assumption | omega) (by first | assumption | omega) (by first | assumption | omega) (by first | assumption | omega)) wM_L_64 wS_L_sorts wN_L wC_L_sorts hd_L_sorts ⟨Nat.le_of_ble_eq_true rfl, Nat.le_of_ble_eq_true rfl⟩ rfl rfl (Nat.le_of_ble_eq_true rfl) dL_law_163 ⟨(by show (84 + 21 * kk) + 21 ≤ 600000; omega), (by show (159384 + 53802 * kk) + 53802 ≤ 7302250; omega)⟩ (fun rv n2 σ2 hp => ?_)
                obtain ⟨nw1, σw1, Z1, rfl, rfl, rfl, hZ1, hS1, hP1, hWw1⟩ := hp
                refine V.eq (σ2 := σw1) (n2 := nw1) (st2 := [.int (nI 1)]) rfl rfl rfl rfl ?_
                have hn1 : aN (zA Z1) = 4 := by rw [hP1.1]; exact hn4
                obtain ⟨fo1, hob1⟩ := hWw1.obj
                refine r_istore_n (lv2 := [(2, .int (nI 1)), (6, .int (nI ((y_1 / 8) % 4))), (5, .int (nI (y_1 / 8))), (4, .int (nI y_1)), (0, .ref b), (1, .ref b0), (3, .int (nI kk))]) C dL_law_166 rfl (by decide) rfl ?_
                refine r_goto (tgt := 260) C dL_law_167 (by decide) ?_
                refine r_iload_n C dL_law_260 rfl 0 rfl ?_
                refine r_if_eqN (tgt := 275) C dL_law_261 (by decide) (by decide) (fun z => absurd z (by decide)) (fun _ => ?_)
                refine r_aload_n C dL_law_264 rfl 5 rfl ?_
                refine r_callS (As := [.ref b0]) C (c_L_holds (b0 := b0) (Z := Z1)  (by first | assumption | omega) (by first | assumption | omega) (by first | assumption | omega)) wM_L_50 wS_L_holds wN_L wC_L_holds hd_L_holds ⟨Nat.le_of_ble_eq_true rfl, Nat.le_of_ble_eq_true rfl⟩ rfl rfl (Nat.le_of_ble_eq_true rfl) dL_law_265 ⟨(by show (84 + 21 * kk) + 21 ≤ 600000; omega), (by show (159384 + 53802 * kk) + 53802 ≤ 7302250; omega)⟩ (fun rv n2 σ2 hp => ?_)
                obtain ⟨rfl, rfl, rfl⟩ := hp
                refine V.eq (σ2 := σw1) (n2 := nw1) (st2 := [.int (nI 1)]) rfl rfl rfl rfl ?_
                refine r_if_eqN (tgt := 275) C dL_law_268 (by decide) (by decide) (fun z => absurd z (by decide)) (fun _ => ?_)
                refine r_iconst (v := nI 1) C dL_law_271 (by decide) ?_
                refine r_goto (tgt := 276) C dL_law_272 (by decide) ?_
                refine r_istore_n (lv2 := [(2, .int (nI 1)), (6, .int (nI ((y_1 / 8) % 4))), (5, .int (nI (y_1 / 8))), (4, .int (nI y_1)), (0, .ref b), (1, .ref b0), (3, .int (nI kk))]) C dL_law_276 rfl (by decide) rfl ?_
                refine r_iinc (v := nI (kk + 1)) (lv2 := [(3, .int (nI (kk + 1))), (2, .int (nI 1)), (6, .int (nI ((y_1 / 8) % 4))), (5, .int (nI (y_1 / 8))), (4, .int (nI y_1)), (0, .ref b), (1, .ref b0)]) C dL_law_277 (k := 6) rfl (nI_add _ 1) (by decide) rfl ?_
                refine r_goto (tgt := 98) C dL_law_280 (by decide) ?_
                refine V.widen (k2 := 84 + 21 * (kk + 1)) (s2 := 159384 + 53802 * (kk + 1)) (by show (84 + 21 * kk) + 21 ≤ 84 + 21 * (kk + 1); omega) (by show (159384 + 53802 * kk) + 53802 ≤ 159384 + 53802 * (kk + 1); omega) ?_
                refine V.sub (lv2 := [(0, .ref b), (1, .ref b0), (2, .int (nI 1)), (3, .int (nI (kk + 1)))]) [5, 6, 1, 0] rfl ?_
                exact ih98 (kk + 1) nw1 σw1 Z1 (by assumption) (by assumption) (by omega) (by omega) (by assumption) (by omega)
              · refine r_lookup (off := 35) (tgt := 170) C dL_law_135 (by decide) (by rw [nI_toInt (by omega)]; exact (ls_off _ (by omega)).trans ((by rw [if_neg (by omega), if_pos hz]))) (by decide) ?_
                refine r_iload C dL_law_170 1 rfl ?_
                refine r_iconst (v := nI 4) C dL_law_172 (by decide) ?_
                refine r_idivN C dL_law_173 (by omega) (by decide) (by decide) ?_
                refine r_bipush (v := nI 24) C dL_law_174 (by decide) ?_
                refine r_iremN C dL_law_176 (by omega) (by decide) (by decide) ?_
                refine r_istore (lv2 := [(7, .int (nI (((y_1 / 8) / 4) % 24))), (6, .int (nI ((y_1 / 8) % 4))), (5, .int (nI (y_1 / 8))), (4, .int (nI y_1)), (0, .ref b), (1, .ref b0), (2, .int (nI 1)), (3, .int (nI kk))]) C dL_law_177 (by decide) rfl ?_
                rcases Nat.lt_or_ge (((y_1 / 8) / 4) % 24) (rR (sid (aKd (zA ZB) (y_1 / 8 % 4))) (aCk (zA ZB) (y_1 / 8 % 4))) with hrk | hrk
                · have hcd : cd (aCk (zA ZB) (y_1 / 8 % 4)) (oR (sid (aKd (zA ZB) (y_1 / 8 % 4))) (aCk (zA ZB) (y_1 / 8 % 4)) (((y_1 / 8) / 4) % 24)) < 1000000 := cd_lt hN6 (oR_lt hrk)
                  have hgl : gp (sid (aKd (zA ZB) (y_1 / 8 % 4))) (aCk (zA ZB) (y_1 / 8 % 4)) (oR (sid (aKd (zA ZB) (y_1 / 8 % 4))) (aCk (zA ZB) (y_1 / 8 % 4)) (((y_1 / 8) / 4) % 24)) (sR (sid (aKd (zA ZB) (y_1 / 8 % 4))) (aCk (zA ZB) (y_1 / 8 % 4)) (((y_1 / 8) / 4) % 24)) ≤ aCk (zA ZB) (y_1 / 8 % 4) := gpp_le _ _ _ _ _
                  refine r_aload_n C dL_law_179 rfl 5 rfl ?_
                  refine r_iload C dL_law_180 1 rfl ?_
                  refine r_iload C dL_law_182 0 rfl ?_
                  refine r_iconst (v := nI 0) C dL_law_184 (by decide) ?_
                  refine r_callV (As := [.int (nI ((y_1 / 8) % 4)), .int (nI (((y_1 / 8) / 4) % 24)), .int (nI 0)]) C (c_X6_ranked_p0 (b0 := b0) (Z := ZB) (k := (y_1 / 8) % 4) (r := ((y_1 / 8) / 4) % 24)  (by first | assumption | omega) (by first | assumption | omega) (by first | assumption | omega) (by first | assumption | omega)) wM_L_68 wI_X6_ranked wN_X6 wC_X6_ranked wV_X6_ranked hd_X6_ranked ⟨Nat.le_of_ble_eq_true rfl, Nat.le_of_ble_eq_true rfl⟩ rfl hobB rfl rfl (Nat.le_of_ble_eq_true rfl) dL_law_185 ⟨(by show 84 + 21 * kk ≤ 600000; omega), (by show 159384 + 53802 * kk ≤ 7302250; omega)⟩ (fun rv n2 σ2 hp => ?_)
                  obtain ⟨rfl, rfl, rfl⟩ := hp
                  refine V.eq (σ2 := σB) (n2 := nB) (st2 := [.int (nI (cd (aCk (zA ZB) ((y_1 / 8) % 4)) (oR (sid (aKd (zA ZB) ((y_1 / 8) % 4))) (aCk (zA ZB) ((y_1 / 8) % 4)) (((y_1 / 8) / 4) % 24))))]) rfl rfl rfl rfl ?_
                  refine r_istore (lv2 := [(8, .int (nI (cd (aCk (zA ZB) ((y_1 / 8) % 4)) (oR (sid (aKd (zA ZB) ((y_1 / 8) % 4))) (aCk (zA ZB) ((y_1 / 8) % 4)) (((y_1 / 8) / 4) % 24))))), (7, .int (nI (((y_1 / 8) / 4) % 24))), (6, .int (nI ((y_1 / 8) % 4))), (5, .int (nI (y_1 / 8))), (4, .int (nI y_1)), (0, .ref b), (1, .ref b0), (2, .int (nI 1)), (3, .int (nI kk))]) C dL_law_188 (by decide) rfl ?_
                  refine r_iload C dL_law_190 0 rfl ?_
                  refine r_ldc C wQ_L_36 dL_law_192 ?_
                  refine r_icmp_eq (tgt := 230) C dL_law_194 (by decide) (fun c194 => ?_) (fun c194 => ?_)
                  · exact absurd c194 (ne_4 (by omega))
                  · refine r_aload_n C dL_law_197 rfl 6 rfl ?_
                    refine r_iload C dL_law_198 2 rfl ?_
                    refine r_iload C dL_law_200 0 rfl ?_
                    refine r_aload_n C dL_law_202 rfl 6 rfl ?_
                    refine r_iload C dL_law_203 2 rfl ?_
                    refine r_iload C dL_law_205 1 rfl ?_
                    refine r_iconst (v := nI 1) C dL_law_207 (by decide) ?_
                    refine r_callV (As := [.int (nI ((y_1 / 8) % 4)), .int (nI (((y_1 / 8) / 4) % 24)), .int (nI 1)]) C (c_X6_ranked_p1 (b0 := b0) (Z := ZB) (k := (y_1 / 8) % 4) (r := ((y_1 / 8) / 4) % 24)  (by first | assumption | omega) (by first | assumption | omega) (by first | assumption | omega) (by first | assumption | omega)) wM_L_68 wI_X6_ranked wN_X6 wC_X6_ranked wV_X6_ranked hd_X6_ranked ⟨Nat.le_of_ble_eq_true rfl, Nat.le_of_ble_eq_true rfl⟩ rfl hobB rfl rfl (Nat.le_of_ble_eq_true rfl) dL_law_208 ⟨(by show 84 + 21 * kk ≤ 600000; omega), (by show 159384 + 53802 * kk ≤ 7302250; omega)⟩ (fun rv n2 σ2 hp => ?_)
                    obtain ⟨rfl, rfl, rfl⟩ := hp
                    refine V.eq (σ2 := σB) (n2 := nB) (st2 := [.int (nI (sR (sid (aKd (zA ZB) ((y_1 / 8) % 4))) (aCk (zA ZB) ((y_1 / 8) % 4)) (((y_1 / 8) / 4) % 24))), .int (nI (cd (aCk (zA ZB) ((y_1 / 8) % 4)) (oR (sid (aKd (zA ZB) ((y_1 / 8) % 4))) (aCk (zA ZB) ((y_1 / 8) % 4)) (((y_1 / 8) / 4) % 24)))), .int (nI ((y_1 / 8) % 4)), .ref b0]) rfl rfl rfl rfl ?_
                    refine r_callV (As := [.int (nI ((y_1 / 8) % 4)), .int (nI (cd (aCk (zA ZB) ((y_1 / 8) % 4)) (oR (sid (aKd (zA ZB) ((y_1 / 8) % 4))) (aCk (zA ZB) ((y_1 / 8) % 4)) (((y_1 / 8) / 4) % 24)))), .int (nI (sR (sid (aKd (zA ZB) ((y_1 / 8) % 4))) (aCk (zA ZB) ((y_1 / 8) % 4)) (((y_1 / 8) / 4) % 24)))]) C (c_X6_lay_p (b0 := b0) (Z := ZB) (k := (y_1 / 8) % 4) (o2 := (oR (sid (aKd (zA ZB) (y_1 / 8 % 4))) (aCk (zA ZB) (y_1 / 8 % 4)) (((y_1 / 8) / 4) % 24))) (sd2 := sR (sid (aKd (zA ZB) ((y_1 / 8) % 4))) (aCk (zA ZB) ((y_1 / 8) % 4)) (((y_1 / 8) / 4) % 24))  (by first | assumption | omega) (by first | assumption | omega) (oR_lt hrk) (sR_lt) (by first | assumption | omega)) wM_L_71 wI_X6_lay wN_X6 wC_X6_lay wV_X6_lay hd_X6_lay ⟨Nat.le_of_ble_eq_true rfl, Nat.le_of_ble_eq_true rfl⟩ rfl hobB rfl rfl (Nat.le_of_ble_eq_true rfl) dL_law_211 ⟨(by show 84 + 21 * kk ≤ 600000; omega), (by show 159384 + 53802 * kk ≤ 7302250; omega)⟩ (fun rv n2 σ2 hp => ?_)
                    obtain ⟨nw1, σw1, rfl, rfl, rfl, hWw1⟩ := hp
                    refine V.eq (σ2 := σw1) (n2 := nw1) (st2 := [.int (nI (gp (sid (aKd (zA ZB) ((y_1 / 8) % 4))) (aCk (zA ZB) ((y_1 / 8) % 4)) (oR (sid (aKd (zA ZB) (y_1 / 8 % 4))) (aCk (zA ZB) (y_1 / 8 % 4)) (((y_1 / 8) / 4) % 24)) (sR (sid (aKd (zA ZB) ((y_1 / 8) % 4))) (aCk (zA ZB) ((y_1 / 8) % 4)) (((y_1 / 8) / 4) % 24))))]) rfl rfl rfl rfl ?_
                    obtain ⟨Z1, hZe1⟩ : ∃ z, z = zP ZB (layA (zA ZB) (y_1 / 8 % 4) (oR (sid (aKd (zA ZB) (y_1 / 8 % 4))) (aCk (zA ZB) (y_1 / 8 % 4)) (((y_1 / 8) / 4) % 24)) (sR (sid (aKd (zA ZB) (y_1 / 8 % 4))) (aCk (zA ZB) (y_1 / 8 % 4)) (((y_1 / 8) / 4) % 24))) := ⟨_, rfl⟩
                    rw [← hZe1] at hWw1
                    have hz1 : zA Z1 = (layA (zA ZB) (y_1 / 8 % 4) (oR (sid (aKd (zA ZB) (y_1 / 8 % 4))) (aCk (zA ZB) (y_1 / 8 % 4)) (((y_1 / 8) / 4) % 24)) (sR (sid (aKd (zA ZB) (y_1 / 8 % 4))) (aCk (zA ZB) (y_1 / 8 % 4)) (((y_1 / 8) / 4) % 24))) := by rw [hZe1]; rfl
                    have hZ1 : ZOK Z1 := by rw [hZe1]; exact zP_ok hZB (layA_ok hA (oR_lt hrk) sR_lt)
                    have hS1 : SUMI (zA Z1) := by rw [hz1]; exact hSB.lay
                    have hn1 : aN (zA Z1) = 4 := by rw [hz1]; exact hn4
                    have hrk1 : rkA (zA Z1) (y_1 / 8 % 4) = ((y_1 / 8) / 4) % 24 := by rw [hz1, rkA_lay]; exact (rk_R _ _ _).symm
                    obtain ⟨fo1, hob1⟩ := hWw1.obj
                    refine r_if_ltN C dL_law_214 (tgt := 234) (by decide) (by omega) ?_
                    refine r_aload_n C dL_law_217 rfl 6 rfl ?_
                    refine r_iload C dL_law_218 2 rfl ?_
                    refine r_bipush (v := nI 7) C dL_law_220 (by decide) ?_
                    refine r_callV (As := [.int (nI ((y_1 / 8) % 4)), .int (nI 7)]) C (c_X6_stackOf_p7 (b0 := b0) (Z := Z1) (k := (y_1 / 8) % 4)  (by first | assumption | omega) (by first | assumption | omega) (by first | assumption | omega)) wM_L_15 wI_X6_stackOf wN_X6 wC_X6_stackOf wV_X6_stackOf hd_X6_stackOf ⟨Nat.le_of_ble_eq_true rfl, Nat.le_of_ble_eq_true rfl⟩ rfl hob1 rfl rfl (Nat.le_of_ble_eq_true rfl) dL_law_222 ⟨(by show 84 + 21 * kk ≤ 600000; omega), (by show 159384 + 53802 * kk ≤ 7302250; omega)⟩ (fun rv n2 σ2 hp => ?_)
                    obtain ⟨rfl, rfl, rfl⟩ := hp
                    refine V.eq (σ2 := σw1) (n2 := nw1) (st2 := [.int (nI (rkA (zA Z1) ((y_1 / 8) % 4)))]) rfl rfl rfl rfl ?_
                    refine r_iload C dL_law_225 1 rfl ?_
                    refine r_icmp_neN (tgt := 234) C dL_law_227 (by decide) (by omega) (by omega) (fun c227 => ?_) (fun c227 => ?_)
                    · exact absurd c227 (by omega)
                    · refine r_iconst (v := nI 1) C dL_law_230 (by decide) ?_
                      refine r_goto (tgt := 235) C dL_law_231 (by decide) ?_
                      refine r_istore_n (lv2 := [(2, .int (nI 1)), (8, .int (nI (cd (aCk (zA ZB) ((y_1 / 8) % 4)) (oR (sid (aKd (zA ZB) ((y_1 / 8) % 4))) (aCk (zA ZB) ((y_1 / 8) % 4)) (((y_1 / 8) / 4) % 24))))), (7, .int (nI (((y_1 / 8) / 4) % 24))), (6, .int (nI ((y_1 / 8) % 4))), (5, .int (nI (y_1 / 8))), (4, .int (nI y_1)), (0, .ref b), (1, .ref b0), (3, .int (nI kk))]) C dL_law_235 rfl (by decide) rfl ?_
                      refine r_goto (tgt := 260) C dL_law_236 (by decide) ?_
                      refine r_iload_n C dL_law_260 rfl 0 rfl ?_
                      refine r_if_eqN (tgt := 275) C dL_law_261 (by decide) (by decide) (fun z => absurd z (by decide)) (fun _ => ?_)
                      refine r_aload_n C dL_law_264 rfl 7 rfl ?_
                      refine r_callS (As := [.ref b0]) C (c_L_holds (b0 := b0) (Z := Z1)  (by first | assumption | omega) (by first | assumption | omega) (by first | assumption | omega)) wM_L_50 wS_L_holds wN_L wC_L_holds hd_L_holds ⟨Nat.le_of_ble_eq_true rfl, Nat.le_of_ble_eq_true rfl⟩ rfl rfl (Nat.le_of_ble_eq_true rfl) dL_law_265 ⟨(by show 84 + 21 * kk ≤ 600000; omega), (by show 159384 + 53802 * kk ≤ 7302250; omega)⟩ (fun rv n2 σ2 hp => ?_)
                      obtain ⟨rfl, rfl, rfl⟩ := hp
                      refine V.eq (σ2 := σw1) (n2 := nw1) (st2 := [.int (nI 1)]) rfl rfl rfl rfl ?_
                      refine r_if_eqN (tgt := 275) C dL_law_268 (by decide) (by decide) (fun z => absurd z (by decide)) (fun _ => ?_)
                      refine r_iconst (v := nI 1) C dL_law_271 (by decide) ?_
                      refine r_goto (tgt := 276) C dL_law_272 (by decide) ?_
                      refine r_istore_n (lv2 := [(2, .int (nI 1)), (8, .int (nI (cd (aCk (zA ZB) ((y_1 / 8) % 4)) (oR (sid (aKd (zA ZB) ((y_1 / 8) % 4))) (aCk (zA ZB) ((y_1 / 8) % 4)) (((y_1 / 8) / 4) % 24))))), (7, .int (nI (((y_1 / 8) / 4) % 24))), (6, .int (nI ((y_1 / 8) % 4))), (5, .int (nI (y_1 / 8))), (4, .int (nI y_1)), (0, .ref b), (1, .ref b0), (3, .int (nI kk))]) C dL_law_276 rfl (by decide) rfl ?_
                      refine r_iinc (v := nI (kk + 1)) (lv2 := [(3, .int (nI (kk + 1))), (2, .int (nI 1)), (8, .int (nI (cd (aCk (zA ZB) ((y_1 / 8) % 4)) (oR (sid (aKd (zA ZB) ((y_1 / 8) % 4))) (aCk (zA ZB) ((y_1 / 8) % 4)) (((y_1 / 8) / 4) % 24))))), (7, .int (nI (((y_1 / 8) / 4) % 24))), (6, .int (nI ((y_1 / 8) % 4))), (5, .int (nI (y_1 / 8))), (4, .int (nI y_1)), (0, .ref b), (1, .ref b0)]) C dL_law_277 (k := 8) rfl (nI_add _ 1) (by decide) rfl ?_
                      refine r_goto (tgt := 98) C dL_law_280 (by decide) ?_
                      refine V.widen (k2 := 84 + 21 * (kk + 1)) (s2 := 159384 + 53802 * (kk + 1)) (by show 84 + 21 * kk ≤ 84 + 21 * (kk + 1); omega) (by show 159384 + 53802 * kk ≤ 159384 + 53802 * (kk + 1); omega) ?_
                      refine V.sub (lv2 := [(0, .ref b), (1, .ref b0), (2, .int (nI 1)), (3, .int (nI (kk + 1)))]) [7, 8, 1, 0] rfl ?_
                      exact ih98 (kk + 1) nw1 σw1 Z1 (by assumption) (by assumption) (by omega) (by omega) (by assumption) (by omega)
                · refine r_aload_n C dL_law_179 rfl 5 rfl ?_
                  refine r_iload C dL_law_180 1 rfl ?_
                  refine r_iload C dL_law_182 0 rfl ?_
                  refine r_iconst (v := nI 0) C dL_law_184 (by decide) ?_
                  refine r_callV (As := [.int (nI ((y_1 / 8) % 4)), .int (nI (((y_1 / 8) / 4) % 24)), .int (nI 0)]) C (c_X6_ranked_pf (b0 := b0) (Z := ZB) (k := (y_1 / 8) % 4) (r := ((y_1 / 8) / 4) % 24) (w := 0)  (by first | assumption | omega) (by first | assumption | omega) (by first | assumption | omega) (by first | assumption | omega) (by first | assumption | omega) (by first | assumption | omega)) wM_L_68 wI_X6_ranked wN_X6 wC_X6_ranked wV_X6_ranked hd_X6_ranked ⟨Nat.le_of_ble_eq_true rfl, Nat.le_of_ble_eq_true rfl⟩ rfl hobB rfl rfl (Nat.le_of_ble_eq_true rfl) dL_law_185 ⟨(by show 84 + 21 * kk ≤ 600000; omega), (by show 159384 + 53802 * kk ≤ 7302250; omega)⟩ (fun rv n2 σ2 hp => ?_)
                  obtain ⟨rfl, rfl, rfl⟩ := hp
                  refine V.eq (σ2 := σB) (n2 := nB) (st2 := [.int (-1000004)]) rfl rfl rfl rfl ?_
                  refine r_istore (lv2 := [(8, .int (-1000004)), (7, .int (nI (((y_1 / 8) / 4) % 24))), (6, .int (nI ((y_1 / 8) % 4))), (5, .int (nI (y_1 / 8))), (4, .int (nI y_1)), (0, .ref b), (1, .ref b0), (2, .int (nI 1)), (3, .int (nI kk))]) C dL_law_188 (by decide) rfl ?_
                  refine r_iload C dL_law_190 0 rfl ?_
                  refine r_ldc C wQ_L_36 dL_law_192 ?_
                  refine r_icmp_eq (tgt := 230) C dL_law_194 (by decide) (fun c194 => ?_) (fun c194 => ?_)
                  · refine r_iconst (v := nI 1) C dL_law_230 (by decide) ?_
                    refine r_goto (tgt := 235) C dL_law_231 (by decide) ?_
                    refine r_istore_n (lv2 := [(2, .int (nI 1)), (8, .int (-1000004)), (7, .int (nI (((y_1 / 8) / 4) % 24))), (6, .int (nI ((y_1 / 8) % 4))), (5, .int (nI (y_1 / 8))), (4, .int (nI y_1)), (0, .ref b), (1, .ref b0), (3, .int (nI kk))]) C dL_law_235 rfl (by decide) rfl ?_
                    refine r_goto (tgt := 260) C dL_law_236 (by decide) ?_
                    refine r_iload_n C dL_law_260 rfl 0 rfl ?_
                    refine r_if_eqN (tgt := 275) C dL_law_261 (by decide) (by decide) (fun z => absurd z (by decide)) (fun _ => ?_)
                    refine r_aload_n C dL_law_264 rfl 7 rfl ?_
                    refine r_callS (As := [.ref b0]) C (c_L_holds (b0 := b0) (Z := ZB)  (by first | assumption | omega) (by first | assumption | omega) (by first | assumption | omega)) wM_L_50 wS_L_holds wN_L wC_L_holds hd_L_holds ⟨Nat.le_of_ble_eq_true rfl, Nat.le_of_ble_eq_true rfl⟩ rfl rfl (Nat.le_of_ble_eq_true rfl) dL_law_265 ⟨(by show 84 + 21 * kk ≤ 600000; omega), (by show 159384 + 53802 * kk ≤ 7302250; omega)⟩ (fun rv n2 σ2 hp => ?_)
                    obtain ⟨rfl, rfl, rfl⟩ := hp
                    refine V.eq (σ2 := σB) (n2 := nB) (st2 := [.int (nI 1)]) rfl rfl rfl rfl ?_
                    refine r_if_eqN (tgt := 275) C dL_law_268 (by decide) (by decide) (fun z => absurd z (by decide)) (fun _ => ?_)
                    refine r_iconst (v := nI 1) C dL_law_271 (by decide) ?_
                    refine r_goto (tgt := 276) C dL_law_272 (by decide) ?_
                    refine r_istore_n (lv2 := [(2, .int (nI 1)), (8, .int (-1000004)), (7, .int (nI (((y_1 / 8) / 4) % 24))), (6, .int (nI ((y_1 / 8) % 4))), (5, .int (nI (y_1 / 8))), (4, .int (nI y_1)), (0, .ref b), (1, .ref b0), (3, .int (nI kk))]) C dL_law_276 rfl (by decide) rfl ?_
                    refine r_iinc (v := nI (kk + 1)) (lv2 := [(3, .int (nI (kk + 1))), (2, .int (nI 1)), (8, .int (-1000004)), (7, .int (nI (((y_1 / 8) / 4) % 24))), (6, .int (nI ((y_1 / 8) % 4))), (5, .int (nI (y_1 / 8))), (4, .int (nI y_1)), (0, .ref b), (1, .ref b0)]) C dL_law_277 (k := 8) rfl (nI_add _ 1) (by decide) rfl ?_
                    refine r_goto (tgt := 98) C dL_law_280 (by decide) ?_
                    refine V.widen (k2 := 84 + 21 * (kk + 1)) (s2 := 159384 + 53802 * (kk + 1)) (by show 84 + 21 * kk ≤ 84 + 21 * (kk + 1); omega) (by show 159384 + 53802 * kk ≤ 159384 + 53802 * (kk + 1); omega) ?_
                    refine V.sub (lv2 := [(0, .ref b), (1, .ref b0), (2, .int (nI 1)), (3, .int (nI (kk + 1)))]) [7, 8, 1, 0] rfl ?_
                    exact ih98 (kk + 1) nB σB ZB (by assumption) (by assumption) (by omega) (by omega) (by assumption) (by omega)
                  · exact absurd rfl c194
              · refine r_lookup (off := 104) (tgt := 239) C dL_law_135 (by decide) (by rw [nI_toInt (by omega)]; exact (ls_off _ (by omega)).trans ((by rw [if_neg (by omega), if_neg (by omega)]))) (by decide) ?_
                refine r_aload_n C dL_law_239 rfl 4 rfl ?_
                refine r_iload C dL_law_240 0 rfl ?_
                refine r_iconst (v := nI 1) C dL_law_242 (by decide) ?_
                refine r_iload C dL_law_243 1 rfl ?_
                refine r_iconst (v := nI 4) C dL_law_245 (by decide) ?_
                refine r_idivN C dL_law_246 (by omega) (by decide) (by decide) ?_
                refine r_aload_n C dL_law_247 rfl 4 rfl ?_
                refine r_iload C dL_law_248 0 rfl ?_
                refine r_iconst (v := nI 1) C dL_law_250 (by decide) ?_
                refine r_callV (As := [.int (nI ((y_1 / 8) % 4)), .int (nI 1)]) C (c_X6_stackOf_p1 (b0 := b0) (Z := ZB) (k := (y_1 / 8) % 4)  (by first | assumption | omega) (by first | assumption | omega) (by first | assumption | omega)) wM_L_15 wI_X6_stackOf wN_X6 wC_X6_stackOf wV_X6_stackOf hd_X6_stackOf ⟨Nat.le_of_ble_eq_true rfl, Nat.le_of_ble_eq_true rfl⟩ rfl hobB rfl rfl (Nat.le_of_ble_eq_true rfl) dL_law_251 ⟨(by show 84 + 21 * kk ≤ 600000; omega), (by show 159384 + 53802 * kk ≤ 7302250; omega)⟩ (fun rv n2 σ2 hp => ?_)
                obtain ⟨rfl, rfl, rfl⟩ := hp
                refine V.eq (σ2 := σB) (n2 := nB) (st2 := [.int (nI (aCk (zA ZB) ((y_1 / 8) % 4))), .int (nI ((y_1 / 8) / 4)), .int (nI 1), .int (nI ((y_1 / 8) % 4)), .ref b0]) rfl rfl rfl rfl ?_
                have hml := Nat.mod_lt ((y_1 / 8) / 4) (show 0 < aCk (zA ZB) (y_1 / 8 % 4) by omega)
                refine r_iremN C dL_law_254 (by omega) (by omega) (by omega) ?_
                refine r_iaddN C dL_law_255 ?_
                refine r_callS (As := [.ref b0, .int (nI ((y_1 / 8) % 4)), .int (nI (1 + (((y_1 / 8) / 4) % (aCk (zA ZB) ((y_1 / 8) % 4)))))]) C (c_L_turns (b0 := b0) (Z := ZB) (k := (y_1 / 8) % 4) (m1 := 1 + (((y_1 / 8) / 4) % (aCk (zA ZB) ((y_1 / 8) % 4))))  (by first | assumption | omega) (by first | assumption | omega) (by first | assumption | omega) (⟨by omega, by omega⟩) (by first | assumption | omega)) wM_L_74 wS_L_turns wN_L wC_L_turns hd_L_turns ⟨Nat.le_of_ble_eq_true rfl, Nat.le_of_ble_eq_true rfl⟩ rfl rfl (Nat.le_of_ble_eq_true rfl) dL_law_256 ⟨(by show 84 + 21 * kk ≤ 600000; omega), (by show 159384 + 53802 * kk ≤ 7302250; omega)⟩ (fun rv n2 σ2 hp => ?_)
                obtain ⟨nw1, σw1, Z1, rfl, rfl, rfl, hZ1, hS1, hP1, hWw1⟩ := hp
                refine V.eq (σ2 := σw1) (n2 := nw1) (st2 := [.int (nI 1)]) rfl rfl rfl rfl ?_
                have hn1 : aN (zA Z1) = 4 := by rw [hP1.1]; exact hn4
                obtain ⟨fo1, hob1⟩ := hWw1.obj
                refine r_istore_n (lv2 := [(2, .int (nI 1)), (6, .int (nI ((y_1 / 8) % 4))), (5, .int (nI (y_1 / 8))), (4, .int (nI y_1)), (0, .ref b), (1, .ref b0), (3, .int (nI kk))]) C dL_law_259 rfl (by decide) rfl ?_
                refine r_iload_n C dL_law_260 rfl 0 rfl ?_
                refine r_if_eqN (tgt := 275) C dL_law_261 (by decide) (by decide) (fun z => absurd z (by decide)) (fun _ => ?_)
                refine r_aload_n C dL_law_264 rfl 5 rfl ?_
                refine r_callS (As := [.ref b0]) C (c_L_holds (b0 := b0) (Z := Z1)  (by first | assumption | omega) (by first | assumption | omega) (by first | assumption | omega)) wM_L_50 wS_L_holds wN_L wC_L_holds hd_L_holds ⟨Nat.le_of_ble_eq_true rfl, Nat.le_of_ble_eq_true rfl⟩ rfl rfl (Nat.le_of_ble_eq_true rfl) dL_law_265 ⟨(by show 84 + 21 * kk ≤ 600000; omega), (by show 159384 + 53802 * kk ≤ 7302250; omega)⟩ (fun rv n2 σ2 hp => ?_)
                obtain ⟨rfl, rfl, rfl⟩ := hp
                refine V.eq (σ2 := σw1) (n2 := nw1) (st2 := [.int (nI 1)]) rfl rfl rfl rfl ?_
                refine r_if_eqN (tgt := 275) C dL_law_268 (by decide) (by decide) (fun z => absurd z (by decide)) (fun _ => ?_)
                refine r_iconst (v := nI 1) C dL_law_271 (by decide) ?_
                refine r_goto (tgt := 276) C dL_law_272 (by decide) ?_
                refine r_istore_n (lv2 := [(2, .int (nI 1)), (6, .int (nI ((y_1 / 8) % 4))), (5, .int (nI (y_1 / 8))), (4, .int (nI y_1)), (0, .ref b), (1, .ref b0), (3, .int (nI kk))]) C dL_law_276 rfl (by decide) rfl ?_
                refine r_iinc (v := nI (kk + 1)) (lv2 := [(3, .int (nI (kk + 1))), (2, .int (nI 1)), (6, .int (nI ((y_1 / 8) % 4))), (5, .int (nI (y_1 / 8))), (4, .int (nI y_1)), (0, .ref b), (1, .ref b0)]) C dL_law_277 (k := 6) rfl (nI_add _ 1) (by decide) rfl ?_
                refine r_goto (tgt := 98) C dL_law_280 (by decide) ?_
                refine V.widen (k2 := 84 + 21 * (kk + 1)) (s2 := 159384 + 53802 * (kk + 1)) (by show 84 + 21 * kk ≤ 84 + 21 * (kk + 1); omega) (by show 159384 + 53802 * kk ≤ 159384 + 53802 * (kk + 1); omega) ?_
                refine V.sub (lv2 := [(0, .ref b), (1, .ref b0), (2, .int (nI 1)), (3, .int (nI (kk + 1)))]) [5, 6, 1, 0] rfl ?_
                exact ih98 (kk + 1) nw1 σw1 Z1 (by assumption) (by assumption) (by omega) (by omega) (by assumption) (by omega)
        refine V.widen (k2 := 84 + 21 * 0) (s2 := 159384 + 53802 * 0) (by show 44 + 10 * w ≤ 84 + 21 * 0; omega) (by show 900 + 39621 * w ≤ 159384 + 53802 * 0; omega) ?_
        refine V.sub (lv2 := [(0, .ref b), (1, .ref b0), (2, .int (nI 1)), (3, .int (nI 0))]) [1, 2, 3, 0] rfl ?_
        exact L98 _ 0 nA σA ZA (by assumption) (by assumption) (by omega) (by omega) (by assumption) (Nat.lt_succ_self _)
      · refine r_iload_n C dL_law_20 rfl 2 rfl ?_
        refine r_if_eqN (tgt := 96) C dL_law_21 (by decide) (by decide) (fun z => absurd z (by decide)) (fun _ => ?_)
        refine r_aload_n C dL_law_24 rfl 0 rfl ?_
        refine r_iload_n C dL_law_25 rfl 3 rfl ?_
        refine r_callC (As := [.ref b, .int (nI w)]) C (c_L_cell (b := b) (L := L) (k := w) (xs := xs) hL (by omega) hbG) hX hbl hbG wM_L_56 wS_L_cell wN_L wC_L_cell hd_L_cell ⟨Nat.le_of_ble_eq_true rfl, Nat.le_of_ble_eq_true rfl⟩ rfl rfl (Nat.le_of_ble_eq_true rfl) dL_law_26 ⟨(by show 44 + 10 * w ≤ 600000; omega), (by show 900 + 39621 * w ≤ 7302250; omega)⟩ (fun rv n2 σ2 hp => ?_)
        obtain ⟨y_3, rfl, rfl, rfl, hy_4⟩ := hp
        refine V.eq (σ2 := σA) (n2 := nA) (st2 := [.int (nI y_3)]) rfl rfl rfl rfl ?_
        refine r_istore (lv2 := [(4, .int (nI y_3)), (0, .ref b), (1, .ref b0), (2, .int (nI 1)), (3, .int (nI w))]) C dL_law_29 (by decide) rfl ?_
        refine r_aload_n C dL_law_31 rfl 2 rfl ?_
        refine r_iload_n C dL_law_32 rfl 4 rfl ?_
        refine r_iconst (v := nI 1) C dL_law_33 (by decide) ?_
        refine r_iload C dL_law_34 0 rfl ?_
        refine r_iconst (v := nI 4) C dL_law_36 (by decide) ?_
        refine r_iremN C dL_law_37 (by omega) (by decide) (by decide) ?_
        refine r_iaddN C dL_law_38 ?_
        refine r_iload_n C dL_law_39 rfl 4 rfl ?_
        refine r_iconst (v := nI 3) C dL_law_40 (by decide) ?_
        refine r_icmp_neN (tgt := 56) C dL_law_41 (by decide) (by omega) (by decide) (fun c41 => ?_) (fun c41 => ?_)
        · refine r_iconst (v := nI 0) C dL_law_56 (by decide) ?_
          have hso : shOK w (1 + y_3 % 4) (0) := sh_a (by omega) (by omega)
          refine r_callV (As := [.int (nI w), .int (nI (1 + (y_3 % 4))), .int (nI 0)]) C (c_X6_stack_p (b0 := b0) (Z := ZA) (kq := w) (N := 1 + (y_3 % 4)) (sr := 0)  (by first | assumption | omega) (hso) (by first | assumption | omega) (by first | assumption | omega)) wM_L_60 wI_X6_stack wN_X6 wC_X6_stack wV_X6_stack hd_X6_stack ⟨Nat.le_of_ble_eq_true rfl, Nat.le_of_ble_eq_true rfl⟩ rfl hobA rfl rfl (Nat.le_of_ble_eq_true rfl) dL_law_57 ⟨(by show (44 + 10 * w) + 7 ≤ 600000; omega), (by show (900 + 39621 * w) + 31935 ≤ 7302250; omega)⟩ (fun rv n2 σ2 hp => ?_)
          obtain ⟨nw1, σw1, rfl, rfl, rfl, hWw1⟩ := hp
          refine V.eq (σ2 := σw1) (n2 := nw1) (st2 := [.int (nI (aN (zA ZA)))]) rfl rfl rfl rfl ?_
          obtain ⟨Z1, hZe1⟩ : ∃ z, z = zP ZA (addA (zA ZA) w (1 + y_3 % 4) 0) := ⟨_, rfl⟩
          rw [← hZe1] at hWw1
          have hz1 : zA Z1 = (addA (zA ZA) w (1 + y_3 % 4) 0) := by rw [hZe1]; rfl
          have hZ1 : ZOK Z1 := by rw [hZe1]; exact zP_ok hZA (addA_ok hZA.1 (by omega) hso)
          have hA1 := hZ1.1
          have hS1 : SUMI (zA Z1) := by rw [hz1]; exact hSA.add
          have hn1 : aN (zA Z1) = w + 1 := by rw [hz1, ← hwA]; rfl
          have hk1 : w < aN (zA Z1) := by omega
          have ho1 : aO (zA Z1) w = 0 ∧ aSd (zA Z1) w = 0 := by rw [hz1]; have h := addA_n (a := zA ZA) (kd := w) (N := 1 + y_3 % 4) (sr := 0); rw [hwA] at h; exact ⟨h.2.2.2.1, h.2.2.2.2.1⟩
          have hs1 := sr_0 hA1 hk1 ho1.1 ho1.2
          have hd1 : dsA (zA Z1) w = 0 := by rw [dsA, hs1.2.2]; exact ds_0 (hA1.2.2 w hk1).1
          obtain ⟨fo1, hob1⟩ := hWw1.obj
          refine r_iload_n C dL_law_60 rfl 4 rfl ?_
          refine r_icmp_neN (tgt := 88) C dL_law_61 (by decide) (by omega) (by omega) (fun c61 => ?_) (fun c61 => ?_)
          · exact absurd c61 (by omega)
          · refine r_aload_n C dL_law_64 rfl 2 rfl ?_
            refine r_iload_n C dL_law_65 rfl 4 rfl ?_
            refine r_bipush (v := nI 6) C dL_law_66 (by decide) ?_
            refine r_callV (As := [.int (nI w), .int (nI 6)]) C (c_X6_stackOf_p6 (b0 := b0) (Z := Z1) (k := w)  (by first | assumption | omega) (by first | assumption | omega) (by first | assumption | omega)) wM_L_15 wI_X6_stackOf wN_X6 wC_X6_stackOf wV_X6_stackOf hd_X6_stackOf ⟨Nat.le_of_ble_eq_true rfl, Nat.le_of_ble_eq_true rfl⟩ rfl hob1 rfl rfl (Nat.le_of_ble_eq_true rfl) dL_law_68 ⟨(by show (44 + 10 * w) + 7 ≤ 600000; omega), (by show (900 + 39621 * w) + 31935 ≤ 7302250; omega)⟩ (fun rv n2 σ2 hp => ?_)
            obtain ⟨rfl, rfl, rfl⟩ := hp
            refine V.eq (σ2 := σw1) (n2 := nw1) (st2 := [.int (bI (srA (zA Z1) w))]) rfl rfl rfl rfl ?_
            refine V.top (y := nI 1) (by rw [hs1.1]; rfl) ?_
            refine r_iconst (v := nI 1) C dL_law_71 (by decide) ?_
            refine r_icmp_neN (tgt := 88) C dL_law_72 (by decide) (by decide) (by decide) (fun z => absurd z (by decide)) (fun _ => ?_)
            refine r_aload_n C dL_law_75 rfl 2 rfl ?_
            refine r_iload_n C dL_law_76 rfl 4 rfl ?_
            refine r_iconst (v := nI 0) C dL_law_77 (by decide) ?_
            refine r_callV (As := [.int (nI w), .int (nI 0)]) C (c_X6_fewest_pc (b0 := b0) (Z := Z1) (k := w)  (by first | assumption | omega) (by first | assumption | omega) (by first | assumption | omega) (by first | assumption | omega)) wM_L_33 wI_X6_fewest wN_X6 wC_X6_fewest wV_X6_fewest hd_X6_fewest ⟨Nat.le_of_ble_eq_true rfl, Nat.le_of_ble_eq_true rfl⟩ rfl hob1 rfl rfl (Nat.le_of_ble_eq_true rfl) dL_law_78 ⟨(by show ((44 + 10 * w) + 7) + 3 ≤ 600000; omega), (by show ((900 + 39621 * w) + 31935) + 7686 ≤ 7302250; omega)⟩ (fun rv n2 σ2 hp => ?_)
            obtain ⟨nw2, σw2, rfl, rfl, rfl, hWw2⟩ := hp
            refine V.eq (σ2 := σw2) (n2 := nw2) (st2 := [.int (nI (dsA (zA Z1) w))]) rfl rfl rfl rfl ?_
            obtain ⟨fo2, hob2⟩ := hWw2.obj
            refine r_if_neN (tgt := 88) C dL_law_81 (by decide) (by omega) (fun c81 => ?_) (fun c81 => ?_)
            · exact absurd c81 (by omega)
            · refine r_iconst (v := nI 1) C dL_law_84 (by decide) ?_
              refine r_goto (tgt := 89) C dL_law_85 (by decide) ?_
              refine r_istore_n (lv2 := [(2, .int (nI 1)), (4, .int (nI y_3)), (0, .ref b), (1, .ref b0), (3, .int (nI w))]) C dL_law_89 rfl (by decide) rfl ?_
              refine r_iinc (v := nI (w + 1)) (lv2 := [(3, .int (nI (w + 1))), (2, .int (nI 1)), (4, .int (nI y_3)), (0, .ref b), (1, .ref b0)]) C dL_law_90 (k := 4) rfl (nI_add _ 1) (by decide) rfl ?_
              refine r_goto (tgt := 15) C dL_law_93 (by decide) ?_
              refine V.widen (k2 := 44 + 10 * (w + 1)) (s2 := 900 + 39621 * (w + 1)) (by show ((44 + 10 * w) + 7) + 3 ≤ 44 + 10 * (w + 1); omega) (by show ((900 + 39621 * w) + 31935) + 7686 ≤ 900 + 39621 * (w + 1); omega) ?_
              refine V.sub (lv2 := [(0, .ref b), (1, .ref b0), (2, .int (nI 1)), (3, .int (nI (w + 1)))]) [3, 4, 1, 0] rfl ?_
              exact ih15 (w + 1) nw2 σw2 Z1 (by assumption) (by assumption) (by omega) (by omega) (by assumption) (by omega)
        · refine r_iconst (v := nI 1) C dL_law_44 (by decide) ?_
          refine r_iload C dL_law_45 0 rfl ?_
          refine r_iconst (v := nI 4) C dL_law_47 (by decide) ?_
          refine r_idivN C dL_law_48 (by omega) (by decide) (by decide) ?_
          refine r_bipush (v := nI 12) C dL_law_49 (by decide) ?_
          refine r_iremN C dL_law_51 (by omega) (by decide) (by decide) ?_
          refine r_iaddN C dL_law_52 ?_
          refine r_goto (tgt := 57) C dL_law_53 (by decide) ?_
          have hso : shOK w (1 + y_3 % 4) (1 + ((y_3 / 4) % 12)) := by rw [show w = 3 by omega]; exact sh_b _ _
          refine r_callV (As := [.int (nI w), .int (nI (1 + (y_3 % 4))), .int (nI (1 + ((y_3 / 4) % 12)))]) C (c_X6_stack_p (b0 := b0) (Z := ZA) (kq := w) (N := 1 + (y_3 % 4)) (sr := 1 + ((y_3 / 4) % 12))  (by first | assumption | omega) (hso) (by first | assumption | omega) (by first | assumption | omega)) wM_L_60 wI_X6_stack wN_X6 wC_X6_stack wV_X6_stack hd_X6_stack ⟨Nat.le_of_ble_eq_true rfl, Nat.le_of_ble_eq_true rfl⟩ rfl hobA rfl rfl (Nat.le_of_ble_eq_true rfl) dL_law_57 ⟨(by show (44 + 10 * w) + 7 ≤ 600000; omega), (by show (900 + 39621 * w) + 31935 ≤ 7302250; omega)⟩ (fun rv n2 σ2 hp => ?_)
          obtain ⟨nw1, σw1, rfl, rfl, rfl, hWw1⟩ := hp
          refine V.eq (σ2 := σw1) (n2 := nw1) (st2 := [.int (nI (aN (zA ZA)))]) rfl rfl rfl rfl ?_
          obtain ⟨Z1, hZe1⟩ : ∃ z, z = zP ZA (addA (zA ZA) w (1 + y_3 % 4) (1 + ((y_3 / 4) % 12))) := ⟨_, rfl⟩
          rw [← hZe1] at hWw1
          have hz1 : zA Z1 = (addA (zA ZA) w (1 + y_3 % 4) (1 + ((y_3 / 4) % 12))) := by rw [hZe1]; rfl
          have hZ1 : ZOK Z1 := by rw [hZe1]; exact zP_ok hZA (addA_ok hZA.1 (by omega) hso)
          have hA1 := hZ1.1
          have hS1 : SUMI (zA Z1) := by rw [hz1]; exact hSA.add
          have hn1 : aN (zA Z1) = w + 1 := by rw [hz1, ← hwA]; rfl
          have hk1 : w < aN (zA Z1) := by omega
          have ho1 : aO (zA Z1) w = 0 ∧ aSd (zA Z1) w = 0 := by rw [hz1]; have h := addA_n (a := zA ZA) (kd := w) (N := 1 + y_3 % 4) (sr := 1 + ((y_3 / 4) % 12)); rw [hwA] at h; exact ⟨h.2.2.2.1, h.2.2.2.2.1⟩
          have hs1 := sr_0 hA1 hk1 ho1.1 ho1.2
          have hd1 : dsA (zA Z1) w = 0 := by rw [dsA, hs1.2.2]; exact ds_0 (hA1.2.2 w hk1).1
          obtain ⟨fo1, hob1⟩ := hWw1.obj
          refine r_iload_n C dL_law_60 rfl 4 rfl ?_
          refine r_icmp_neN (tgt := 88) C dL_law_61 (by decide) (by omega) (by omega) (fun c61 => ?_) (fun c61 => ?_)
          · exact absurd c61 (by omega)
          · refine r_aload_n C dL_law_64 rfl 2 rfl ?_
            refine r_iload_n C dL_law_65 rfl 4 rfl ?_
            refine r_bipush (v := nI 6) C dL_law_66 (by decide) ?_
            refine r_callV (As := [.int (nI w), .int (nI 6)]) C (c_X6_stackOf_p6 (b0 := b0) (Z := Z1) (k := w)  (by first | assumption | omega) (by first | assumption | omega) (by first | assumption | omega)) wM_L_15 wI_X6_stackOf wN_X6 wC_X6_stackOf wV_X6_stackOf hd_X6_stackOf ⟨Nat.le_of_ble_eq_true rfl, Nat.le_of_ble_eq_true rfl⟩ rfl hob1 rfl rfl (Nat.le_of_ble_eq_true rfl) dL_law_68 ⟨(by show (44 + 10 * w) + 7 ≤ 600000; omega), (by show (900 + 39621 * w) + 31935 ≤ 7302250; omega)⟩ (fun rv n2 σ2 hp => ?_)
            obtain ⟨rfl, rfl, rfl⟩ := hp
            refine V.eq (σ2 := σw1) (n2 := nw1) (st2 := [.int (bI (srA (zA Z1) w))]) rfl rfl rfl rfl ?_
            refine V.top (y := nI 1) (by rw [hs1.1]; rfl) ?_
            refine r_iconst (v := nI 1) C dL_law_71 (by decide) ?_
            refine r_icmp_neN (tgt := 88) C dL_law_72 (by decide) (by decide) (by decide) (fun z => absurd z (by decide)) (fun _ => ?_)
            refine r_aload_n C dL_law_75 rfl 2 rfl ?_
            refine r_iload_n C dL_law_76 rfl 4 rfl ?_
            refine r_iconst (v := nI 0) C dL_law_77 (by decide) ?_
            refine r_callV (As := [.int (nI w), .int (nI 0)]) C (c_X6_fewest_pc (b0 := b0) (Z := Z1) (k := w)  (by first | assumption | omega) (by first | assumption | omega) (by first | assumption | omega) (by first | assumption | omega)) wM_L_33 wI_X6_fewest wN_X6 wC_X6_fewest wV_X6_fewest hd_X6_fewest ⟨Nat.le_of_ble_eq_true rfl, Nat.le_of_ble_eq_true rfl⟩ rfl hob1 rfl rfl (Nat.le_of_ble_eq_true rfl) dL_law_78 ⟨(by show ((44 + 10 * w) + 7) + 3 ≤ 600000; omega), (by show ((900 + 39621 * w) + 31935) + 7686 ≤ 7302250; omega)⟩ (fun rv n2 σ2 hp => ?_)
            obtain ⟨nw2, σw2, rfl, rfl, rfl, hWw2⟩ := hp
            refine V.eq (σ2 := σw2) (n2 := nw2) (st2 := [.int (nI (dsA (zA Z1) w))]) rfl rfl rfl rfl ?_
            obtain ⟨fo2, hob2⟩ := hWw2.obj
            refine r_if_neN (tgt := 88) C dL_law_81 (by decide) (by omega) (fun c81 => ?_) (fun c81 => ?_)
            · exact absurd c81 (by omega)
            · refine r_iconst (v := nI 1) C dL_law_84 (by decide) ?_
              refine r_goto (tgt := 89) C dL_law_85 (by decide) ?_
              refine r_istore_n (lv2 := [(2, .int (nI 1)), (4, .int (nI y_3)), (0, .ref b), (1, .ref b0), (3, .int (nI w))]) C dL_law_89 rfl (by decide) rfl ?_
              refine r_iinc (v := nI (w + 1)) (lv2 := [(3, .int (nI (w + 1))), (2, .int (nI 1)), (4, .int (nI y_3)), (0, .ref b), (1, .ref b0)]) C dL_law_90 (k := 4) rfl (nI_add _ 1) (by decide) rfl ?_
              refine r_goto (tgt := 15) C dL_law_93 (by decide) ?_
              refine V.widen (k2 := 44 + 10 * (w + 1)) (s2 := 900 + 39621 * (w + 1)) (by show ((44 + 10 * w) + 7) + 3 ≤ 44 + 10 * (w + 1); omega) (by show ((900 + 39621 * w) + 31935) + 7686 ≤ 900 + 39621 * (w + 1); omega) ?_
              refine V.sub (lv2 := [(0, .ref b), (1, .ref b0), (2, .int (nI 1)), (3, .int (nI (w + 1)))]) [3, 4, 1, 0] rfl ?_
              exact ih15 (w + 1) nw2 σw2 Z1 (by assumption) (by assumption) (by omega) (by omega) (by assumption) (by omega)
  refine V.widen (k2 := 44 + 10 * 0) (s2 := 900 + 39621 * 0) (by show 44 ≤ 44 + 10 * 0; omega) (by show 867 ≤ 900 + 39621 * 0; omega) ?_
  refine V.sub (lv2 := [(0, .ref b), (1, .ref b0), (2, .int (nI 1)), (3, .int (nI 0))]) [3, 2, 1, 0] rfl ?_
  exact L15 _ 0 (b0 + 44) σ0 zZ (by assumption) (by assumption) (by omega) (by omega) (by assumption) (Nat.lt_succ_self _)
