theorem one_le_2p {k : Nat} : 1 ≤ 1 * 2 ^ k := by
  rw [Nat.one_mul]
  exact Nat.one_le_two_pow
theorem sm_pow (sb : Bool) (N : Nat) : 1 * 2 ^ sbN sb N - 1 = sm sb N - 1 := by cases sb <;> simp [sm, sbN]
theorem rR_pow (sb : Bool) (N : Nat) : fac N * 2 ^ sbN sb N = rR sb N := by cases sb <;> simp [rR, sm, sbN]
theorem fac_up {z N : Nat} (h : z ≤ N) : fac z ≤ fac N := by
  induction N with
  | zero => rw [show z = 0 by omega]; exact Nat.le_refl _
  | succ N ih =>
    rcases Nat.lt_or_eq_of_le h with g | g
    · have := ih (by omega)
      rw [show fac (N + 1) = (N + 1) * fac N from rfl, Nat.add_mul]
      omega
    · rw [g]; exact Nat.le_refl _
theorem rk_00 (sb : Bool) (N : Nat) : rk sb N 0 0 = 0 := by cases sb <;> simp [rk]
theorem rk_s0 (sb : Bool) (N o : Nat) : rk sb N (o + 1) 0 = rk sb N o 0 + sm sb N := by
  cases sb with
  | false => simp [rk, sm]
  | true => simp only [rk, sm, if_true, Nat.add_mul]; omega
theorem rk_F0 (sb : Bool) (N : Nat) : rk sb N (fac N) 0 = rR sb N := by cases sb <;> simp [rk, rR, sm]
theorem turned_s {sb : Bool} {N o : Nat} {w v : Nat → Int32} (h : rk sb N (o + 1) 0 = rk sb N o 0 + sm sb N) (hB : ∀ r, r < rk sb N o 0 → ∀ k, 1 ≤ k → k ≤ N → w (r * N + k - 1) = nI (nx sb N r k)) (hm : ∀ q, q < rk sb N o 0 * N → v q = w q)
    (hn : ∀ sd, sd < sm sb N → ∀ k, 1 ≤ k → k ≤ N → v (rk sb N o sd * N + k - 1) = nI (nx sb N (rk sb N o sd) k)) : ∀ r, r < rk sb N (o + 1) 0 → ∀ k, 1 ≤ k → k ≤ N → v (r * N + k - 1) = nI (nx sb N r k) := fun r hr k h1 h2 => by
  rcases Nat.lt_or_ge r (rk sb N o 0) with g | g
  · rw [hm _ (ix_lt3 g h1 h2)]
    exact hB r g k h1 h2
  · have hs : r - rk sb N o 0 < sm sb N := by omega
    have := hn (r - rk sb N o 0) hs k h1 h2
    rw [rk_0s o hs, show rk sb N o 0 + (r - rk sb N o 0) = r by omega] at this
    exact this
theorem sizes_all {N o : Nat} {w : Nat → Int32} (h : o = fac N) (hA : ∀ o2, o2 < o → ∀ j, j < N → w (o2 * N + j) = nI (sz N o2 j)) : ∀ o2, o2 < fac N → ∀ j, j < N → w (o2 * N + j) = nI (sz N o2 j) := by
  rw [← h]
  exact hA

abbrev rm_X1_init : Room := { frames := 8, cells := 4, slots := 28080, locals := 211 }
set_option maxRecDepth 100000 in
set_option maxHeartbeats 4000000 in
theorem c_X1_init {l : Launch} {G : gG} {σ : gS} {la N : Nat} {sb : Bool} (hc0 : σ la = some (.inr (1, [.int (nI 0), .int (nI 0), .int (nI 0), .int (nI 0), .null, .null, .null, .null]))) (hL : LOK sb N) : GM l G yX1_init cX1_init 6 none rm_X1_init (la + 1) σ [.ref la, .int (nI N), .int (bI sb)] (fun rv n2 σ2 => (none : Option Value) = rv ∧ la + 5 = n2 ∧ ∃ (cfl : Nat) (g1 : Nat → Int32) (g2 : Nat → Int32) (g3 : Nat → Int32) (g4 : Nat → Int32), (RW σ la [(.inr (1, [.int (nI N), .int (nI (rR sb N)), .int (nI (sbN sb N)), .int (nI (sm sb N - 1)), .ref (la + 1), .ref (la + 2), .ref (la + 3), .ref (la + 4)])), (aI G (fac N) g1), (aI G (fac N * N) g2), (aI G (rR sb N * N) g3), (aI G (rR sb N) g4)]) = σ2 ∧ (∀ o, o < fac N → g1 o = nI (cd N o)) ∧ (∀ o, o < fac N → ∀ j, j < N → g2 (o * N + j) = nI (sz N o j)) ∧ (∀ r, r < rR sb N → ∀ k, 1 ≤ k → k ≤ N → g3 (r * N + k - 1) = nI (nx sb N r k)) ∧ (∀ r, r < rR sb N → g4 r = nI (jw sb N r))) := by
  refine GM.intro (by decide +kernel) (Nat.le_of_ble_eq_true rfl) (fun p e s m args below meth c C hr hlocks hname po hpo => ?_)
  have C : Cx p s m args c cX1_init 6 RX1 G := C
  have hb9 := hL.b
  refine V.hp (σ2 := (RW σ la [(.inr (1, [.int (nI 0), .int (nI 0), .int (nI 0), .int (nI 0), .null, .null, .null, .null]))])) (RW_cons hc0 (RW_nil _ _)).symm ?_
  refine r_aload_n C dX1_init_0 rfl 0 rfl ?_
  refine r_objInit C wM_X1_3 wI_objectInit wC_objectInit (by decide) dX1_init_1 (by decide) (by decide) ?_
  refine r_aload_n C dX1_init_4 rfl 0 rfl ?_
  refine r_iload_n C dX1_init_5 rfl 1 rfl ?_
  refine r_putF (Cn := RX1) (T := TX1) (N := 8) (fs2 := [.int (nI N), .int (nI 0), .int (nI 0), .int (nI 0), .null, .null, .null, .null]) C inlX1 tyX1 tyX1_ok nmX1 (RW_at0 rfl) rfl 0 (by decide) wF_X1_9 (fun _ h => h) rfl hname rfl (tyX1_ok 0 (by decide)) rfl rfl (Nat.le_of_ble_eq_true rfl) rfl dX1_init_6 ?_
  refine V.hp (σ2 := (RW σ la [(.inr (1, [.int (nI N), .int (nI 0), .int (nI 0), .int (nI 0), .null, .null, .null, .null]))])) (RW_set0 (Nat.le_of_ble_eq_true rfl) rfl) ?_
  refine r_aload_n C dX1_init_9 rfl 0 rfl ?_
  refine r_iload_n C dX1_init_10 rfl 2 rfl ?_
  have L19 : V p l e rm_X1_init s m args below meth c G 6 (MQ below (gQ G po) args s rm_X1_init.cells rm_X1_init.slots (gF G)) 0 0 (la + 1) (RW σ la [(.inr (1, [.int (nI N), .int (nI 0), .int (nI 0), .int (nI 0), .null, .null, .null, .null]))]) 19 [(0, .ref la), (1, .int (nI N)), (2, .int (bI sb))] [.int (nI (sbN sb N)), .ref la] := by
    refine r_putF (Cn := RX1) (T := TX1) (N := 8) (fs2 := [.int (nI N), .int (nI 0), .int (nI (sbN sb N)), .int (nI 0), .null, .null, .null, .null]) C inlX1 tyX1 tyX1_ok nmX1 (RW_at0 rfl) rfl 2 (by decide) wF_X1_15 (fun _ h => h) rfl hname rfl (tyX1_ok 2 (by decide)) rfl rfl (Nat.le_of_ble_eq_true rfl) rfl dX1_init_19 ?_
    refine V.hp (σ2 := (RW σ la [(.inr (1, [.int (nI N), .int (nI 0), .int (nI (sbN sb N)), .int (nI 0), .null, .null, .null, .null]))])) (RW_set0 (Nat.le_of_ble_eq_true rfl) rfl) ?_
    refine r_aload_n C dX1_init_22 rfl 0 rfl ?_
    refine r_iconst (v := nI 1) C dX1_init_23 (by decide) ?_
    refine r_aload_n C dX1_init_24 rfl 0 rfl ?_
    refine r_get (Cn := RX1) (T := TX1) (N := 8) (v := .int (nI (sbN sb N))) C inlX1 (RW_at0 rfl) rfl 2 (by decide) wF_X1_15 (fun _ h => h) rfl dX1_init_25 ?_
    refine r_ishlN C dX1_init_28 (by omega) ?_
    refine r_iconst (v := nI 1) C dX1_init_29 (by decide) ?_
    refine r_isubN C dX1_init_30 (one_le_2p) ?_
    refine V.top (y := nI (sm sb N - 1)) (congrArg nI (sm_pow sb N)) ?_
    refine r_putF (Cn := RX1) (T := TX1) (N := 8) (fs2 := [.int (nI N), .int (nI 0), .int (nI (sbN sb N)), .int (nI (sm sb N - 1)), .null, .null, .null, .null]) C inlX1 tyX1 tyX1_ok nmX1 (RW_at0 rfl) rfl 3 (by decide) wF_X1_18 (fun _ h => h) rfl hname rfl (tyX1_ok 3 (by decide)) rfl rfl (Nat.le_of_ble_eq_true rfl) rfl dX1_init_31 ?_
    refine V.hp (σ2 := (RW σ la [(.inr (1, [.int (nI N), .int (nI 0), .int (nI (sbN sb N)), .int (nI (sm sb N - 1)), .null, .null, .null, .null]))])) (RW_set0 (Nat.le_of_ble_eq_true rfl) rfl) ?_
    refine r_iconst (v := nI 1) C dX1_init_34 (by decide) ?_
    refine r_istore_n (lv2 := [(3, .int (nI 1)), (0, .ref la), (1, .int (nI N)), (2, .int (bI sb))]) C dX1_init_35 rfl (by decide) rfl ?_
    refine r_iconst (v := nI 2) C dX1_init_36 (by decide) ?_
    refine r_istore (lv2 := [(4, .int (nI 2)), (3, .int (nI 1)), (0, .ref la), (1, .int (nI N)), (2, .int (bI sb))]) C dX1_init_37 (by decide) rfl ?_
    have L39 : ∀ (fu : Nat) (z : Nat), (z + 1 ≤ N) → (N + 1 - z) < fu → V p l e rm_X1_init s m args below meth c G 6 (MQ below (gQ G po) args s rm_X1_init.cells rm_X1_init.slots (gF G)) 0 0 (la + 1) (RW σ la [(.inr (1, [.int (nI N), .int (nI 0), .int (nI (sbN sb N)), .int (nI (sm sb N - 1)), .null, .null, .null, .null]))]) 39 [(0, .ref la), (1, .int (nI N)), (2, .int (bI sb)), (3, .int (nI (fac (z + 1)))), (4, .int (nI (z + 2)))] [] := by
      intro fu
      induction fu with
      | zero => intro z hz hm; exact absurd hm (Nat.not_lt_zero _)
      | succ fu ih39 =>
        intro z hz hm39
        have hfz := fac_up (show z + 1 ≤ N by omega)
        refine r_iload C dX1_init_39 4 rfl ?_
        refine r_iload_n C dX1_init_41 rfl 1 rfl ?_
        refine r_icmp_gtN (tgt := 56) C dX1_init_42 (by decide) (by omega) (by omega) (fun c42 => ?_) (fun c42 => ?_)
        · have hz1 : z + 1 = N := by omega
          refine V.eq (lv2 := [(0, .ref la), (1, .int (nI N)), (2, .int (bI sb)), (3, .int (nI (fac N))), (4, .int (nI (z + 2)))]) rfl rfl (by rw [(show nI (fac (z + 1)) = nI (fac N) from by rw [hz1])]) rfl ?_
          refine r_aload_n C dX1_init_56 rfl 0 rfl ?_
          refine r_iload_n C dX1_init_57 rfl 3 rfl ?_
          refine r_aload_n C dX1_init_58 rfl 0 rfl ?_
          refine r_get (Cn := RX1) (T := TX1) (N := 8) (v := .int (nI (sbN sb N))) C inlX1 (RW_at0 rfl) rfl 2 (by decide) wF_X1_15 (fun _ h => h) rfl dX1_init_59 ?_
          refine r_ishlN C dX1_init_62 (by omega) ?_
          refine V.top (y := nI (rR sb N)) (congrArg nI (rR_pow sb N)) ?_
          refine r_putF (Cn := RX1) (T := TX1) (N := 8) (fs2 := [.int (nI N), .int (nI (rR sb N)), .int (nI (sbN sb N)), .int (nI (sm sb N - 1)), .null, .null, .null, .null]) C inlX1 tyX1 tyX1_ok nmX1 (RW_at0 rfl) rfl 1 (by decide) wF_X1_21 (fun _ h => h) rfl hname rfl (tyX1_ok 1 (by decide)) rfl rfl (Nat.le_of_ble_eq_true rfl) rfl dX1_init_63 ?_
          refine V.hp (σ2 := (RW σ la [(.inr (1, [.int (nI N), .int (nI (rR sb N)), .int (nI (sbN sb N)), .int (nI (sm sb N - 1)), .null, .null, .null, .null]))])) (RW_set0 (Nat.le_of_ble_eq_true rfl) rfl) ?_
          refine r_aload_n C dX1_init_66 rfl 0 rfl ?_
          refine r_iload_n C dX1_init_67 rfl 3 rfl ?_
          refine r_callSN (As := [.int (nI (fac N))]) C (c_X6_newRow (len := fac N)  (by omega)) wZ_X1_24 wS_X6_newRow wN_X6 wC_X6_newRow hd_X6_newRow ⟨Nat.le_of_ble_eq_true rfl, Nat.le_of_ble_eq_true rfl⟩ rfl rfl (Nat.le_of_ble_eq_true rfl) dX1_init_68 ⟨(Nat.le_of_ble_eq_true rfl), (by show 0 + (fac N) ≤ 28080; omega)⟩ (fun rv n2 σ2 hp => ?_)
          obtain ⟨rfl, rfl, rfl⟩ := hp
          refine V.eq (σ2 := (hU (RW σ la [(.inr (1, [.int (nI N), .int (nI (rR sb N)), .int (nI (sbN sb N)), .int (nI (sm sb N - 1)), .null, .null, .null, .null]))]) (la + 1) (aI G (fac N) (fun _ => 0)))) (n2 := la + 2) (st2 := [.ref (la + 1), .ref la]) rfl rfl rfl rfl ?_
          refine V.hp (σ2 := (RW σ la [(.inr (1, [.int (nI N), .int (nI (rR sb N)), .int (nI (sbN sb N)), .int (nI (sm sb N - 1)), .null, .null, .null, .null])), (aI G (fac N) (fun _ => 0))])) (RW_snoc (m := 1) rfl rfl) ?_
          refine r_putF (Cn := RX1) (T := TX1) (N := 8) (fs2 := [.int (nI N), .int (nI (rR sb N)), .int (nI (sbN sb N)), .int (nI (sm sb N - 1)), .ref (la + 1), .null, .null, .null]) C inlX1 tyX1 tyX1_ok nmX1 (RW_at0 rfl) rfl 4 (by decide) wF_X1_28 (fun _ h => h) rfl hname rfl (tyX1_ok 4 (by decide)) rfl rfl (Nat.le_of_ble_eq_true rfl) rfl dX1_init_71 ?_
          refine V.hp (σ2 := (RW σ la [(.inr (1, [.int (nI N), .int (nI (rR sb N)), .int (nI (sbN sb N)), .int (nI (sm sb N - 1)), .ref (la + 1), .null, .null, .null])), (aI G (fac N) (fun _ => 0))])) (RW_set0 (Nat.le_of_ble_eq_true rfl) rfl) ?_
          refine r_aload_n C dX1_init_74 rfl 0 rfl ?_
          refine r_iload_n C dX1_init_75 rfl 3 rfl ?_
          refine r_iload_n C dX1_init_76 rfl 1 rfl ?_
          refine r_imulN C dX1_init_77 ?_
          refine r_callSN (As := [.int (nI ((fac N) * N))]) C (c_X6_newRow (len := (fac N) * N)  (by omega)) wZ_X1_24 wS_X6_newRow wN_X6 wC_X6_newRow hd_X6_newRow ⟨Nat.le_of_ble_eq_true rfl, Nat.le_of_ble_eq_true rfl⟩ rfl rfl (Nat.le_of_ble_eq_true rfl) dX1_init_78 ⟨(Nat.le_of_ble_eq_true rfl), (by show (0 + (fac N)) + ((fac N) * N) ≤ 28080; omega)⟩ (fun rv n2 σ2 hp => ?_)
          obtain ⟨rfl, rfl, rfl⟩ := hp
          refine V.eq (σ2 := (hU (RW σ la [(.inr (1, [.int (nI N), .int (nI (rR sb N)), .int (nI (sbN sb N)), .int (nI (sm sb N - 1)), .ref (la + 1), .null, .null, .null])), (aI G (fac N) (fun _ => 0))]) (la + 2) (aI G ((fac N) * N) (fun _ => 0)))) (n2 := la + 3) (st2 := [.ref (la + 2), .ref la]) rfl rfl rfl rfl ?_
          refine V.hp (σ2 := (RW σ la [(.inr (1, [.int (nI N), .int (nI (rR sb N)), .int (nI (sbN sb N)), .int (nI (sm sb N - 1)), .ref (la + 1), .null, .null, .null])), (aI G (fac N) (fun _ => 0)), (aI G ((fac N) * N) (fun _ => 0))])) (RW_snoc (m := 2) rfl rfl) ?_
          refine r_putF (Cn := RX1) (T := TX1) (N := 8) (fs2 := [.int (nI N), .int (nI (rR sb N)), .int (nI (sbN sb N)), .int (nI (sm sb N - 1)), .ref (la + 1), .ref (la + 2), .null, .null]) C inlX1 tyX1 tyX1_ok nmX1 (RW_at0 rfl) rfl 5 (by decide) wF_X1_32 (fun _ h => h) rfl hname rfl (tyX1_ok 5 (by decide)) rfl rfl (Nat.le_of_ble_eq_true rfl) rfl dX1_init_81 ?_
          refine V.hp (σ2 := (RW σ la [(.inr (1, [.int (nI N), .int (nI (rR sb N)), .int (nI (sbN sb N)), .int (nI (sm sb N - 1)), .ref (la + 1), .ref (la + 2), .null, .null])), (aI G (fac N) (fun _ => 0)), (aI G ((fac N) * N) (fun _ => 0))])) (RW_set0 (Nat.le_of_ble_eq_true rfl) rfl) ?_
          refine r_aload_n C dX1_init_84 rfl 0 rfl ?_
          refine r_aload_n C dX1_init_85 rfl 0 rfl ?_
          refine r_get (Cn := RX1) (T := TX1) (N := 8) (v := .int (nI (rR sb N))) C inlX1 (RW_at0 rfl) rfl 1 (by decide) wF_X1_21 (fun _ h => h) rfl dX1_init_86 ?_
          refine r_iload_n C dX1_init_89 rfl 1 rfl ?_
          refine r_imulN C dX1_init_90 ?_
          refine r_callSN (As := [.int (nI ((rR sb N) * N))]) C (c_X6_newRow (len := (rR sb N) * N)  (by omega)) wZ_X1_24 wS_X6_newRow wN_X6 wC_X6_newRow hd_X6_newRow ⟨Nat.le_of_ble_eq_true rfl, Nat.le_of_ble_eq_true rfl⟩ rfl rfl (Nat.le_of_ble_eq_true rfl) dX1_init_91 ⟨(Nat.le_of_ble_eq_true rfl), (by show ((0 + (fac N)) + ((fac N) * N)) + ((rR sb N) * N) ≤ 28080; omega)⟩ (fun rv n2 σ2 hp => ?_)
          obtain ⟨rfl, rfl, rfl⟩ := hp
          refine V.eq (σ2 := (hU (RW σ la [(.inr (1, [.int (nI N), .int (nI (rR sb N)), .int (nI (sbN sb N)), .int (nI (sm sb N - 1)), .ref (la + 1), .ref (la + 2), .null, .null])), (aI G (fac N) (fun _ => 0)), (aI G ((fac N) * N) (fun _ => 0))]) (la + 3) (aI G ((rR sb N) * N) (fun _ => 0)))) (n2 := la + 4) (st2 := [.ref (la + 3), .ref la]) rfl rfl rfl rfl ?_
          refine V.hp (σ2 := (RW σ la [(.inr (1, [.int (nI N), .int (nI (rR sb N)), .int (nI (sbN sb N)), .int (nI (sm sb N - 1)), .ref (la + 1), .ref (la + 2), .null, .null])), (aI G (fac N) (fun _ => 0)), (aI G ((fac N) * N) (fun _ => 0)), (aI G ((rR sb N) * N) (fun _ => 0))])) (RW_snoc (m := 3) rfl rfl) ?_
          refine r_putF (Cn := RX1) (T := TX1) (N := 8) (fs2 := [.int (nI N), .int (nI (rR sb N)), .int (nI (sbN sb N)), .int (nI (sm sb N - 1)), .ref (la + 1), .ref (la + 2), .ref (la + 3), .null]) C inlX1 tyX1 tyX1_ok nmX1 (RW_at0 rfl) rfl 6 (by decide) wF_X1_35 (fun _ h => h) rfl hname rfl (tyX1_ok 6 (by decide)) rfl rfl (Nat.le_of_ble_eq_true rfl) rfl dX1_init_94 ?_
          refine V.hp (σ2 := (RW σ la [(.inr (1, [.int (nI N), .int (nI (rR sb N)), .int (nI (sbN sb N)), .int (nI (sm sb N - 1)), .ref (la + 1), .ref (la + 2), .ref (la + 3), .null])), (aI G (fac N) (fun _ => 0)), (aI G ((fac N) * N) (fun _ => 0)), (aI G ((rR sb N) * N) (fun _ => 0))])) (RW_set0 (Nat.le_of_ble_eq_true rfl) rfl) ?_
          refine r_aload_n C dX1_init_97 rfl 0 rfl ?_
          refine r_aload_n C dX1_init_98 rfl 0 rfl ?_
          refine r_get (Cn := RX1) (T := TX1) (N := 8) (v := .int (nI (rR sb N))) C inlX1 (RW_at0 rfl) rfl 1 (by decide) wF_X1_21 (fun _ h => h) rfl dX1_init_99 ?_
          refine r_callSN (As := [.int (nI (rR sb N))]) C (c_X6_newRow (len := rR sb N)  (by omega)) wZ_X1_24 wS_X6_newRow wN_X6 wC_X6_newRow hd_X6_newRow ⟨Nat.le_of_ble_eq_true rfl, Nat.le_of_ble_eq_true rfl⟩ rfl rfl (Nat.le_of_ble_eq_true rfl) dX1_init_102 ⟨(Nat.le_of_ble_eq_true rfl), (by show (((0 + (fac N)) + ((fac N) * N)) + ((rR sb N) * N)) + (rR sb N) ≤ 28080; omega)⟩ (fun rv n2 σ2 hp => ?_)
          obtain ⟨rfl, rfl, rfl⟩ := hp
          refine V.eq (σ2 := (hU (RW σ la [(.inr (1, [.int (nI N), .int (nI (rR sb N)), .int (nI (sbN sb N)), .int (nI (sm sb N - 1)), .ref (la + 1), .ref (la + 2), .ref (la + 3), .null])), (aI G (fac N) (fun _ => 0)), (aI G ((fac N) * N) (fun _ => 0)), (aI G ((rR sb N) * N) (fun _ => 0))]) (la + 4) (aI G (rR sb N) (fun _ => 0)))) (n2 := la + 5) (st2 := [.ref (la + 4), .ref la]) rfl rfl rfl rfl ?_
          refine V.hp (σ2 := (RW σ la [(.inr (1, [.int (nI N), .int (nI (rR sb N)), .int (nI (sbN sb N)), .int (nI (sm sb N - 1)), .ref (la + 1), .ref (la + 2), .ref (la + 3), .null])), (aI G (fac N) (fun _ => 0)), (aI G ((fac N) * N) (fun _ => 0)), (aI G ((rR sb N) * N) (fun _ => 0)), (aI G (rR sb N) (fun _ => 0))])) (RW_snoc (m := 4) rfl rfl) ?_
          refine r_putF (Cn := RX1) (T := TX1) (N := 8) (fs2 := [.int (nI N), .int (nI (rR sb N)), .int (nI (sbN sb N)), .int (nI (sm sb N - 1)), .ref (la + 1), .ref (la + 2), .ref (la + 3), .ref (la + 4)]) C inlX1 tyX1 tyX1_ok nmX1 (RW_at0 rfl) rfl 7 (by decide) wF_X1_38 (fun _ h => h) rfl hname rfl (tyX1_ok 7 (by decide)) rfl rfl (Nat.le_of_ble_eq_true rfl) rfl dX1_init_105 ?_
          refine V.hp (σ2 := (RW σ la [(.inr (1, [.int (nI N), .int (nI (rR sb N)), .int (nI (sbN sb N)), .int (nI (sm sb N - 1)), .ref (la + 1), .ref (la + 2), .ref (la + 3), .ref (la + 4)])), (aI G (fac N) (fun _ => 0)), (aI G ((fac N) * N) (fun _ => 0)), (aI G ((rR sb N) * N) (fun _ => 0)), (aI G (rR sb N) (fun _ => 0))])) (RW_set0 (Nat.le_of_ble_eq_true rfl) rfl) ?_
          refine r_aload_n C dX1_init_108 rfl 0 rfl ?_
          refine r_get (Cn := RX1) (T := TX1) (N := 8) (v := .ref (la + 1)) C inlX1 (RW_at0 rfl) rfl 4 (by decide) wF_X1_28 (fun _ h => h) rfl dX1_init_109 ?_
          refine r_iconst (v := nI 0) C dX1_init_112 (by decide) ?_
          refine r_iload_n C dX1_init_113 rfl 1 rfl ?_
          refine r_iconst (v := nI 0) C dX1_init_114 (by decide) ?_
          refine r_iconst (v := nI 0) C dX1_init_115 (by decide) ?_
          refine r_iconst (v := nI 0) C dX1_init_116 (by decide) ?_
          have L121 : ∀ (w1 : Nat → Int32), (∀ o, o < fac N → w1 o = nI (cd N o)) → V p l e rm_X1_init s m args below meth c G 6 (MQ below (gQ G po) args s rm_X1_init.cells rm_X1_init.slots (gF G)) 4 ((((0 + (fac N)) + ((fac N) * N)) + ((rR sb N) * N)) + (rR sb N)) (la + 5) (RW σ la [(.inr (1, [.int (nI N), .int (nI (rR sb N)), .int (nI (sbN sb N)), .int (nI (sm sb N - 1)), .ref (la + 1), .ref (la + 2), .ref (la + 3), .ref (la + 4)])), (aI G (fac N) w1), (aI G ((fac N) * N) (fun _ => 0)), (aI G ((rR sb N) * N) (fun _ => 0)), (aI G (rR sb N) (fun _ => 0))]) 121 [(0, .ref la), (1, .int (nI N)), (2, .int (bI sb)), (3, .int (nI (fac N))), (4, .int (nI (z + 2)))] [] := by
            intro w1 h1
            refine r_iconst (v := nI 0) C dX1_init_121 (by decide) ?_
            refine r_istore (lv2 := [(4, .int (nI 0)), (0, .ref la), (1, .int (nI N)), (2, .int (bI sb)), (3, .int (nI (fac N)))]) C dX1_init_122 (by decide) rfl ?_
            have L124 : ∀ (fu : Nat) (o : Nat) (w2 : Nat → Int32) (w3 : Nat → Int32), (o ≤ fac N) → (∀ o2, o2 < o → ∀ j, j < N → w2 (o2 * N + j) = nI (sz N o2 j)) → (∀ r, r < rk sb N o 0 → ∀ k, 1 ≤ k → k ≤ N → w3 (r * N + k - 1) = nI (nx sb N r k)) → (fac N + 1 - o) < fu → V p l e rm_X1_init s m args below meth c G 6 (MQ below (gQ G po) args s rm_X1_init.cells rm_X1_init.slots (gF G)) 4 ((((0 + (fac N)) + ((fac N) * N)) + ((rR sb N) * N)) + (rR sb N)) (la + 5) (RW σ la [(.inr (1, [.int (nI N), .int (nI (rR sb N)), .int (nI (sbN sb N)), .int (nI (sm sb N - 1)), .ref (la + 1), .ref (la + 2), .ref (la + 3), .ref (la + 4)])), (aI G (fac N) w1), (aI G (fac N * N) w2), (aI G (rR sb N * N) w3), (aI G (rR sb N) (fun _ => 0))]) 124 [(0, .ref la), (1, .int (nI N)), (2, .int (bI sb)), (3, .int (nI (fac N))), (4, .int (nI o))] [] := by
              intro fu
              induction fu with
              | zero => intro o w2 w3 ho hA hB hm; exact absurd hm (Nat.not_lt_zero _)
              | succ fu ih124 =>
                intro o w2 w3 ho hA hB hm124
                refine r_iload C dX1_init_124 4 rfl ?_
                refine r_aload_n C dX1_init_126 rfl 0 rfl ?_
                refine r_get (Cn := RX1) (T := TX1) (N := 8) (v := .ref (la + 1)) C inlX1 (RW_at0 rfl) rfl 4 (by decide) wF_X1_28 (fun _ h => h) rfl dX1_init_127 ?_
                refine r_alenI C (RW_at 1 rfl) dX1_init_130 ?_
                refine r_icmp_geN (tgt := 152) C dX1_init_131 (by decide) (by omega) (by omega) (fun c131 => ?_) (fun c131 => ?_)
                · have hoF : o = fac N := by omega
                  refine r_iconst (v := nI 0) C dX1_init_152 (by decide) ?_
                  refine r_istore (lv2 := [(4, .int (nI 0)), (0, .ref la), (1, .int (nI N)), (2, .int (bI sb)), (3, .int (nI (fac N)))]) C dX1_init_153 (by decide) rfl ?_
                  have L155 : ∀ (fu : Nat) (r : Nat) (w4 : Nat → Int32), (r ≤ rR sb N) → (∀ q, q < r → w4 q = nI (jw sb N q)) → (∀ q, r ≤ q → w4 q = 0) → (rR sb N + 1 - r) < fu → V p l e rm_X1_init s m args below meth c G 6 (MQ below (gQ G po) args s rm_X1_init.cells rm_X1_init.slots (gF G)) 4 ((((0 + (fac N)) + ((fac N) * N)) + ((rR sb N) * N)) + (rR sb N)) (la + 5) (RW σ la [(.inr (1, [.int (nI N), .int (nI (rR sb N)), .int (nI (sbN sb N)), .int (nI (sm sb N - 1)), .ref (la + 1), .ref (la + 2), .ref (la + 3), .ref (la + 4)])), (aI G (fac N) w1), (aI G (fac N * N) w2), (aI G (rR sb N * N) w3), (aI G (rR sb N) w4)]) 155 [(0, .ref la), (1, .int (nI N)), (2, .int (bI sb)), (3, .int (nI (fac N))), (4, .int (nI r))] [] := by
                    intro fu
                    induction fu with
                    | zero => intro r w4 hr9 hw4 hw0 hm; exact absurd hm (Nat.not_lt_zero _)
                    | succ fu ih155 =>
                      intro r w4 hr9 hw4 hw0 hm155
                      have h2 := sizes_all hoF hA
                      refine r_iload C dX1_init_155 4 rfl ?_
                      refine r_aload_n C dX1_init_157 rfl 0 rfl ?_
                      refine r_get (Cn := RX1) (T := TX1) (N := 8) (v := .ref (la + 4)) C inlX1 (RW_at0 rfl) rfl 7 (by decide) wF_X1_38 (fun _ h => h) rfl dX1_init_158 ?_
                      refine r_alenI C (RW_at 4 rfl) dX1_init_161 ?_
                      refine r_icmp_geN (tgt := 215) C dX1_init_162 (by decide) (by omega) (by omega) (fun c162 => ?_) (fun c162 => ?_)
                      · exact r_vret C hr hlocks (Nat.le_of_ble_eq_true rfl) (by show (((0 + (fac N)) + ((fac N) * N)) + ((rR sb N) * N)) + (rR sb N) ≤ 28080; omega) dX1_init_215 (hpo _ _ _ ⟨rfl, rfl, 0, w1, w2, w3, w4, rfl, h1, h2, fun r hr => hB r (by rw [hoF, rk_F0]; exact hr), fun q hq => hw4 q (by omega)⟩)
                      · have hrF : r < rR sb N := by omega
                        refine r_iconst (v := nI 0) C dX1_init_165 (by decide) ?_
                        refine r_istore (lv2 := [(5, .int (nI 0)), (0, .ref la), (1, .int (nI N)), (2, .int (bI sb)), (3, .int (nI (fac N))), (4, .int (nI r))]) C dX1_init_166 (by decide) rfl ?_
                        have L168 : ∀ (fu : Nat) (j : Nat) (v4 : Nat → Int32), (j ≤ N) → (∀ q, q ≠ r → v4 q = w4 q) → (v4 r = nI (bw (jn sb N (oR sb N r) (sR sb N r)) j)) → (N + 1 - j) < fu → V p l e rm_X1_init s m args below meth c G 6 (MQ below (gQ G po) args s rm_X1_init.cells rm_X1_init.slots (gF G)) 4 ((((0 + (fac N)) + ((fac N) * N)) + ((rR sb N) * N)) + (rR sb N)) (la + 5) (RW σ la [(.inr (1, [.int (nI N), .int (nI (rR sb N)), .int (nI (sbN sb N)), .int (nI (sm sb N - 1)), .ref (la + 1), .ref (la + 2), .ref (la + 3), .ref (la + 4)])), (aI G (fac N) w1), (aI G (fac N * N) w2), (aI G (rR sb N * N) w3), (aI G (rR sb N) v4)]) 168 [(0, .ref la), (1, .int (nI N)), (2, .int (bI sb)), (3, .int (nI (fac N))), (4, .int (nI r)), (5, .int (nI j))] [] := by
                          intro fu
                          induction fu with
                          | zero => intro j v4 hp hv4 hv4b hm; exact absurd hm (Nat.not_lt_zero _)
                          | succ fu ih168 =>
                            intro j v4 hp hv4 hv4b hm168
                            refine r_iload C dX1_init_168 5 rfl ?_
                            refine r_iload_n C dX1_init_170 rfl 1 rfl ?_
                            refine r_icmp_geN (tgt := 209) C dX1_init_171 (by decide) (by omega) (by omega) (fun c171 => ?_) (fun c171 => ?_)
                            · have hpN : j = N := by omega
                              refine r_iinc (v := nI (r + 1)) (lv2 := [(4, .int (nI (r + 1))), (0, .ref la), (1, .int (nI N)), (2, .int (bI sb)), (3, .int (nI (fac N))), (5, .int (nI j))]) C dX1_init_209 (k := 4) rfl (nI_add _ 1) (by decide) rfl ?_
                              refine r_goto (tgt := 155) C dX1_init_212 (by decide) ?_
                              refine V.sub (lv2 := [(0, .ref la), (1, .int (nI N)), (2, .int (bI sb)), (3, .int (nI (fac N))), (4, .int (nI (r + 1)))]) [1, 2, 3, 4, 0] rfl ?_
                              exact ih155 (r + 1) v4 (by omega) (fun q h => by rcases Nat.lt_or_eq_of_le (Nat.le_of_lt_succ h) with g | g; (rw [hv4 q (by omega)]; exact hw4 q g); (rw [g, hv4b, hpN]; rfl)) (fun q h => by rw [hv4 q (by omega)]; exact hw0 q (by omega)) (by omega)
                            · have hpN : j < N := by omega
                              refine r_aload_n C dX1_init_174 rfl 0 rfl ?_
                              refine r_get (Cn := RX1) (T := TX1) (N := 8) (v := .ref (la + 4)) C inlX1 (RW_at0 rfl) rfl 7 (by decide) wF_X1_38 (fun _ h => h) rfl dX1_init_175 ?_
                              refine r_iload C dX1_init_178 4 rfl ?_
                              refine r_dup2 C dX1_init_180 rfl rfl ?_
                              refine r_ialdN C (RW_at 4 rfl) (by omega) (by omega) dX1_init_181 ?_
                              refine V.top (y := nI (bw (jn sb N (oR sb N r) (sR sb N r)) j)) (hv4b) ?_
                              refine r_aload_n C dX1_init_182 rfl 0 rfl ?_
                              refine r_iload C dX1_init_183 4 rfl ?_
                              refine r_iload C dX1_init_185 5 rfl ?_
                              refine r_callV (As := [.int (nI r), .int (nI j)]) C (c_X1_findJoined (la := la) (N := N) (cfl := 0) (sb := sb) (f2 := w2) (r := r) (j := j) (RW_at0 rfl) (RW_at 2 rfl) (by first | assumption | omega) (h2) (hrF) (hpN)) wM_X1_52 wI_X1_findJoined wN_X1 wC_X1_findJoined wV_X1_findJoined hd_X1_findJoined ⟨Nat.le_of_ble_eq_true rfl, Nat.le_of_ble_eq_true rfl⟩ rfl (RW_at0 rfl) rfl rfl (Nat.le_of_ble_eq_true rfl) dX1_init_187 ⟨(Nat.le_of_ble_eq_true rfl), (by show (((0 + (fac N)) + ((fac N) * N)) + ((rR sb N) * N)) + (rR sb N) ≤ 28080; omega)⟩ (fun rv n2 σ2 hp => ?_)
                              obtain ⟨rfl, rfl, rfl⟩ := hp
                              refine V.eq (σ2 := (RW σ la [(.inr (1, [.int (nI N), .int (nI (rR sb N)), .int (nI (sbN sb N)), .int (nI (sm sb N - 1)), .ref (la + 1), .ref (la + 2), .ref (la + 3), .ref (la + 4)])), (aI G (fac N) w1), (aI G (fac N * N) w2), (aI G (rR sb N * N) w3), (aI G (rR sb N) v4)])) (n2 := la + 5) (st2 := [.int (bI (jn sb N (oR sb N r) (sR sb N r) j)), .int (nI (bw (jn sb N (oR sb N r) (sR sb N r)) j)), .int (nI r), .ref (la + 4)]) rfl rfl rfl rfl ?_
                              have L201 : ∀ (x9 : Nat), (x9 = if (jn sb N (oR sb N r) (sR sb N r)) j = true then 1 * 2 ^ j else 0) → V p l e rm_X1_init s m args below meth c G 6 (MQ below (gQ G po) args s rm_X1_init.cells rm_X1_init.slots (gF G)) 4 ((((0 + (fac N)) + ((fac N) * N)) + ((rR sb N) * N)) + (rR sb N)) (la + 5) (RW σ la [(.inr (1, [.int (nI N), .int (nI (rR sb N)), .int (nI (sbN sb N)), .int (nI (sm sb N - 1)), .ref (la + 1), .ref (la + 2), .ref (la + 3), .ref (la + 4)])), (aI G (fac N) w1), (aI G (fac N * N) w2), (aI G (rR sb N * N) w3), (aI G (rR sb N) v4)]) 201 [(0, .ref la), (1, .int (nI N)), (2, .int (bI sb)), (3, .int (nI (fac N))), (4, .int (nI r)), (5, .int (nI j))] [.int (nI x9), .int (nI (bw (jn sb N (oR sb N r) (sR sb N r)) j)), .int (nI r), .ref (la + 4)] := by
                                intro x9 hx9
                                refine r_iorN C dX1_init_201 ?_
                                refine r_iastN C (RW_at 4 rfl) (by omega) (by omega) dX1_init_202 ?_
                                refine V.hp (σ2 := (RW σ la [(.inr (1, [.int (nI N), .int (nI (rR sb N)), .int (nI (sbN sb N)), .int (nI (sm sb N - 1)), .ref (la + 1), .ref (la + 2), .ref (la + 3), .ref (la + 4)])), (aI G (fac N) w1), (aI G (fac N * N) w2), (aI G (rR sb N * N) w3), (aI G (rR sb N) (upd v4 r (nI ((bw (jn sb N (oR sb N r) (sR sb N r)) j) ||| x9))))])) (RW_set 4 (Nat.le_of_ble_eq_true rfl) rfl) ?_
                                refine r_iinc (v := nI (j + 1)) (lv2 := [(5, .int (nI (j + 1))), (0, .ref la), (1, .int (nI N)), (2, .int (bI sb)), (3, .int (nI (fac N))), (4, .int (nI r))]) C dX1_init_203 (k := 5) rfl (nI_add _ 1) (by decide) rfl ?_
                                refine r_goto (tgt := 168) C dX1_init_206 (by decide) ?_
                                refine V.sub (lv2 := [(0, .ref la), (1, .int (nI N)), (2, .int (bI sb)), (3, .int (nI (fac N))), (4, .int (nI r)), (5, .int (nI (j + 1)))]) [1, 2, 3, 4, 5, 0] rfl ?_
                                exact ih168 (j + 1) (upd v4 r (nI ((bw (jn sb N (oR sb N r) (sR sb N r)) j) ||| x9))) (by omega) (fun q h => by rw [pk_un h]; exact hv4 q h) (by rw [pk_us, hx9]; rfl) (by omega)
                              refine r_if_eqB (tgt := 200) C dX1_init_190 (by decide) (fun c190 => ?_) (fun c190 => ?_)
                              · refine r_iconst (v := nI 0) C dX1_init_200 (by decide) ?_
                                exact L201 0 (by first | (rw [if_pos c190]; done) | (rw [if_neg (by rw [c190]; decide)]))
                              · refine r_iconst (v := nI 1) C dX1_init_193 (by decide) ?_
                                refine r_iload C dX1_init_194 5 rfl ?_
                                refine r_ishlN C dX1_init_196 (by omega) ?_
                                refine r_goto (tgt := 201) C dX1_init_197 (by decide) ?_
                                exact L201 (1 * 2 ^ j) (by first | (rw [if_pos c190]; done) | (rw [if_neg (by rw [c190]; decide)]))
                        refine V.sub (lv2 := [(0, .ref la), (1, .int (nI N)), (2, .int (bI sb)), (3, .int (nI (fac N))), (4, .int (nI r)), (5, .int (nI 0))]) [1, 2, 3, 4, 5, 0] rfl ?_
                        exact L168 _ 0 w4 (by omega) (fun _ _ => rfl) (hw0 r (Nat.le_refl r)) (Nat.lt_succ_self _)
                  refine V.sub (lv2 := [(0, .ref la), (1, .int (nI N)), (2, .int (bI sb)), (3, .int (nI (fac N))), (4, .int (nI 0))]) [1, 2, 3, 4, 0] rfl ?_
                  exact L155 _ 0 (fun _ => 0) (by omega) (fun q h => absurd h (Nat.not_lt_zero q)) (fun _ _ => rfl) (Nat.lt_succ_self _)
                · have hoF : o < fac N := by omega
                  have hrk1 := rk_s0 sb N o
                  refine r_aload_n C dX1_init_134 rfl 0 rfl ?_
                  refine r_iload C dX1_init_135 4 rfl ?_
                  refine r_callV (As := [.int (nI o)]) C (c_X1_fillSizes (la := la) (N := N) (cfl := 0) (sb := sb) (f1 := w1) (f2 := w2) (f3 := w3) (f4 := (fun _ => 0)) (o := o) (RW_at0 rfl) (RW_at 1 rfl) (RW_at 2 rfl) (RW_at 3 rfl) (RW_at 4 rfl) (by first | assumption | omega) (h1) (hoF)) wM_X1_45 wI_X1_fillSizes wN_X1 wC_X1_fillSizes wV_X1_fillSizes hd_X1_fillSizes ⟨Nat.le_of_ble_eq_true rfl, Nat.le_of_ble_eq_true rfl⟩ rfl (RW_at0 rfl) rfl rfl (Nat.le_of_ble_eq_true rfl) dX1_init_137 ⟨(Nat.le_of_ble_eq_true rfl), (by show (((0 + (fac N)) + ((fac N) * N)) + ((rR sb N) * N)) + (rR sb N) ≤ 28080; omega)⟩ (fun rv n2 σ2 hp => ?_)
                  obtain ⟨rfl, rfl, n2, rfl, hn2, hm2⟩ := hp
                  refine V.eq (σ2 := (RW (RW σ la [(.inr (1, [.int (nI N), .int (nI (rR sb N)), .int (nI (sbN sb N)), .int (nI (sm sb N - 1)), .ref (la + 1), .ref (la + 2), .ref (la + 3), .ref (la + 4)])), (aI G (fac N) w1), (aI G (fac N * N) w2), (aI G (rR sb N * N) w3), (aI G (rR sb N) (fun _ => 0))]) la [(.inr (1, [.int (nI N), .int (nI (rR sb N)), .int (nI (sbN sb N)), .int (nI (sm sb N - 1)), .ref (la + 1), .ref (la + 2), .ref (la + 3), .ref (la + 4)])), (aI G (fac N) w1), (aI G (fac N * N) n2), (aI G (rR sb N * N) w3), (aI G (rR sb N) (fun _ => 0))])) (n2 := la + 5) (st2 := []) rfl rfl rfl rfl ?_
                  refine V.hp (σ2 := (RW σ la [(.inr (1, [.int (nI N), .int (nI (rR sb N)), .int (nI (sbN sb N)), .int (nI (sm sb N - 1)), .ref (la + 1), .ref (la + 2), .ref (la + 3), .ref (la + 4)])), (aI G (fac N) w1), (aI G (fac N * N) n2), (aI G (rR sb N * N) w3), (aI G (rR sb N) (fun _ => 0))])) (RW_in0 (m := 5) rfl (Nat.le_of_ble_eq_true rfl) rfl) ?_
                  refine r_aload_n C dX1_init_140 rfl 0 rfl ?_
                  refine r_iload C dX1_init_141 4 rfl ?_
                  refine r_callV (As := [.int (nI o)]) C (c_X1_fillTurned (la := la) (N := N) (cfl := 0) (sb := sb) (f1 := w1) (f2 := n2) (f3 := w3) (f4 := (fun _ => 0)) (o := o) (RW_at0 rfl) (RW_at 1 rfl) (RW_at 2 rfl) (RW_at 3 rfl) (RW_at 4 rfl) (by first | assumption | omega) (h1) (hn2) (hoF)) wM_X1_49 wI_X1_fillTurned wN_X1 wC_X1_fillTurned wV_X1_fillTurned hd_X1_fillTurned ⟨Nat.le_of_ble_eq_true rfl, Nat.le_of_ble_eq_true rfl⟩ rfl (RW_at0 rfl) rfl rfl (Nat.le_of_ble_eq_true rfl) dX1_init_143 ⟨(Nat.le_of_ble_eq_true rfl), (by show (((0 + (fac N)) + ((fac N) * N)) + ((rR sb N) * N)) + (rR sb N) ≤ 28080; omega)⟩ (fun rv n2 σ2 hp => ?_)
                  obtain ⟨rfl, rfl, n3, rfl, hn3, hm3⟩ := hp
                  refine V.eq (σ2 := (RW (RW σ la [(.inr (1, [.int (nI N), .int (nI (rR sb N)), .int (nI (sbN sb N)), .int (nI (sm sb N - 1)), .ref (la + 1), .ref (la + 2), .ref (la + 3), .ref (la + 4)])), (aI G (fac N) w1), (aI G (fac N * N) n2), (aI G (rR sb N * N) w3), (aI G (rR sb N) (fun _ => 0))]) la [(.inr (1, [.int (nI N), .int (nI (rR sb N)), .int (nI (sbN sb N)), .int (nI (sm sb N - 1)), .ref (la + 1), .ref (la + 2), .ref (la + 3), .ref (la + 4)])), (aI G (fac N) w1), (aI G (fac N * N) n2), (aI G (rR sb N * N) n3), (aI G (rR sb N) (fun _ => 0))])) (n2 := la + 5) (st2 := []) rfl rfl rfl rfl ?_
                  refine V.hp (σ2 := (RW σ la [(.inr (1, [.int (nI N), .int (nI (rR sb N)), .int (nI (sbN sb N)), .int (nI (sm sb N - 1)), .ref (la + 1), .ref (la + 2), .ref (la + 3), .ref (la + 4)])), (aI G (fac N) w1), (aI G (fac N * N) n2), (aI G (rR sb N * N) n3), (aI G (rR sb N) (fun _ => 0))])) (RW_in0 (m := 5) rfl (Nat.le_of_ble_eq_true rfl) rfl) ?_
                  refine r_iinc (v := nI (o + 1)) (lv2 := [(4, .int (nI (o + 1))), (0, .ref la), (1, .int (nI N)), (2, .int (bI sb)), (3, .int (nI (fac N)))]) C dX1_init_146 (k := 4) rfl (nI_add _ 1) (by decide) rfl ?_
                  refine r_goto (tgt := 124) C dX1_init_149 (by decide) ?_
                  refine V.sub (lv2 := [(0, .ref la), (1, .int (nI N)), (2, .int (bI sb)), (3, .int (nI (fac N))), (4, .int (nI (o + 1)))]) [1, 2, 3, 4, 0] rfl ?_
                  exact ih124 (o + 1) n2 n3 (by omega) (fun o2 h j hj => by rcases Nat.lt_or_eq_of_le (Nat.le_of_lt_succ h) with g | g; (rw [hm2 _ (ix_lt g hj)]; exact hA o2 g j hj); (rw [g]; exact hn2 j hj)) (turned_s hrk1 hB hm3 hn3) (by omega)
            refine V.sub (lv2 := [(0, .ref la), (1, .int (nI N)), (2, .int (bI sb)), (3, .int (nI (fac N))), (4, .int (nI 0))]) [1, 2, 3, 4, 0] rfl ?_
            refine V.eq (σ2 := (RW σ la [(.inr (1, [.int (nI N), .int (nI (rR sb N)), .int (nI (sbN sb N)), .int (nI (sm sb N - 1)), .ref (la + 1), .ref (la + 2), .ref (la + 3), .ref (la + 4)])), (aI G (fac N) w1), (aI G (fac N * N) (fun _ => 0)), (aI G (rR sb N * N) (fun _ => 0)), (aI G (rR sb N) (fun _ => 0))])) (lv2 := [(0, .ref la), (1, .int (nI N)), (2, .int (bI sb)), (3, .int (nI (fac N))), (4, .int (nI 0))]) (st2 := []) rfl rfl rfl rfl ?_
            exact L124 _ 0 (fun _ => 0) (fun _ => 0) (by omega) (fun _ h => absurd h (Nat.not_lt_zero _)) (fun r h => absurd h (by rw [rk_00]; exact Nat.not_lt_zero r)) (Nat.lt_succ_self _)
          rcases (show N = 1 ∨ N = 2 ∨ N = 3 ∨ N = 4 ∨ N = 5 ∨ N = 6 by have := hL.2.1; omega) with hN9 | hN9 | hN9 | hN9 | hN9 | hN9
          · have hfk : fac 1 = fac N := by rw [hN9]
            refine r_callS (As := [.ref (la + 1), .int (nI 0), .int (nI N), .int (nI 0), .int (nI 0), .int (nI 0)]) C (c_X1_fillCodes_1 (pa := la + 1) (N := N) (sb := sb) (f1 := (fun _ => 0)) (a := 0) (d := 0) (RW_at 1 rfl) (by first | assumption | omega) (by omega) (by omega) (rfl)) wM_X1_41 wS_X1_fillCodes wN_X1 wC_X1_fillCodes hd_X1_fillCodes ⟨Nat.le_of_ble_eq_true rfl, Nat.le_of_ble_eq_true rfl⟩ rfl rfl (Nat.le_of_ble_eq_true rfl) dX1_init_117 ⟨(Nat.le_of_ble_eq_true rfl), (by show (((0 + (fac N)) + ((fac N) * N)) + ((rR sb N) * N)) + (rR sb N) ≤ 28080; omega)⟩ (fun rv n2 σ2 hp => ?_)
            obtain ⟨rfl, rfl, n1, rfl, hn1, hn0⟩ := hp
            refine V.eq (σ2 := (RW (RW σ la [(.inr (1, [.int (nI N), .int (nI (rR sb N)), .int (nI (sbN sb N)), .int (nI (sm sb N - 1)), .ref (la + 1), .ref (la + 2), .ref (la + 3), .ref (la + 4)])), (aI G (fac N) (fun _ => 0)), (aI G ((fac N) * N) (fun _ => 0)), (aI G ((rR sb N) * N) (fun _ => 0)), (aI G (rR sb N) (fun _ => 0))]) (la + 1) [(aI G (fac N) n1)])) (n2 := la + 5) (st2 := [.int (nI (0 + fac 1))]) rfl rfl rfl rfl ?_
            refine V.hp (σ2 := (RW σ la [(.inr (1, [.int (nI N), .int (nI (rR sb N)), .int (nI (sbN sb N)), .int (nI (sm sb N - 1)), .ref (la + 1), .ref (la + 2), .ref (la + 3), .ref (la + 4)])), (aI G (fac N) n1), (aI G ((fac N) * N) (fun _ => 0)), (aI G ((rR sb N) * N) (fun _ => 0)), (aI G (rR sb N) (fun _ => 0))])) (RW_in 1 (m := 1) rfl (Nat.le_of_ble_eq_true rfl) rfl) ?_
            refine r_pop C dX1_init_120 rfl ?_
            exact L121 n1 (fun o ho => hn1 o (Nat.zero_le o) (by omega))
          · have hfk : fac 2 = fac N := by rw [hN9]
            refine r_callS (As := [.ref (la + 1), .int (nI 0), .int (nI N), .int (nI 0), .int (nI 0), .int (nI 0)]) C (c_X1_fillCodes_2 (pa := la + 1) (N := N) (sb := sb) (f1 := (fun _ => 0)) (a := 0) (d := 0) (RW_at 1 rfl) (by first | assumption | omega) (by omega) (by omega) (rfl)) wM_X1_41 wS_X1_fillCodes wN_X1 wC_X1_fillCodes hd_X1_fillCodes ⟨Nat.le_of_ble_eq_true rfl, Nat.le_of_ble_eq_true rfl⟩ rfl rfl (Nat.le_of_ble_eq_true rfl) dX1_init_117 ⟨(Nat.le_of_ble_eq_true rfl), (by show (((0 + (fac N)) + ((fac N) * N)) + ((rR sb N) * N)) + (rR sb N) ≤ 28080; omega)⟩ (fun rv n2 σ2 hp => ?_)
            obtain ⟨rfl, rfl, n1, rfl, hn1, hn0⟩ := hp
            refine V.eq (σ2 := (RW (RW σ la [(.inr (1, [.int (nI N), .int (nI (rR sb N)), .int (nI (sbN sb N)), .int (nI (sm sb N - 1)), .ref (la + 1), .ref (la + 2), .ref (la + 3), .ref (la + 4)])), (aI G (fac N) (fun _ => 0)), (aI G ((fac N) * N) (fun _ => 0)), (aI G ((rR sb N) * N) (fun _ => 0)), (aI G (rR sb N) (fun _ => 0))]) (la + 1) [(aI G (fac N) n1)])) (n2 := la + 5) (st2 := [.int (nI (0 + fac 2))]) rfl rfl rfl rfl ?_
            refine V.hp (σ2 := (RW σ la [(.inr (1, [.int (nI N), .int (nI (rR sb N)), .int (nI (sbN sb N)), .int (nI (sm sb N - 1)), .ref (la + 1), .ref (la + 2), .ref (la + 3), .ref (la + 4)])), (aI G (fac N) n1), (aI G ((fac N) * N) (fun _ => 0)), (aI G ((rR sb N) * N) (fun _ => 0)), (aI G (rR sb N) (fun _ => 0))])) (RW_in 1 (m := 1) rfl (Nat.le_of_ble_eq_true rfl) rfl) ?_
            refine r_pop C dX1_init_120 rfl ?_
            exact L121 n1 (fun o ho => hn1 o (Nat.zero_le o) (by omega))
          · have hfk : fac 3 = fac N := by rw [hN9]
            refine r_callS (As := [.ref (la + 1), .int (nI 0), .int (nI N), .int (nI 0), .int (nI 0), .int (nI 0)]) C (c_X1_fillCodes_3 (pa := la + 1) (N := N) (sb := sb) (f1 := (fun _ => 0)) (a := 0) (d := 0) (RW_at 1 rfl) (by first | assumption | omega) (by omega) (by omega) (rfl)) wM_X1_41 wS_X1_fillCodes wN_X1 wC_X1_fillCodes hd_X1_fillCodes ⟨Nat.le_of_ble_eq_true rfl, Nat.le_of_ble_eq_true rfl⟩ rfl rfl (Nat.le_of_ble_eq_true rfl) dX1_init_117 ⟨(Nat.le_of_ble_eq_true rfl), (by show (((0 + (fac N)) + ((fac N) * N)) + ((rR sb N) * N)) + (rR sb N) ≤ 28080; omega)⟩ (fun rv n2 σ2 hp => ?_)
            obtain ⟨rfl, rfl, n1, rfl, hn1, hn0⟩ := hp
            refine V.eq (σ2 := (RW (RW σ la [(.inr (1, [.int (nI N), .int (nI (rR sb N)), .int (nI (sbN sb N)), .int (nI (sm sb N - 1)), .ref (la + 1), .ref (la + 2), .ref (la + 3), .ref (la + 4)])), (aI G (fac N) (fun _ => 0)), (aI G ((fac N) * N) (fun _ => 0)), (aI G ((rR sb N) * N) (fun _ => 0)), (aI G (rR sb N) (fun _ => 0))]) (la + 1) [(aI G (fac N) n1)])) (n2 := la + 5) (st2 := [.int (nI (0 + fac 3))]) rfl rfl rfl rfl ?_
            refine V.hp (σ2 := (RW σ la [(.inr (1, [.int (nI N), .int (nI (rR sb N)), .int (nI (sbN sb N)), .int (nI (sm sb N - 1)), .ref (la + 1), .ref (la + 2), .ref (la + 3), .ref (la + 4)])), (aI G (fac N) n1), (aI G ((fac N) * N) (fun _ => 0)), (aI G ((rR sb N) * N) (fun _ => 0)), (aI G (rR sb N) (fun _ => 0))])) (RW_in 1 (m := 1) rfl (Nat.le_of_ble_eq_true rfl) rfl) ?_
            refine r_pop C dX1_init_120 rfl ?_
            exact L121 n1 (fun o ho => hn1 o (Nat.zero_le o) (by omega))
          · have hfk : fac 4 = fac N := by rw [hN9]
            refine r_callS (As := [.ref (la + 1), .int (nI 0), .int (nI N), .int (nI 0), .int (nI 0), .int (nI 0)]) C (c_X1_fillCodes_4 (pa := la + 1) (N := N) (sb := sb) (f1 := (fun _ => 0)) (a := 0) (d := 0) (RW_at 1 rfl) (by first | assumption | omega) (by omega) (by omega) (rfl)) wM_X1_41 wS_X1_fillCodes wN_X1 wC_X1_fillCodes hd_X1_fillCodes ⟨Nat.le_of_ble_eq_true rfl, Nat.le_of_ble_eq_true rfl⟩ rfl rfl (Nat.le_of_ble_eq_true rfl) dX1_init_117 ⟨(Nat.le_of_ble_eq_true rfl), (by show (((0 + (fac N)) + ((fac N) * N)) + ((rR sb N) * N)) + (rR sb N) ≤ 28080; omega)⟩ (fun rv n2 σ2 hp => ?_)
            obtain ⟨rfl, rfl, n1, rfl, hn1, hn0⟩ := hp
            refine V.eq (σ2 := (RW (RW σ la [(.inr (1, [.int (nI N), .int (nI (rR sb N)), .int (nI (sbN sb N)), .int (nI (sm sb N - 1)), .ref (la + 1), .ref (la + 2), .ref (la + 3), .ref (la + 4)])), (aI G (fac N) (fun _ => 0)), (aI G ((fac N) * N) (fun _ => 0)), (aI G ((rR sb N) * N) (fun _ => 0)), (aI G (rR sb N) (fun _ => 0))]) (la + 1) [(aI G (fac N) n1)])) (n2 := la + 5) (st2 := [.int (nI (0 + fac 4))]) rfl rfl rfl rfl ?_
            refine V.hp (σ2 := (RW σ la [(.inr (1, [.int (nI N), .int (nI (rR sb N)), .int (nI (sbN sb N)), .int (nI (sm sb N - 1)), .ref (la + 1), .ref (la + 2), .ref (la + 3), .ref (la + 4)])), (aI G (fac N) n1), (aI G ((fac N) * N) (fun _ => 0)), (aI G ((rR sb N) * N) (fun _ => 0)), (aI G (rR sb N) (fun _ => 0))])) (RW_in 1 (m := 1) rfl (Nat.le_of_ble_eq_true rfl) rfl) ?_
            refine r_pop C dX1_init_120 rfl ?_
            exact L121 n1 (fun o ho => hn1 o (Nat.zero_le o) (by omega))
          · have hfk : fac 5 = fac N := by rw [hN9]
            refine r_callS (As := [.ref (la + 1), .int (nI 0), .int (nI N), .int (nI 0), .int (nI 0), .int (nI 0)]) C (c_X1_fillCodes_5 (pa := la + 1) (N := N) (sb := sb) (f1 := (fun _ => 0)) (a := 0) (d := 0) (RW_at 1 rfl) (by first | assumption | omega) (by omega) (by omega) (rfl)) wM_X1_41 wS_X1_fillCodes wN_X1 wC_X1_fillCodes hd_X1_fillCodes ⟨Nat.le_of_ble_eq_true rfl, Nat.le_of_ble_eq_true rfl⟩ rfl rfl (Nat.le_of_ble_eq_true rfl) dX1_init_117 ⟨(Nat.le_of_ble_eq_true rfl), (by show (((0 + (fac N)) + ((fac N) * N)) + ((rR sb N) * N)) + (rR sb N) ≤ 28080; omega)⟩ (fun rv n2 σ2 hp => ?_)
            obtain ⟨rfl, rfl, n1, rfl, hn1, hn0⟩ := hp
            refine V.eq (σ2 := (RW (RW σ la [(.inr (1, [.int (nI N), .int (nI (rR sb N)), .int (nI (sbN sb N)), .int (nI (sm sb N - 1)), .ref (la + 1), .ref (la + 2), .ref (la + 3), .ref (la + 4)])), (aI G (fac N) (fun _ => 0)), (aI G ((fac N) * N) (fun _ => 0)), (aI G ((rR sb N) * N) (fun _ => 0)), (aI G (rR sb N) (fun _ => 0))]) (la + 1) [(aI G (fac N) n1)])) (n2 := la + 5) (st2 := [.int (nI (0 + fac 5))]) rfl rfl rfl rfl ?_
            refine V.hp (σ2 := (RW σ la [(.inr (1, [.int (nI N), .int (nI (rR sb N)), .int (nI (sbN sb N)), .int (nI (sm sb N - 1)), .ref (la + 1), .ref (la + 2), .ref (la + 3), .ref (la + 4)])), (aI G (fac N) n1), (aI G ((fac N) * N) (fun _ => 0)), (aI G ((rR sb N) * N) (fun _ => 0)), (aI G (rR sb N) (fun _ => 0))])) (RW_in 1 (m := 1) rfl (Nat.le_of_ble_eq_true rfl) rfl) ?_
            refine r_pop C dX1_init_120 rfl ?_
            exact L121 n1 (fun o ho => hn1 o (Nat.zero_le o) (by omega))
          · have hfk : fac 6 = fac N := by rw [hN9]
            refine r_callS (As := [.ref (la + 1), .int (nI 0), .int (nI N), .int (nI 0), .int (nI 0), .int (nI 0)]) C (c_X1_fillCodes_6 (pa := la + 1) (N := N) (sb := sb) (f1 := (fun _ => 0)) (a := 0) (d := 0) (RW_at 1 rfl) (by first | assumption | omega) (by omega) (by omega) (rfl)) wM_X1_41 wS_X1_fillCodes wN_X1 wC_X1_fillCodes hd_X1_fillCodes ⟨Nat.le_of_ble_eq_true rfl, Nat.le_of_ble_eq_true rfl⟩ rfl rfl (Nat.le_of_ble_eq_true rfl) dX1_init_117 ⟨(Nat.le_of_ble_eq_true rfl), (by show (((0 + (fac N)) + ((fac N) * N)) + ((rR sb N) * N)) + (rR sb N) ≤ 28080; omega)⟩ (fun rv n2 σ2 hp => ?_)
            obtain ⟨rfl, rfl, n1, rfl, hn1, hn0⟩ := hp
            refine V.eq (σ2 := (RW (RW σ la [(.inr (1, [.int (nI N), .int (nI (rR sb N)), .int (nI (sbN sb N)), .int (nI (sm sb N - 1)), .ref (la + 1), .ref (la + 2), .ref (la + 3), .ref (la + 4)])), (aI G (fac N) (fun _ => 0)), (aI G ((fac N) * N) (fun _ => 0)), (aI G ((rR sb N) * N) (fun _ => 0)), (aI G (rR sb N) (fun _ => 0))]) (la + 1) [(aI G (fac N) n1)])) (n2 := la + 5) (st2 := [.int (nI (0 + fac 6))]) rfl rfl rfl rfl ?_
            refine V.hp (σ2 := (RW σ la [(.inr (1, [.int (nI N), .int (nI (rR sb N)), .int (nI (sbN sb N)), .int (nI (sm sb N - 1)), .ref (la + 1), .ref (la + 2), .ref (la + 3), .ref (la + 4)])), (aI G (fac N) n1), (aI G ((fac N) * N) (fun _ => 0)), (aI G ((rR sb N) * N) (fun _ => 0)), (aI G (rR sb N) (fun _ => 0))])) (RW_in 1 (m := 1) rfl (Nat.le_of_ble_eq_true rfl) rfl) ?_
            refine r_pop C dX1_init_120 rfl ?_
            exact L121 n1 (fun o ho => hn1 o (Nat.zero_le o) (by omega))
        · refine r_iload_n C dX1_init_45 rfl 3 rfl ?_
          refine r_iload C dX1_init_46 4 rfl ?_
          refine r_imulN C dX1_init_48 ?_
          refine r_istore_n (lv2 := [(3, .int (nI ((fac (z + 1)) * (z + 2)))), (0, .ref la), (1, .int (nI N)), (2, .int (bI sb)), (4, .int (nI (z + 2)))]) C dX1_init_49 rfl (by decide) rfl ?_
          refine r_iinc (v := nI (z + 3)) (lv2 := [(4, .int (nI (z + 3))), (3, .int (nI ((fac (z + 1)) * (z + 2)))), (0, .ref la), (1, .int (nI N)), (2, .int (bI sb))]) C dX1_init_50 (k := 4) rfl (nI_add _ 1) (by decide) rfl ?_
          refine r_goto (tgt := 39) C dX1_init_53 (by decide) ?_
          refine V.sub (lv2 := [(0, .ref la), (1, .int (nI N)), (2, .int (bI sb)), (3, .int (nI ((fac (z + 1)) * (z + 2)))), (4, .int (nI (z + 3)))]) [2, 3, 4, 1, 0] rfl ?_
          refine V.eq (σ2 := (RW σ la [(.inr (1, [.int (nI N), .int (nI 0), .int (nI (sbN sb N)), .int (nI (sm sb N - 1)), .null, .null, .null, .null]))])) (lv2 := [(0, .ref la), (1, .int (nI N)), (2, .int (bI sb)), (3, .int (nI (fac ((z + 1) + 1)))), (4, .int (nI ((z + 1) + 2)))]) (st2 := []) rfl rfl (by rw [(show nI ((fac (z + 1)) * (z + 2)) = nI (fac ((z + 1) + 1)) from congrArg nI (Nat.mul_comm _ _)), (show nI (z + 3) = nI ((z + 1) + 2) from rfl)]) rfl ?_
          exact ih39 (z + 1) (by omega) (by omega)
    refine V.sub (lv2 := [(0, .ref la), (1, .int (nI N)), (2, .int (bI sb)), (3, .int (nI 1)), (4, .int (nI 2))]) [2, 3, 4, 1, 0] rfl ?_
    refine V.eq (σ2 := (RW σ la [(.inr (1, [.int (nI N), .int (nI 0), .int (nI (sbN sb N)), .int (nI (sm sb N - 1)), .null, .null, .null, .null]))])) (lv2 := [(0, .ref la), (1, .int (nI N)), (2, .int (bI sb)), (3, .int (nI (fac (0 + 1)))), (4, .int (nI (0 + 2)))]) (st2 := []) rfl rfl rfl rfl ?_
    exact L39 _ 0 (by omega) (Nat.lt_succ_self _)
  refine r_if_eqB (tgt := 18) C dX1_init_11 (by decide) (fun c11 => ?_) (fun c11 => ?_)
  · refine r_iconst (v := nI 0) C dX1_init_18 (by decide) ?_
    refine V.eq (σ2 := (RW σ la [(.inr (1, [.int (nI N), .int (nI 0), .int (nI 0), .int (nI 0), .null, .null, .null, .null]))])) (lv2 := [(0, .ref la), (1, .int (nI N)), (2, .int (bI sb))]) (st2 := [.int (nI (sbN sb N)), .ref la]) rfl rfl rfl (by rw [(show nI 0 = nI (sbN sb N) from by rw [c11]; rfl)]) ?_
    exact L19  
  · refine r_iload_n C dX1_init_14 rfl 1 rfl ?_
    refine r_goto (tgt := 19) C dX1_init_15 (by decide) ?_
    refine V.eq (σ2 := (RW σ la [(.inr (1, [.int (nI N), .int (nI 0), .int (nI 0), .int (nI 0), .null, .null, .null, .null]))])) (lv2 := [(0, .ref la), (1, .int (nI N)), (2, .int (bI sb))]) (st2 := [.int (nI (sbN sb N)), .ref la]) rfl rfl rfl (by rw [(show nI N = nI (sbN sb N) from by rw [c11]; rfl)]) ?_
    exact L19  
