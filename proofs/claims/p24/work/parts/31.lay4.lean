theorem ix_ne {N r r2 k k2 : Nat} (h1 : 1 ≤ k) (h2 : k ≤ N) (h3 : 1 ≤ k2) (h4 : k2 ≤ N) (h : r * N + k - 1 = r2 * N + k2 - 1) : r = r2 ∧ k = k2 := by
  have e : r * N + (k - 1) = r2 * N + (k2 - 1) := by omega
  have a1 : (r * N + (k - 1)) / N = r := by rw [Nat.mul_comm, Nat.mul_add_div (by omega), Nat.div_eq_of_lt (by omega), Nat.add_zero]
  have a2 : (r2 * N + (k2 - 1)) / N = r2 := by rw [Nat.mul_comm, Nat.mul_add_div (by omega), Nat.div_eq_of_lt (by omega), Nat.add_zero]
  rw [e, a2] at a1
  subst a1
  omega
theorem rk_0s {sb : Bool} {N sd : Nat} (o : Nat) (h : sd < sm sb N) : rk sb N o sd = rk sb N o 0 + sd := by
  cases sb with
  | false =>
    simp [sm] at h
    simp [rk, h]
  | true => simp [rk]
theorem rk_injs {sb : Bool} {N o a b : Nat} (h : a < sm sb N) (h2 : b < sm sb N) (e : rk sb N o a = rk sb N o b) : a = b := by
  rw [rk_0s o h, rk_0s o h2] at e
  omega
theorem rk_mono0 {sb : Bool} {sd : Nat} (N o : Nat) (h : sd < sm sb N) : rk sb N o 0 * N ≤ rk sb N o sd * N := by
  rw [rk_0s o h]
  exact Nat.mul_le_mul_right _ (Nat.le_add_right _ _)

abbrev rm_X1_fillTurned : Room := { frames := 2, cells := 0, slots := 0, locals := 47 }
set_option maxRecDepth 100000 in
set_option maxHeartbeats 4000000 in
theorem c_X1_fillTurned {l : Launch} {G : gG} {n : Nat} {σ : gS} {la N cfl : Nat} {sb : Bool} {f1 : Nat → Int32} {f2 : Nat → Int32} {f3 : Nat → Int32} {f4 : Nat → Int32} {o : Nat} (hc0 : σ la = some (.inr (1, [.int (nI N), .int (nI (rR sb N)), .int (nI (sbN sb N)), .int (nI (sm sb N - 1)), .ref (la + 1), .ref (la + 2), .ref (la + 3), .ref (la + 4)]))) (hc1 : σ (la + 1) = some (aI G (fac N) f1)) (hc2 : σ (la + 2) = some (aI G (fac N * N) f2)) (hc3 : σ (la + 3) = some (aI G (rR sb N * N) f3)) (hc4 : σ (la + 4) = some (aI G (rR sb N) f4)) (hL : LOK sb N) (h1 : ∀ o, o < fac N → f1 o = nI (cd N o)) (h2 : ∀ j, j < N → f2 (o * N + j) = nI (sz N o j)) (ho : o < fac N) : GM l G yX1_fillTurned cX1_fillTurned 6 none rm_X1_fillTurned n σ [.ref la, .int (nI o)] (fun rv n2 σ2 => (none : Option Value) = rv ∧ n = n2 ∧ ∃ (g3 : Nat → Int32), (RW σ la [(.inr (1, [.int (nI N), .int (nI (rR sb N)), .int (nI (sbN sb N)), .int (nI (sm sb N - 1)), .ref (la + 1), .ref (la + 2), .ref (la + 3), .ref (la + 4)])), (aI G (fac N) f1), (aI G (fac N * N) f2), (aI G (rR sb N * N) g3), (aI G (rR sb N) f4)]) = σ2 ∧ (∀ sd, sd < sm sb N → ∀ k, 1 ≤ k → k ≤ N → g3 (rk sb N o sd * N + k - 1) = nI (nx sb N (rk sb N o sd) k)) ∧ (∀ q, q < rk sb N o 0 * N → g3 q = f3 q)) := by
  refine GM.intro (by decide +kernel) (Nat.le_of_ble_eq_true rfl) (fun p e s m args below meth c C hr hlocks hname po hpo => ?_)
  have C : Cx p s m args c cX1_fillTurned 6 RX1 G := C
  have hb9 := hL.b
  refine V.hp (σ2 := (RW σ la [(.inr (1, [.int (nI N), .int (nI (rR sb N)), .int (nI (sbN sb N)), .int (nI (sm sb N - 1)), .ref (la + 1), .ref (la + 2), .ref (la + 3), .ref (la + 4)])), (aI G (fac N) f1), (aI G (fac N * N) f2), (aI G (rR sb N * N) f3), (aI G (rR sb N) f4)])) (RW_cons hc0 (RW_cons hc1 (RW_cons hc2 (RW_cons hc3 (RW_cons hc4 (RW_nil _ _)))))).symm ?_
  refine r_iconst (v := nI 1) C dX1_fillTurned_0 (by decide) ?_
  refine r_istore_n (lv2 := [(2, .int (nI 1)), (0, .ref la), (1, .int (nI o))]) C dX1_fillTurned_1 rfl (by decide) rfl ?_
  have L2 : ∀ (fu : Nat) (K : Nat) (w3 : Nat → Int32), (1 ≤ K) → (K ≤ N + 1) → (∀ sd, sd < sm sb N → ∀ k, 1 ≤ k → k < K → w3 (rk sb N o sd * N + k - 1) = nI (nx sb N (rk sb N o sd) k)) → (∀ q, q < rk sb N o 0 * N → w3 q = f3 q) → (N + 2 - K) < fu → V p l e rm_X1_fillTurned s m args below meth c G 6 (MQ below (gQ G po) args s rm_X1_fillTurned.cells rm_X1_fillTurned.slots (gF G)) 0 0 n (RW σ la [(.inr (1, [.int (nI N), .int (nI (rR sb N)), .int (nI (sbN sb N)), .int (nI (sm sb N - 1)), .ref (la + 1), .ref (la + 2), .ref (la + 3), .ref (la + 4)])), (aI G (fac N) f1), (aI G (fac N * N) f2), (aI G (rR sb N * N) w3), (aI G (rR sb N) f4)]) 2 [(0, .ref la), (1, .int (nI o)), (2, .int (nI K))] [] := by
    intro fu
    induction fu with
    | zero => intro K w3 hK1 hK hA hC hm; exact absurd hm (Nat.not_lt_zero _)
    | succ fu ih2 =>
      intro K w3 hK1 hK hA hC hm2
      refine r_iload_n C dX1_fillTurned_2 rfl 2 rfl ?_
      refine r_aload_n C dX1_fillTurned_3 rfl 0 rfl ?_
      refine r_get (Cn := RX1) (T := TX1) (N := 8) (v := .int (nI N)) C inlX1 (RW_at0 rfl) rfl 0 (by decide) wF_X1_9 (fun _ h => h) rfl dX1_fillTurned_4 ?_
      refine r_icmp_gtN (tgt := 88) C dX1_fillTurned_7 (by decide) (by omega) (by omega) (fun c7 => ?_) (fun c7 => ?_)
      · exact r_vret C hr hlocks (Nat.le_of_ble_eq_true rfl) (Nat.le_of_ble_eq_true rfl) dX1_fillTurned_88 (hpo _ _ _ ⟨rfl, rfl, w3, rfl, fun sd hs k hk1 hk2 => hA sd hs k hk1 (by omega), hC⟩)
      · have hKN : K ≤ N := by omega
        have htl := tnO_lt hL.2.1 ho hKN
        refine r_aload_n C dX1_fillTurned_10 rfl 0 rfl ?_
        refine r_aload_n C dX1_fillTurned_11 rfl 0 rfl ?_
        refine r_iload_n C dX1_fillTurned_12 rfl 1 rfl ?_
        refine r_iload_n C dX1_fillTurned_13 rfl 2 rfl ?_
        refine r_callV (As := [.int (nI o), .int (nI K)]) C (c_X1_codeBehind (la := la) (N := N) (cfl := cfl) (sb := sb) (f2 := f2) (o := o) (k := K) (RW_at0 rfl) (RW_at 2 rfl) (by first | assumption | omega) (by first | assumption | omega) (by first | assumption | omega) (by first | assumption | omega) (hKN)) wM_X1_64 wI_X1_codeBehind wN_X1 wC_X1_codeBehind wV_X1_codeBehind hd_X1_codeBehind ⟨Nat.le_of_ble_eq_true rfl, Nat.le_of_ble_eq_true rfl⟩ rfl (RW_at0 rfl) rfl rfl (Nat.le_of_ble_eq_true rfl) dX1_fillTurned_14 ⟨(Nat.le_of_ble_eq_true rfl), (Nat.le_of_ble_eq_true rfl)⟩ (fun rv n2 σ2 hp => ?_)
        obtain ⟨rfl, rfl, rfl⟩ := hp
        refine V.eq (σ2 := (RW σ la [(.inr (1, [.int (nI N), .int (nI (rR sb N)), .int (nI (sbN sb N)), .int (nI (sm sb N - 1)), .ref (la + 1), .ref (la + 2), .ref (la + 3), .ref (la + 4)])), (aI G (fac N) f1), (aI G (fac N * N) f2), (aI G (rR sb N * N) w3), (aI G (rR sb N) f4)])) (n2 := n) (st2 := [.int (nI (cd N (tnO N o K))), .ref la]) rfl rfl rfl rfl ?_
        refine r_callV (As := [.int (nI (cd N (tnO N o K)))]) C (c_X1_orderOf_y (la := la) (N := N) (cfl := cfl) (sb := sb) (f1 := f1) (o := tnO N o K) (x := nI (cd N (tnO N o K))) (RW_at0 rfl) (RW_at 1 rfl) (by first | assumption | omega) (by first | assumption | omega) (htl) (rfl)) wM_X1_68 wI_X1_orderOf wN_X1 wC_X1_orderOf wV_X1_orderOf hd_X1_orderOf ⟨Nat.le_of_ble_eq_true rfl, Nat.le_of_ble_eq_true rfl⟩ rfl (RW_at0 rfl) rfl rfl (Nat.le_of_ble_eq_true rfl) dX1_fillTurned_17 ⟨(Nat.le_of_ble_eq_true rfl), (Nat.le_of_ble_eq_true rfl)⟩ (fun rv n2 σ2 hp => ?_)
        obtain ⟨rfl, rfl, rfl⟩ := hp
        refine V.eq (σ2 := (RW σ la [(.inr (1, [.int (nI N), .int (nI (rR sb N)), .int (nI (sbN sb N)), .int (nI (sm sb N - 1)), .ref (la + 1), .ref (la + 2), .ref (la + 3), .ref (la + 4)])), (aI G (fac N) f1), (aI G (fac N * N) f2), (aI G (rR sb N * N) w3), (aI G (rR sb N) f4)])) (n2 := n) (st2 := [.int (nI (tnO N o K))]) rfl rfl rfl rfl ?_
        refine r_aload_n C dX1_fillTurned_20 rfl 0 rfl ?_
        refine r_get (Cn := RX1) (T := TX1) (N := 8) (v := .int (nI (sbN sb N))) C inlX1 (RW_at0 rfl) rfl 2 (by decide) wF_X1_15 (fun _ h => h) rfl dX1_fillTurned_21 ?_
        refine r_ishlN C dX1_fillTurned_24 (by omega) ?_
        refine r_istore_n (lv2 := [(3, .int (nI ((tnO N o K) * 2 ^ (sbN sb N)))), (0, .ref la), (1, .int (nI o)), (2, .int (nI K))]) C dX1_fillTurned_25 rfl (by decide) rfl ?_
        refine r_iconst (v := nI 0) C dX1_fillTurned_26 (by decide) ?_
        refine r_istore (lv2 := [(4, .int (nI 0)), (3, .int (nI ((tnO N o K) * 2 ^ (sbN sb N)))), (0, .ref la), (1, .int (nI o)), (2, .int (nI K))]) C dX1_fillTurned_27 (by decide) rfl ?_
        have L29 : ∀ (fu : Nat) (S : Nat) (v3 : Nat → Int32), (S ≤ sm sb N) → (∀ sd, sd < sm sb N → ∀ k, 1 ≤ k → k < K → v3 (rk sb N o sd * N + k - 1) = nI (nx sb N (rk sb N o sd) k)) → (∀ sd, sd < S → v3 (rk sb N o sd * N + K - 1) = nI (nx sb N (rk sb N o sd) K)) → (∀ q, q < rk sb N o 0 * N → v3 q = f3 q) → (sm sb N + 1 - S) < fu → V p l e rm_X1_fillTurned s m args below meth c G 6 (MQ below (gQ G po) args s rm_X1_fillTurned.cells rm_X1_fillTurned.slots (gF G)) 0 0 n (RW σ la [(.inr (1, [.int (nI N), .int (nI (rR sb N)), .int (nI (sbN sb N)), .int (nI (sm sb N - 1)), .ref (la + 1), .ref (la + 2), .ref (la + 3), .ref (la + 4)])), (aI G (fac N) f1), (aI G (fac N * N) f2), (aI G (rR sb N * N) v3), (aI G (rR sb N) f4)]) 29 [(0, .ref la), (1, .int (nI o)), (2, .int (nI K)), (3, .int (nI ((tnO N o K) * 2 ^ (sbN sb N)))), (4, .int (nI S))] [] := by
          intro fu
          induction fu with
          | zero => intro S v3 hS hA2 hB hC2 hm; exact absurd hm (Nat.not_lt_zero _)
          | succ fu ih29 =>
            intro S v3 hS hA2 hB hC2 hm29
            refine r_iload C dX1_fillTurned_29 4 rfl ?_
            refine r_aload_n C dX1_fillTurned_31 rfl 0 rfl ?_
            refine r_get (Cn := RX1) (T := TX1) (N := 8) (v := .int (nI (sm sb N - 1))) C inlX1 (RW_at0 rfl) rfl 3 (by decide) wF_X1_18 (fun _ h => h) rfl dX1_fillTurned_32 ?_
            refine r_icmp_gtN (tgt := 82) C dX1_fillTurned_35 (by decide) (by omega) (by omega) (fun c35 => ?_) (fun c35 => ?_)
            · refine r_iinc (v := nI (K + 1)) (lv2 := [(2, .int (nI (K + 1))), (0, .ref la), (1, .int (nI o)), (3, .int (nI ((tnO N o K) * 2 ^ (sbN sb N)))), (4, .int (nI S))]) C dX1_fillTurned_82 (k := 2) rfl (nI_add _ 1) (by decide) rfl ?_
              refine r_goto (tgt := 2) C dX1_fillTurned_85 (by decide) ?_
              refine V.sub (lv2 := [(0, .ref la), (1, .int (nI o)), (2, .int (nI (K + 1)))]) [1, 2, 0] rfl ?_
              exact ih2 (K + 1) v3 (by omega) (by omega) (fun sd hs k hk1 hk2 => by rcases Nat.lt_or_ge k K with g | g; exact hA2 sd hs k hk1 g; (rw [show k = K by omega]; exact hB sd (by omega))) (hC2) (by omega)
            · have hS1 : S < sm sb N := by omega
              have hts := tnS_lt (k := K) hL.2.1 hS1 hKN
              have hrl := rk_ltR ho hS1
              refine r_iload_n C dX1_fillTurned_38 rfl 1 rfl ?_
              refine r_aload_n C dX1_fillTurned_39 rfl 0 rfl ?_
              refine r_get (Cn := RX1) (T := TX1) (N := 8) (v := .int (nI (sbN sb N))) C inlX1 (RW_at0 rfl) rfl 2 (by decide) wF_X1_15 (fun _ h => h) rfl dX1_fillTurned_40 ?_
              refine r_ishlN C dX1_fillTurned_43 (by omega) ?_
              refine r_iload C dX1_fillTurned_44 4 rfl ?_
              refine r_iorN C dX1_fillTurned_46 ?_
              refine V.top (y := nI (rk sb N o S)) (congrArg nI (rk_or hS1)) ?_
              refine r_istore (lv2 := [(5, .int (nI (rk sb N o S))), (0, .ref la), (1, .int (nI o)), (2, .int (nI K)), (3, .int (nI ((tnO N o K) * 2 ^ (sbN sb N)))), (4, .int (nI S))]) C dX1_fillTurned_47 (by decide) rfl ?_
              refine r_aload_n C dX1_fillTurned_49 rfl 1 rfl ?_
              refine r_get (Cn := RX1) (T := TX1) (N := 8) (v := .ref (la + 3)) C inlX1 (RW_at0 rfl) rfl 6 (by decide) wF_X1_35 (fun _ h => h) rfl dX1_fillTurned_50 ?_
              refine r_iload C dX1_fillTurned_53 0 rfl ?_
              refine r_aload_n C dX1_fillTurned_55 rfl 1 rfl ?_
              refine r_get (Cn := RX1) (T := TX1) (N := 8) (v := .int (nI N)) C inlX1 (RW_at0 rfl) rfl 0 (by decide) wF_X1_9 (fun _ h => h) rfl dX1_fillTurned_56 ?_
              refine r_imulN C dX1_fillTurned_59 ?_
              refine r_iload_n C dX1_fillTurned_60 rfl 3 rfl ?_
              refine r_iaddN C dX1_fillTurned_61 ?_
              refine r_iconst (v := nI 1) C dX1_fillTurned_62 (by decide) ?_
              refine r_isubN C dX1_fillTurned_63 (by omega) ?_
              refine r_iload_n C dX1_fillTurned_64 rfl 4 rfl ?_
              refine r_aload_n C dX1_fillTurned_65 rfl 1 rfl ?_
              refine r_iload C dX1_fillTurned_66 5 rfl ?_
              refine r_iload_n C dX1_fillTurned_68 rfl 3 rfl ?_
              refine r_callV (As := [.int (nI S), .int (nI K)]) C (c_X1_sidesBehind (la := la) (N := N) (cfl := cfl) (sb := sb) (sd := S) (k := K) (RW_at0 rfl) (by first | assumption | omega) (hS1) (by first | assumption | omega) (by first | assumption | omega)) wM_X1_72 wI_X1_sidesBehind wN_X1 wC_X1_sidesBehind wV_X1_sidesBehind hd_X1_sidesBehind ⟨Nat.le_of_ble_eq_true rfl, Nat.le_of_ble_eq_true rfl⟩ rfl (RW_at0 rfl) rfl rfl (Nat.le_of_ble_eq_true rfl) dX1_fillTurned_69 ⟨(Nat.le_of_ble_eq_true rfl), (Nat.le_of_ble_eq_true rfl)⟩ (fun rv n2 σ2 hp => ?_)
              obtain ⟨rfl, rfl, rfl⟩ := hp
              refine V.eq (σ2 := (RW σ la [(.inr (1, [.int (nI N), .int (nI (rR sb N)), .int (nI (sbN sb N)), .int (nI (sm sb N - 1)), .ref (la + 1), .ref (la + 2), .ref (la + 3), .ref (la + 4)])), (aI G (fac N) f1), (aI G (fac N * N) f2), (aI G (rR sb N * N) v3), (aI G (rR sb N) f4)])) (n2 := n) (st2 := [.int (nI (tnS sb S K)), .int (nI ((tnO N o K) * 2 ^ (sbN sb N))), .int (nI ((((rk sb N o S) * N) + K) - 1)), .ref (la + 3)]) rfl rfl rfl rfl ?_
              refine r_iorN C dX1_fillTurned_72 ?_
              refine V.top (y := nI (rk sb N (tnO N o K) (tnS sb S K))) (congrArg nI (rk_or hts)) ?_
              refine r_callSN (As := [.ref (la + 3), .int (nI ((((rk sb N o S) * N) + K) - 1)), .int (nI (rk sb N (tnO N o K) (tnS sb S K)))]) C (c_X6_put (a := la + 3) (len := (rR sb N * N)) (f := v3) (i := (((rk sb N o S) * N) + K) - 1) (x := nI (rk sb N (tnO N o K) (tnS sb S K))) (RW_at 3 rfl) (ix_lt3 hrl hK1 hKN) (by first | assumption | omega)) wZ_X1_56 wS_X6_put wN_X6 wC_X6_put hd_X6_put ⟨Nat.le_of_ble_eq_true rfl, Nat.le_of_ble_eq_true rfl⟩ rfl rfl (Nat.le_of_ble_eq_true rfl) dX1_fillTurned_73 ⟨(Nat.le_of_ble_eq_true rfl), (Nat.le_of_ble_eq_true rfl)⟩ (fun rv n2 σ2 hp => ?_)
              obtain ⟨rfl, rfl, rfl⟩ := hp
              refine V.eq (σ2 := (hU (RW σ la [(.inr (1, [.int (nI N), .int (nI (rR sb N)), .int (nI (sbN sb N)), .int (nI (sm sb N - 1)), .ref (la + 1), .ref (la + 2), .ref (la + 3), .ref (la + 4)])), (aI G (fac N) f1), (aI G (fac N * N) f2), (aI G (rR sb N * N) v3), (aI G (rR sb N) f4)]) (la + 3) (aI G (rR sb N * N) (upd v3 ((((rk sb N o S) * N) + K) - 1) (nI (rk sb N (tnO N o K) (tnS sb S K))))))) (n2 := n) (st2 := []) rfl rfl rfl rfl ?_
              refine V.hp (σ2 := (RW σ la [(.inr (1, [.int (nI N), .int (nI (rR sb N)), .int (nI (sbN sb N)), .int (nI (sm sb N - 1)), .ref (la + 1), .ref (la + 2), .ref (la + 3), .ref (la + 4)])), (aI G (fac N) f1), (aI G (fac N * N) f2), (aI G (rR sb N * N) (upd v3 ((((rk sb N o S) * N) + K) - 1) (nI (rk sb N (tnO N o K) (tnS sb S K))))), (aI G (rR sb N) f4)])) (RW_set 3 (Nat.le_of_ble_eq_true rfl) rfl) ?_
              refine r_iinc (v := nI (S + 1)) (lv2 := [(4, .int (nI (S + 1))), (5, .int (nI (rk sb N o S))), (0, .ref la), (1, .int (nI o)), (2, .int (nI K)), (3, .int (nI ((tnO N o K) * 2 ^ (sbN sb N))))]) C dX1_fillTurned_76 (k := 5) rfl (nI_add _ 1) (by decide) rfl ?_
              refine r_goto (tgt := 29) C dX1_fillTurned_79 (by decide) ?_
              refine V.sub (lv2 := [(0, .ref la), (1, .int (nI o)), (2, .int (nI K)), (3, .int (nI ((tnO N o K) * 2 ^ (sbN sb N)))), (4, .int (nI (S + 1)))]) [2, 3, 4, 5, 0] rfl ?_
              exact ih29 (S + 1) (upd v3 ((((rk sb N o S) * N) + K) - 1) (nI (rk sb N (tnO N o K) (tnS sb S K)))) (by omega) (fun sd hs k hk1 hk2 => by rw [pk_un (fun z => by have := (ix_ne hk1 (by omega) hK1 hKN z).2; omega)]; exact hA2 sd hs k hk1 hk2) (fun sd hs => by rcases Nat.lt_or_ge sd S with g | g; (rw [pk_un (fun z => by have := rk_injs (by omega) hS1 (ix_ne hK1 hKN hK1 hKN z).1; omega)]; exact hB sd g); (rw [show sd = S by omega, pk_us, nx, oR_rk hS1, sR_rk hS1])) (fun q hq => by have h8 := rk_mono0 N o hS1; rw [pk_un (by omega)]; exact hC2 q hq) (by omega)
        refine V.sub (lv2 := [(0, .ref la), (1, .int (nI o)), (2, .int (nI K)), (3, .int (nI ((tnO N o K) * 2 ^ (sbN sb N)))), (4, .int (nI 0))]) [2, 3, 4, 1, 0] rfl ?_
        exact L29 _ 0 w3 (by omega) (hA) (fun sd hs => absurd hs (Nat.not_lt_zero sd)) (hC) (Nat.lt_succ_self _)
  refine V.sub (lv2 := [(0, .ref la), (1, .int (nI o)), (2, .int (nI 1))]) [1, 2, 0] rfl ?_
  exact L2 _ 1 f3 (by omega) (by omega) (fun sd hs k hk1 hk2 => absurd hk2 (by omega)) (fun _ _ => rfl) (Nat.lt_succ_self _)
