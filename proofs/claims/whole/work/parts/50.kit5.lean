theorem sh_fr {G : gG} {B : Nat} {σ τ : gS} {K K1 : KT} {a a1 : AK} (hn : aN a1 = aN a) (hs : a1.2.2.1 = a.2.2.1) (hK : kS K1 = kS K) (hSh : ∀ k, k < aN a → ∃ sa, kS K k = some sa ∧ ShpAt G B σ sa (aKd a k) (aCk a k) (aSr a k)) (hf : ∀ q, B ≤ q → τ q = σ q) :
    ∀ k, k < aN a1 → ∃ sa, kS K1 k = some sa ∧ ShpAt G B τ sa (aKd a1 k) (aCk a1 k) (aSr a1 k) := fun k hk => by
  obtain ⟨sa, h1, h2⟩ := hSh k (by omega)
  refine ⟨sa, by rw [hK]; exact h1, ?_⟩
  rw [aKd, aCk, aSr, hs]
  exact h2.fr hf
theorem rd_step {t : Nat → Nat} {L i r1 r9 d1 d9 n1 n9 : Nat} {o1 o9 : Option Nat} {a1 a9 : AK} {T : Nat × Nat × AK × Nat} {f1 : Int32} (h : (r1 = 0 ∧ prs t L (L + 1 - i) i o1 d1 a1 n1 = T) ∨ (r1 ≠ 0 ∧ T = (i - 1, r1, a1, n1) ∧ f1 = nI (i - 1))) (h0 : r1 = 0)
    (hpr : prs t L (L + 1 - i) i o1 d1 a1 n1 = (if r9 = 0 then prs t L (L + 1 - (i + 1)) (i + 1) o9 d9 a9 n9 else (i, r9, a9, n9))) : (r9 = 0 ∧ prs t L (L + 1 - (i + 1)) (i + 1) o9 d9 a9 n9 = T) ∨ (r9 ≠ 0 ∧ T = (i + 1 - 1, r9, a9, n9) ∧ nI i = nI (i + 1 - 1)) := by
  have h1 := (h.resolve_right (fun z => z.1 h0)).2
  rw [hpr] at h1
  by_cases g : r9 = 0
  · rw [if_pos g] at h1
    exact Or.inl ⟨g, h1⟩
  · rw [if_neg g] at h1
    exact Or.inr ⟨g, h1.symm, rfl⟩
theorem rd_open {t : Nat → Nat} {L i r1 d1 n1 : Nat} {o1 : Option Nat} {a1 : AK} {T : Nat × Nat × AK × Nat} {f1 : Int32} (h : (r1 = 0 ∧ prs t L (L + 1 - i) i o1 d1 a1 n1 = T) ∨ (r1 ≠ 0 ∧ T = (i - 1, r1, a1, n1) ∧ f1 = nI (i - 1))) (h0 : r1 = 0) (hi : i = L) (ho : ¬ o1 = none) : T = (L, 1, a1, n1) := by
  have h1 := (h.resolve_right (fun z => z.1 h0)).2
  cases o1 with
  | none => exact absurd rfl ho
  | some k => rw [← h1, hi, prs_endS]
theorem rd_done {t : Nat → Nat} {L i r1 d1 n1 : Nat} {o1 : Option Nat} {a1 : AK} {T : Nat × Nat × AK × Nat} {f1 : Int32} (h : (r1 = 0 ∧ prs t L (L + 1 - i) i o1 d1 a1 n1 = T) ∨ (r1 ≠ 0 ∧ T = (i - 1, r1, a1, n1) ∧ f1 = nI (i - 1))) (h0 : r1 = 0) (hi : i = L) (ho : o1 = none) : T = ((if r1 = 0 then L else i - 1), r1, a1, n1) := by
  have h1 := (h.resolve_right (fun z => z.1 h0)).2
  rw [← h1, hi, ho, prs_endN, if_pos h0, h0]
theorem rd_bad {L i r1 n1 : Nat} {a1 : AK} {T : Nat × Nat × AK × Nat} (h0 : r1 ≠ 0) (h : T = (i - 1, r1, a1, n1)) : T = ((if r1 = 0 then L else i - 1), r1, a1, n1) := by rw [if_neg h0, h]
theorem rd_pos {L i r1 : Nat} {f1 : Int32} (h0 : r1 ≠ 0) (h : f1 = nI (i - 1)) : f1 = nI (if r1 = 0 then L else i - 1) := by rw [if_neg h0, h]

abbrev rm_X5_readInto : Room := { frames := 9, cells := 0, slots := 0, locals := 422 }
set_option maxRecDepth 100000 in
set_option maxHeartbeats 4000000 in
theorem c_X5_readInto {l : Launch} {G : gG} {n : Nat} {σ : gS} {x0 L : Nat} {rs fp tn op dg : Int32} {k0 : Nat} {K : KT} {a : AK} {fx : Nat → Int32} {t : Nat → Nat} {B : Nat} (hc0 : σ x0 = some (.inr (5, [.int (nI L), .int rs, .int fp, .int tn, .ref (x0 + 1), .int op, .int dg]))) (hc1 : σ (x0 + 1) = some (aI G 50 fx)) (hc2 : σ k0 = some (.inr (0, [.int (nI (kN K)), .int (nI (kH K)), .ref (k0 + 1), .ref (k0 + 2), .ref (k0 + 3), .ref (k0 + 4), .ref (k0 + 5)]))) (hc3 : σ (k0 + 1) = some (aI G 3 (kT K))) (hc4 : σ (k0 + 2) = some (aI G 3 (kW K))) (hc5 : σ (k0 + 3) = some (aR 4 G 5 (kS K))) (hc6 : σ (k0 + 4) = some (aI G 5 (kR K))) (hc7 : σ (k0 + 5) = some (aI G 5 (kM K))) (hKA : KA K a) (hA : AOK a) (hSh : ∀ k, k < aN a → ∃ sa, kS K k = some sa ∧ ShpAt G B σ sa (aKd a k) (aCk a k) (aSr a k)) (htx : ∀ j, j < L → fx j = nI (t j)) (ht2 : ∀ j, t j < 128) (hL : L ≤ 50) (hap : k0 + 6 ≤ B ∧ x0 + 2 ≤ B ∧ (x0 + 2 ≤ k0 ∨ k0 + 6 ≤ x0)) : GM l G yX5_readInto cX5_readInto 3 none rm_X5_readInto n σ [.ref x0, .ref k0] (fun rv n2 σ2 => (none : Option Value) = rv ∧ n = n2 ∧ ∃ (po : Nat) (r2 : Nat) (a2 : AK) (n2_ : Nat) (f2 : Int32) (o2 : Int32) (d2 : Int32) (K2 : KT), (hU (RW σ k0 [(.inr (0, [.int (nI (kN K2)), .int (nI (kH K2)), .ref (k0 + 1), .ref (k0 + 2), .ref (k0 + 3), .ref (k0 + 4), .ref (k0 + 5)])), (aI G 3 (kT K2)), (aI G 3 (kW K2)), (aR 4 G 5 (kS K2)), (aI G 5 (kR K2)), (aI G 5 (kM K2))]) x0 (.inr (5, [.int (nI L), .int (nI r2), .int f2, .int (nI n2_), .ref (x0 + 1), .int o2, .int d2]))) = σ2 ∧ (prs t L (L + 1) 0 none 0 a 0 = (po, r2, a2, n2_)) ∧ (r2 ≠ 0 → f2 = nI po) ∧ (KA K2 a2) ∧ (AOK a2) ∧ (kS K2 = kS K) ∧ (r2 < 4 ∧ n2_ ≤ 50)) := by
  refine GM.intro (by decide +kernel) (Nat.le_of_ble_eq_true rfl) (fun p e s m args below meth c C hr hlocks hname po hpo => ?_)
  have C : Cx p s m args c cX5_readInto 3 RX5 G := C
  have hA5 := hA.1
  refine V.hp (σ2 := (RW σ k0 [(.inr (0, [.int (nI (kN K)), .int (nI (kH K)), .ref (k0 + 1), .ref (k0 + 2), .ref (k0 + 3), .ref (k0 + 4), .ref (k0 + 5)])), (aI G 3 (kT K)), (aI G 3 (kW K)), (aR 4 G 5 (kS K)), (aI G 5 (kR K)), (aI G 5 (kM K))])) (RW_cons hc2 (RW_cons hc3 (RW_cons hc4 (RW_cons hc5 (RW_cons hc6 (RW_cons hc7 (RW_nil _ _))))))).symm ?_
  refine r_aload_n C dX5_readInto_0 rfl 0 rfl ?_
  refine r_iconst (v := nI 0) C dX5_readInto_1 (by decide) ?_
  refine r_put (Cn := RX5) (T := TX5) (N := 7) (fs2 := [.int (nI L), .int (nI 0), .int fp, .int tn, .ref (x0 + 1), .int op, .int dg]) C inlX5 tyX5 tyX5_ok nmX5 ((RW_ne (m := 6) rfl (by omega)).trans hc0) rfl 1 (by decide) wF_X5_15 (fun _ h => h) rfl (tyX5_ok 1 (by decide)) rfl rfl (Nat.le_of_ble_eq_true rfl) rfl dX5_readInto_2 ?_
  refine r_aload_n C dX5_readInto_5 rfl 0 rfl ?_
  refine r_iconst (v := nI 0) C dX5_readInto_6 (by decide) ?_
  refine r_put (Cn := RX5) (T := TX5) (N := 7) (fs2 := [.int (nI L), .int (nI 0), .int fp, .int (nI 0), .ref (x0 + 1), .int op, .int dg]) C inlX5 tyX5 tyX5_ok nmX5 (hU_at _ _ _) rfl 3 (by decide) wF_X5_21 (fun _ h => h) rfl (tyX5_ok 3 (by decide)) rfl rfl (Nat.le_of_ble_eq_true rfl) rfl dX5_readInto_7 ?_
  refine V.hp (σ2 := (hU (RW σ k0 [(.inr (0, [.int (nI (kN K)), .int (nI (kH K)), .ref (k0 + 1), .ref (k0 + 2), .ref (k0 + 3), .ref (k0 + 4), .ref (k0 + 5)])), (aI G 3 (kT K)), (aI G 3 (kW K)), (aR 4 G 5 (kS K)), (aI G 5 (kR K)), (aI G 5 (kM K))]) x0 (.inr (5, [.int (nI L), .int (nI 0), .int fp, .int (nI 0), .ref (x0 + 1), .int op, .int dg])))) (hU_hU _ _ _ _) ?_
  refine r_aload_n C dX5_readInto_10 rfl 0 rfl ?_
  refine r_iconst (v := (-1)) C dX5_readInto_11 (by decide) ?_
  refine r_put (Cn := RX5) (T := TX5) (N := 7) (fs2 := [.int (nI L), .int (nI 0), .int fp, .int (nI 0), .ref (x0 + 1), .int (-1), .int dg]) C inlX5 tyX5 tyX5_ok nmX5 (hU_at _ _ _) rfl 5 (by decide) wF_X5_28 (fun _ h => h) rfl (tyX5_ok 5 (by decide)) rfl rfl (Nat.le_of_ble_eq_true rfl) rfl dX5_readInto_12 ?_
  refine V.hp (σ2 := (hU (RW σ k0 [(.inr (0, [.int (nI (kN K)), .int (nI (kH K)), .ref (k0 + 1), .ref (k0 + 2), .ref (k0 + 3), .ref (k0 + 4), .ref (k0 + 5)])), (aI G 3 (kT K)), (aI G 3 (kW K)), (aR 4 G 5 (kS K)), (aI G 5 (kR K)), (aI G 5 (kM K))]) x0 (.inr (5, [.int (nI L), .int (nI 0), .int fp, .int (nI 0), .ref (x0 + 1), .int (-1), .int dg])))) (hU_hU _ _ _ _) ?_
  refine r_iconst (v := nI 0) C dX5_readInto_15 (by decide) ?_
  refine r_istore_n (lv2 := [(2, .int (nI 0)), (0, .ref x0), (1, .ref k0)]) C dX5_readInto_16 rfl (by decide) rfl ?_
  have L17 : ∀ (fu : Nat) (i : Nat) (r1 : Nat) (f1 : Int32) (o1 : Option Nat) (di : Int32) (d1 : Nat) (n1 : Nat) (K1 : KT) (a1 : AK), (i ≤ L) → (KA K1 a1) → (AOK a1) → (aN a1 = aN a) → (a1.2.2.1 = a.2.2.1) → (kS K1 = kS K) → (∀ k, o1 = some k → k < aN a) → (o1 = none ∨ di = nI d1) → (d1 ≤ i ∧ n1 ≤ i ∧ r1 < 4) → ((r1 = 0 ∧ prs t L (L + 1 - i) i o1 d1 a1 n1 = prs t L (L + 1) 0 none 0 a 0) ∨ (r1 ≠ 0 ∧ prs t L (L + 1) 0 none 0 a 0 = (i - 1, r1, a1, n1) ∧ f1 = nI (i - 1))) → (L + 1 - i) < fu → V p l e rm_X5_readInto s m args below meth c G 3 (MQ below (gQ G po) args s rm_X5_readInto.cells rm_X5_readInto.slots (gF G)) 0 0 n (hU (RW σ k0 [(.inr (0, [.int (nI (kN K1)), .int (nI (kH K1)), .ref (k0 + 1), .ref (k0 + 2), .ref (k0 + 3), .ref (k0 + 4), .ref (k0 + 5)])), (aI G 3 (kT K1)), (aI G 3 (kW K1)), (aR 4 G 5 (kS K1)), (aI G 5 (kR K1)), (aI G 5 (kM K1))]) x0 (.inr (5, [.int (nI L), .int (nI r1), .int f1, .int (nI n1), .ref (x0 + 1), .int (opI o1), .int di]))) 17 [(0, .ref x0), (1, .ref k0), (2, .int (nI i))] [] := by
    intro fu
    induction fu with
    | zero => intro i r1 f1 o1 di d1 n1 K1 a1 hi hKA1 hA1 hn1 hsh1 hS1 ho1 hdi hd1 hst1 hm; exact absurd hm (Nat.not_lt_zero _)
    | succ fu ih17 =>
      intro i r1 f1 o1 di d1 n1 K1 a1 hi hKA1 hA1 hn1 hsh1 hS1 ho1 hdi hd1 hst1 hm17
      refine r_iload_n C dX5_readInto_17 rfl 2 rfl ?_
      refine r_aload_n C dX5_readInto_18 rfl 0 rfl ?_
      refine r_get (Cn := RX5) (T := TX5) (N := 7) (v := .int (nI L)) C inlX5 (hU_at _ _ _) rfl 0 (by decide) wF_X5_9 (fun _ h => h) rfl dX5_readInto_19 ?_
      refine r_icmp_geN (tgt := 60) C dX5_readInto_22 (by decide) (by omega) (by omega) (fun c22 => ?_) (fun c22 => ?_)
      · have hiL : i = L := by omega
        refine r_aload_n C dX5_readInto_60 rfl 0 rfl ?_
        refine r_get (Cn := RX5) (T := TX5) (N := 7) (v := .int (nI r1)) C inlX5 (hU_at _ _ _) rfl 1 (by decide) wF_X5_15 (fun _ h => h) rfl dX5_readInto_61 ?_
        refine r_if_neN (tgt := 88) C dX5_readInto_64 (by decide) (by omega) (fun c64 => ?_) (fun c64 => ?_)
        · have hw9 := hst1.resolve_left (fun z => c64 z.1)
          exact r_vret C hr hlocks (Nat.le_of_ble_eq_true rfl) (Nat.le_of_ble_eq_true rfl) dX5_readInto_88 (hpo _ _ _ ⟨rfl, rfl, (if r1 = 0 then L else i - 1), r1, a1, n1, f1, opI o1, di, K1, rfl, by first | exact rd_bad hw9.1 hw9.2.1 | exact rd_done hst1 c64 hiL hon, fun z => by first | exact rd_pos hw9.1 hw9.2.2 | exact absurd c64 z, hKA1, hA1, hS1, ⟨by omega, by omega⟩⟩)
        · refine r_aload_n C dX5_readInto_67 rfl 0 rfl ?_
          refine r_get (Cn := RX5) (T := TX5) (N := 7) (v := .int (opI o1)) C inlX5 (hU_at _ _ _) rfl 5 (by decide) wF_X5_28 (fun _ h => h) rfl dX5_readInto_68 ?_
          refine r_iconst (v := (-1)) C dX5_readInto_71 (by decide) ?_
          refine r_icmp_eq (tgt := 88) C dX5_readInto_72 (by decide) (fun c72 => ?_) (fun c72 => ?_)
          · have hon := (opI_n (fun k hk => by have := ho1 k hk; omega)).mp c72
            exact r_vret C hr hlocks (Nat.le_of_ble_eq_true rfl) (Nat.le_of_ble_eq_true rfl) dX5_readInto_88 (hpo _ _ _ ⟨rfl, rfl, (if r1 = 0 then L else i - 1), r1, a1, n1, f1, opI o1, di, K1, rfl, by first | exact rd_bad hw9.1 hw9.2.1 | exact rd_done hst1 c64 hiL hon, fun z => by first | exact rd_pos hw9.1 hw9.2.2 | exact absurd c64 z, hKA1, hA1, hS1, ⟨by omega, by omega⟩⟩)
          · have hon := fun z => c72 ((opI_n (fun k hk => by have := ho1 k hk; omega)).mpr z)
            refine r_aload_n C dX5_readInto_75 rfl 0 rfl ?_
            refine r_aload_n C dX5_readInto_76 rfl 0 rfl ?_
            refine r_get (Cn := RX5) (T := TX5) (N := 7) (v := .int (nI L)) C inlX5 (hU_at _ _ _) rfl 0 (by decide) wF_X5_9 (fun _ h => h) rfl dX5_readInto_77 ?_
            refine r_put (Cn := RX5) (T := TX5) (N := 7) (fs2 := [.int (nI L), .int (nI r1), .int (nI L), .int (nI n1), .ref (x0 + 1), .int (opI o1), .int di]) C inlX5 tyX5 tyX5_ok nmX5 (hU_at _ _ _) rfl 2 (by decide) wF_X5_18 (fun _ h => h) rfl (tyX5_ok 2 (by decide)) rfl rfl (Nat.le_of_ble_eq_true rfl) rfl dX5_readInto_80 ?_
            refine V.hp (σ2 := (hU (RW σ k0 [(.inr (0, [.int (nI (kN K1)), .int (nI (kH K1)), .ref (k0 + 1), .ref (k0 + 2), .ref (k0 + 3), .ref (k0 + 4), .ref (k0 + 5)])), (aI G 3 (kT K1)), (aI G 3 (kW K1)), (aR 4 G 5 (kS K1)), (aI G 5 (kR K1)), (aI G 5 (kM K1))]) x0 (.inr (5, [.int (nI L), .int (nI r1), .int (nI L), .int (nI n1), .ref (x0 + 1), .int (opI o1), .int di])))) (hU_hU _ _ _ _) ?_
            refine r_aload_n C dX5_readInto_83 rfl 0 rfl ?_
            refine r_iconst (v := nI 1) C dX5_readInto_84 (by decide) ?_
            refine r_put (Cn := RX5) (T := TX5) (N := 7) (fs2 := [.int (nI L), .int (nI 1), .int (nI L), .int (nI n1), .ref (x0 + 1), .int (opI o1), .int di]) C inlX5 tyX5 tyX5_ok nmX5 (hU_at _ _ _) rfl 1 (by decide) wF_X5_15 (fun _ h => h) rfl (tyX5_ok 1 (by decide)) rfl rfl (Nat.le_of_ble_eq_true rfl) rfl dX5_readInto_85 ?_
            refine V.hp (σ2 := (hU (RW σ k0 [(.inr (0, [.int (nI (kN K1)), .int (nI (kH K1)), .ref (k0 + 1), .ref (k0 + 2), .ref (k0 + 3), .ref (k0 + 4), .ref (k0 + 5)])), (aI G 3 (kT K1)), (aI G 3 (kW K1)), (aR 4 G 5 (kS K1)), (aI G 5 (kR K1)), (aI G 5 (kM K1))]) x0 (.inr (5, [.int (nI L), .int (nI 1), .int (nI L), .int (nI n1), .ref (x0 + 1), .int (opI o1), .int di])))) (hU_hU _ _ _ _) ?_
            exact r_vret C hr hlocks (Nat.le_of_ble_eq_true rfl) (Nat.le_of_ble_eq_true rfl) dX5_readInto_88 (hpo _ _ _ ⟨rfl, rfl, L, 1, a1, n1, nI L, opI o1, di, K1, rfl, by first | exact rd_open hst1 c64 hiL hon | exact absurd c64 c29, fun _ => rfl, hKA1, hA1, hS1, ⟨by decide, by omega⟩⟩)
      · have hiL : i < L := by omega
        refine r_aload_n C dX5_readInto_25 rfl 0 rfl ?_
        refine r_get (Cn := RX5) (T := TX5) (N := 7) (v := .int (nI r1)) C inlX5 (hU_at _ _ _) rfl 1 (by decide) wF_X5_15 (fun _ h => h) rfl dX5_readInto_26 ?_
        refine r_if_neN (tgt := 60) C dX5_readInto_29 (by decide) (by omega) (fun c29 => ?_) (fun c29 => ?_)
        · have hw9 := hst1.resolve_left (fun z => c29 z.1)
          refine r_aload_n C dX5_readInto_60 rfl 0 rfl ?_
          refine r_get (Cn := RX5) (T := TX5) (N := 7) (v := .int (nI r1)) C inlX5 (hU_at _ _ _) rfl 1 (by decide) wF_X5_15 (fun _ h => h) rfl dX5_readInto_61 ?_
          refine r_if_neN (tgt := 88) C dX5_readInto_64 (by decide) (by omega) (fun c64 => ?_) (fun c64 => ?_)
          · have hw9 := hst1.resolve_left (fun z => c64 z.1)
            exact r_vret C hr hlocks (Nat.le_of_ble_eq_true rfl) (Nat.le_of_ble_eq_true rfl) dX5_readInto_88 (hpo _ _ _ ⟨rfl, rfl, (if r1 = 0 then L else i - 1), r1, a1, n1, f1, opI o1, di, K1, rfl, by first | exact rd_bad hw9.1 hw9.2.1 | exact rd_done hst1 c64 hiL hon, fun z => by first | exact rd_pos hw9.1 hw9.2.2 | exact absurd c64 z, hKA1, hA1, hS1, ⟨by omega, by omega⟩⟩)
          · refine r_aload_n C dX5_readInto_67 rfl 0 rfl ?_
            refine r_get (Cn := RX5) (T := TX5) (N := 7) (v := .int (opI o1)) C inlX5 (hU_at _ _ _) rfl 5 (by decide) wF_X5_28 (fun _ h => h) rfl dX5_readInto_68 ?_
            refine r_iconst (v := (-1)) C dX5_readInto_71 (by decide) ?_
            refine r_icmp_eq (tgt := 88) C dX5_readInto_72 (by decide) (fun c72 => ?_) (fun c72 => ?_)
            · have hon := (opI_n (fun k hk => by have := ho1 k hk; omega)).mp c72
              exact r_vret C hr hlocks (Nat.le_of_ble_eq_true rfl) (Nat.le_of_ble_eq_true rfl) dX5_readInto_88 (hpo _ _ _ ⟨rfl, rfl, (if r1 = 0 then L else i - 1), r1, a1, n1, f1, opI o1, di, K1, rfl, by first | exact rd_bad hw9.1 hw9.2.1 | exact rd_done hst1 c64 hiL hon, fun z => by first | exact rd_pos hw9.1 hw9.2.2 | exact absurd c64 z, hKA1, hA1, hS1, ⟨by omega, by omega⟩⟩)
            · have hon := fun z => c72 ((opI_n (fun k hk => by have := ho1 k hk; omega)).mpr z)
              refine r_aload_n C dX5_readInto_75 rfl 0 rfl ?_
              refine r_aload_n C dX5_readInto_76 rfl 0 rfl ?_
              refine r_get (Cn := RX5) (T := TX5) (N := 7) (v := .int (nI L)) C inlX5 (hU_at _ _ _) rfl 0 (by decide) wF_X5_9 (fun _ h => h) rfl dX5_readInto_77 ?_
              refine r_put (Cn := RX5) (T := TX5) (N := 7) (fs2 := [.int (nI L), .int (nI r1), .int (nI L), .int (nI n1), .ref (x0 + 1), .int (opI o1), .int di]) C inlX5 tyX5 tyX5_ok nmX5 (hU_at _ _ _) rfl 2 (by decide) wF_X5_18 (fun _ h => h) rfl (tyX5_ok 2 (by decide)) rfl rfl (Nat.le_of_ble_eq_true rfl) rfl dX5_readInto_80 ?_
              refine V.hp (σ2 := (hU (RW σ k0 [(.inr (0, [.int (nI (kN K1)), .int (nI (kH K1)), .ref (k0 + 1), .ref (k0 + 2), .ref (k0 + 3), .ref (k0 + 4), .ref (k0 + 5)])), (aI G 3 (kT K1)), (aI G 3 (kW K1)), (aR 4 G 5 (kS K1)), (aI G 5 (kR K1)), (aI G 5 (kM K1))]) x0 (.inr (5, [.int (nI L), .int (nI r1), .int (nI L), .int (nI n1), .ref (x0 + 1), .int (opI o1), .int di])))) (hU_hU _ _ _ _) ?_
              refine r_aload_n C dX5_readInto_83 rfl 0 rfl ?_
              refine r_iconst (v := nI 1) C dX5_readInto_84 (by decide) ?_
              refine r_put (Cn := RX5) (T := TX5) (N := 7) (fs2 := [.int (nI L), .int (nI 1), .int (nI L), .int (nI n1), .ref (x0 + 1), .int (opI o1), .int di]) C inlX5 tyX5 tyX5_ok nmX5 (hU_at _ _ _) rfl 1 (by decide) wF_X5_15 (fun _ h => h) rfl (tyX5_ok 1 (by decide)) rfl rfl (Nat.le_of_ble_eq_true rfl) rfl dX5_readInto_85 ?_
              refine V.hp (σ2 := (hU (RW σ k0 [(.inr (0, [.int (nI (kN K1)), .int (nI (kH K1)), .ref (k0 + 1), .ref (k0 + 2), .ref (k0 + 3), .ref (k0 + 4), .ref (k0 + 5)])), (aI G 3 (kT K1)), (aI G 3 (kW K1)), (aR 4 G 5 (kS K1)), (aI G 5 (kR K1)), (aI G 5 (kM K1))]) x0 (.inr (5, [.int (nI L), .int (nI 1), .int (nI L), .int (nI n1), .ref (x0 + 1), .int (opI o1), .int di])))) (hU_hU _ _ _ _) ?_
              exact r_vret C hr hlocks (Nat.le_of_ble_eq_true rfl) (Nat.le_of_ble_eq_true rfl) dX5_readInto_88 (hpo _ _ _ ⟨rfl, rfl, L, 1, a1, n1, nI L, opI o1, di, K1, rfl, by first | exact rd_open hst1 c64 hiL hon | exact absurd c64 c29, fun _ => rfl, hKA1, hA1, hS1, ⟨by decide, by omega⟩⟩)
        · refine r_aload_n C dX5_readInto_32 rfl 0 rfl ?_
          refine r_iload_n C dX5_readInto_33 rfl 2 rfl ?_
          refine r_put (Cn := RX5) (T := TX5) (N := 7) (fs2 := [.int (nI L), .int (nI r1), .int (nI i), .int (nI n1), .ref (x0 + 1), .int (opI o1), .int di]) C inlX5 tyX5 tyX5_ok nmX5 (hU_at _ _ _) rfl 2 (by decide) wF_X5_18 (fun _ h => h) rfl (tyX5_ok 2 (by decide)) rfl rfl (Nat.le_of_ble_eq_true rfl) rfl dX5_readInto_34 ?_
          refine V.hp (σ2 := (hU (RW σ k0 [(.inr (0, [.int (nI (kN K1)), .int (nI (kH K1)), .ref (k0 + 1), .ref (k0 + 2), .ref (k0 + 3), .ref (k0 + 4), .ref (k0 + 5)])), (aI G 3 (kT K1)), (aI G 3 (kW K1)), (aR 4 G 5 (kS K1)), (aI G 5 (kR K1)), (aI G 5 (kM K1))]) x0 (.inr (5, [.int (nI L), .int (nI r1), .int (nI i), .int (nI n1), .ref (x0 + 1), .int (opI o1), .int di])))) (hU_hU _ _ _ _) ?_
          refine r_aload_n C dX5_readInto_37 rfl 0 rfl ?_
          refine r_aload_n C dX5_readInto_38 rfl 0 rfl ?_
          refine r_aload_n C dX5_readInto_39 rfl 0 rfl ?_
          refine r_get (Cn := RX5) (T := TX5) (N := 7) (v := .ref (x0 + 1)) C inlX5 (hU_at _ _ _) rfl 4 (by decide) wF_X5_24 (fun _ h => h) rfl dX5_readInto_40 ?_
          refine r_iload_n C dX5_readInto_43 rfl 2 rfl ?_
          refine r_callSN (As := [.ref (x0 + 1), .int (nI i)]) C (c_X6_at_y (a := x0 + 1) (len := 50) (f := fx) (i := i) ((hU_ne (by omega)).trans ((RW_ne (m := 6) rfl (by omega)).trans hc1)) (by omega) (by first | assumption | omega)) wZ_X5_38 wS_X6_at wN_X6 wC_X6_at hd_X6_at ⟨Nat.le_of_ble_eq_true rfl, Nat.le_of_ble_eq_true rfl⟩ rfl rfl (Nat.le_of_ble_eq_true rfl) dX5_readInto_44 ⟨(Nat.le_of_ble_eq_true rfl), (Nat.le_of_ble_eq_true rfl)⟩ (fun rv n2 σ2 hp => ?_)
          obtain ⟨rfl, rfl, rfl⟩ := hp
          refine V.eq (σ2 := (hU (RW σ k0 [(.inr (0, [.int (nI (kN K1)), .int (nI (kH K1)), .ref (k0 + 1), .ref (k0 + 2), .ref (k0 + 3), .ref (k0 + 4), .ref (k0 + 5)])), (aI G 3 (kT K1)), (aI G 3 (kW K1)), (aR 4 G 5 (kS K1)), (aI G 5 (kR K1)), (aI G 5 (kM K1))]) x0 (.inr (5, [.int (nI L), .int (nI r1), .int (nI i), .int (nI n1), .ref (x0 + 1), .int (opI o1), .int di])))) (n2 := n) (st2 := [.int (fx i), .ref x0, .ref x0]) rfl rfl rfl rfl ?_
          refine V.top (y := nI (t i)) (htx i hiL) ?_
          refine r_aload_n C dX5_readInto_47 rfl 1 rfl ?_
          refine r_callV (As := [.int (nI (t i)), .ref k0]) C (c_X5_readSign_u (x0 := x0) (L := L) (rs := nI r1) (fp := nI i) (o1 := o1) (d1 := d1) (n1 := n1) (di := di) (k0 := k0) (K := K1) (a := a1) (w := t i) (B := B) (hU_at _ _ _) ((hU_ne (by omega)).trans (RW_at0 rfl)) ((hU_ne (by omega)).trans (RW_at 1 rfl)) ((hU_ne (by omega)).trans (RW_at 2 rfl)) ((hU_ne (by omega)).trans (RW_at 3 rfl)) ((hU_ne (by omega)).trans (RW_at 4 rfl)) ((hU_ne (by omega)).trans (RW_at 5 rfl)) (hKA1) (hA1) (sh_fr hn1 hsh1 hS1 hSh (fun q hq => (hU_ne (by omega)).trans (RW_ne (m := 6) rfl (by omega)))) (ht2 i) (by omega) (hdi) (fun k hk => by rw [hn1]; exact ho1 k hk) (hap)) wM_X5_42 wI_X5_readSign wN_X5 wC_X5_readSign wV_X5_readSign hd_X5_readSign ⟨Nat.le_of_ble_eq_true rfl, Nat.le_of_ble_eq_true rfl⟩ rfl (hU_at _ _ _) rfl rfl (Nat.le_of_ble_eq_true rfl) dX5_readInto_48 ⟨(Nat.le_of_ble_eq_true rfl), (Nat.le_of_ble_eq_true rfl)⟩ (fun rv n2 σ2 hp => ?_)
          obtain ⟨r9, o9, d9, dj9, a9, n9, K9, rfl, rfl, rfl, hst9, hKA9, hA9, hS9, hdj9⟩ := hp
          refine V.eq (σ2 := (hU (RW (hU (RW σ k0 [(.inr (0, [.int (nI (kN K1)), .int (nI (kH K1)), .ref (k0 + 1), .ref (k0 + 2), .ref (k0 + 3), .ref (k0 + 4), .ref (k0 + 5)])), (aI G 3 (kT K1)), (aI G 3 (kW K1)), (aR 4 G 5 (kS K1)), (aI G 5 (kR K1)), (aI G 5 (kM K1))]) x0 (.inr (5, [.int (nI L), .int (nI r1), .int (nI i), .int (nI n1), .ref (x0 + 1), .int (opI o1), .int di]))) k0 [(.inr (0, [.int (nI (kN K9)), .int (nI (kH K9)), .ref (k0 + 1), .ref (k0 + 2), .ref (k0 + 3), .ref (k0 + 4), .ref (k0 + 5)])), (aI G 3 (kT K9)), (aI G 3 (kW K9)), (aR 4 G 5 (kS K9)), (aI G 5 (kR K9)), (aI G 5 (kM K9))]) x0 (.inr (5, [.int (nI L), .int (nI r1), .int (nI i), .int (nI n9), .ref (x0 + 1), .int (opI o9), .int dj9])))) (n2 := n) (st2 := [.int (nI r9), .ref x0]) rfl rfl rfl rfl ?_
          refine V.hp (σ2 := (hU (RW σ k0 [(.inr (0, [.int (nI (kN K9)), .int (nI (kH K9)), .ref (k0 + 1), .ref (k0 + 2), .ref (k0 + 3), .ref (k0 + 4), .ref (k0 + 5)])), (aI G 3 (kT K9)), (aI G 3 (kW K9)), (aR 4 G 5 (kS K9)), (aI G 5 (kR K9)), (aI G 5 (kM K9))]) x0 (.inr (5, [.int (nI L), .int (nI r1), .int (nI i), .int (nI n9), .ref (x0 + 1), .int (opI o9), .int dj9])))) (hR_two (by show x0 < k0 ∨ k0 + 6 ≤ x0; omega) (Nat.le_refl _)) ?_
          have hb9 := stp_b hst9 (fun k hk => by rw [hn1]; exact ho1 k hk)
          have hpr := stp_prs hiL hst9
          refine r_put (Cn := RX5) (T := TX5) (N := 7) (fs2 := [.int (nI L), .int (nI r9), .int (nI i), .int (nI n9), .ref (x0 + 1), .int (opI o9), .int dj9]) C inlX5 tyX5 tyX5_ok nmX5 (hU_at _ _ _) rfl 1 (by decide) wF_X5_15 (fun _ h => h) rfl (tyX5_ok 1 (by decide)) rfl rfl (Nat.le_of_ble_eq_true rfl) rfl dX5_readInto_51 ?_
          refine V.hp (σ2 := (hU (RW σ k0 [(.inr (0, [.int (nI (kN K9)), .int (nI (kH K9)), .ref (k0 + 1), .ref (k0 + 2), .ref (k0 + 3), .ref (k0 + 4), .ref (k0 + 5)])), (aI G 3 (kT K9)), (aI G 3 (kW K9)), (aR 4 G 5 (kS K9)), (aI G 5 (kR K9)), (aI G 5 (kM K9))]) x0 (.inr (5, [.int (nI L), .int (nI r9), .int (nI i), .int (nI n9), .ref (x0 + 1), .int (opI o9), .int dj9])))) (hU_hU _ _ _ _) ?_
          refine r_iinc (v := nI (i + 1)) (lv2 := [(2, .int (nI (i + 1))), (0, .ref x0), (1, .ref k0)]) C dX5_readInto_54 (k := 2) rfl (nI_add _ 1) (by decide) rfl ?_
          refine r_goto (tgt := 17) C dX5_readInto_57 (by decide) ?_
          refine V.sub (lv2 := [(0, .ref x0), (1, .ref k0), (2, .int (nI (i + 1)))]) [1, 2, 0] rfl ?_
          exact ih17 (i + 1) r9 (nI i) o9 dj9 d9 n9 K9 a9 (by omega) (hKA9) (hA9) (hb9.2.2.2.2.1.trans hn1) (hb9.2.2.2.1.trans hsh1) (hS9.trans hS1) (fun k hk => by have := hb9.2.2.2.2.2 k hk; omega) (hdj9) (⟨by omega, by omega, hb9.1⟩) (rd_step hst1 c29 hpr) (by omega)
  refine V.sub (lv2 := [(0, .ref x0), (1, .ref k0), (2, .int (nI 0))]) [1, 2, 0] rfl ?_
  refine V.eq (σ2 := (hU (RW σ k0 [(.inr (0, [.int (nI (kN K)), .int (nI (kH K)), .ref (k0 + 1), .ref (k0 + 2), .ref (k0 + 3), .ref (k0 + 4), .ref (k0 + 5)])), (aI G 3 (kT K)), (aI G 3 (kW K)), (aR 4 G 5 (kS K)), (aI G 5 (kR K)), (aI G 5 (kM K))]) x0 (.inr (5, [.int (nI L), .int (nI 0), .int fp, .int (nI 0), .ref (x0 + 1), .int (opI none), .int dg])))) (lv2 := [(0, .ref x0), (1, .ref k0), (2, .int (nI 0))]) (st2 := []) rfl rfl rfl rfl ?_
  exact L17 _ 0 0 fp none dg 0 0 K a (by omega) (hKA) (hA) (rfl) (rfl) (rfl) (fun k hk => by cases hk) (Or.inl rfl) (by omega) (Or.inl ⟨rfl, rfl⟩) (Nat.lt_succ_self _)
