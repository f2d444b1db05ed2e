def ShelfR (tau : Nat → Option Rl) (fp fq fx : Nat → Option Nat) : Prop :=
  (∀ N la, N < 7 → fp N = some la → tau la = some (rLay 0 N)) ∧ (∀ N la, N < 6 → fq N = some la → tau la = some (rLay 1 N)) ∧
  ∀ kd N sr sa, kd < 4 → N < 7 → sr < 22 → fx (((kd * 7 + N) * 22) + sr) = some sa → ∃ la, tau sa = some (rShp kd N sr la) ∧ (if sid kd = true then fq N else fp N) = some la
def cnN (f : Nat → Option Nat) (R : Nat) : Nat := (List.range R).countP fun j => (f j).isNone
def mis (fp fq : Nat → Option Nat) : Nat := cnN fp 7 + cnN fq 6
theorem cnN_up {f : Nat → Option Nat} {k x : Nat} : ∀ R, (R ≤ k → cnN (va_up f k (some x)) R = cnN f R) ∧ (k < R → f k = none → cnN (va_up f k (some x)) R + 1 = cnN f R)
  | 0 => ⟨fun _ => rfl, fun h => absurd h (Nat.not_lt_zero k)⟩
  | R + 1 => by
    obtain ⟨h1, h2⟩ := cnN_up (f := f) (k := k) (x := x) R
    have hs : ∀ g : Nat → Option Nat, cnN g (R + 1) = cnN g R + (if (g R).isNone = true then 1 else 0) := fun g => by
      rw [cnN, cnN, List.range_succ, List.countP_append]
      simp [List.countP_cons]
    refine ⟨fun h => ?_, fun h h0 => ?_⟩
    · rw [hs, hs, h1 (by omega), show va_up f k (some x) R = f R by simp [va_up, show R ≠ k by omega]]
    · rw [hs, hs]
      rcases Nat.lt_or_eq_of_le (Nat.le_of_lt_succ h) with g | g
      · have := h2 g h0
        rw [show va_up f k (some x) R = f R by simp [va_up, show R ≠ k by omega]]
        omega
      · subst g
        rw [h1 (Nat.le_refl _), show va_up f k (some x) k = some x by simp [va_up], h0]
        simp
theorem mis_p {fp fq : Nat → Option Nat} {N x : Nat} (hN : N < 7) (h : fp N = none) : mis (va_up fp N (some x)) fq + 1 ≤ mis fp fq := by
  have := (cnN_up (f := fp) (k := N) (x := x) 7).2 hN h
  unfold mis
  omega
theorem mis_q {fp fq : Nat → Option Nat} {N x : Nat} (hN : N < 6) (h : fq N = none) : mis fp (va_up fq N (some x)) + 1 ≤ mis fp fq := by
  have := (cnN_up (f := fq) (k := N) (x := x) 6).2 hN h
  unfold mis
  omega
theorem mis_le (fp fq : Nat → Option Nat) : mis fp fq ≤ 13 := by
  have h1 := List.countP_le_length (p := fun j => (fp j).isNone) (l := List.range 7)
  have h2 := List.countP_le_length (p := fun j => (fq j).isNone) (l := List.range 6)
  rw [List.length_range] at h1 h2
  unfold mis cnN
  omega
theorem rLay_t {kd N : Nat} (h : sid kd = true) : rLay 1 N = rLay kd N := by
  have : kd % 2 = 1 := by simpa [sid] using h
  simp [rLay, this]
theorem rLay_f {kd N : Nat} (h : sid kd = false) : rLay 0 N = rLay kd N := by
  have : kd % 2 = 0 := by
    have : ¬ kd % 2 = 1 := by simpa [sid] using h
    omega
  simp [rLay, this]
theorem shelf_lay {tau : Nat → Option Rl} {fp fq fx : Nat → Option Nat} {kd N sr la : Nat} (h : ShelfR tau fp fq fx) (hs : shOK kd N sr) (hf : (if sid kd = true then fq else fp) N = some la) : tau la = some (rLay kd N) := by
  have hN := hs.2.2.1
  cases hb : sid kd with
  | true =>
    rw [hb] at hf hN
    have hN : N ≤ 5 := hN
    rw [← rLay_t hb]
    exact h.2.1 N la (by omega) hf
  | false =>
    rw [hb] at hf
    rw [← rLay_f hb]
    exact h.1 N la (by have := hs.N; omega) hf
theorem shelf_if {b : Bool} {fp fq : Nat → Option Nat} {N : Nat} : (if b = true then fq N else fp N) = (if b = true then fq else fp) N := by cases b <;> rfl
theorem shelf_new {tau tau2 : Nat → Option Rl} {fp fq fx : Nat → Option Nat} {kd N sr la sa : Nat} (h : ShelfR tau fp fq fx) (hm : ∀ q r1, tau q = some r1 → tau2 q = some r1) (hs : shOK kd N sr) (ht : tau2 sa = some (rShp kd N sr la)) (hf : (if sid kd = true then fq N else fp N) = some la) : ShelfR tau2 fp fq (va_up fx (((kd * 7 + N) * 22) + sr) (some sa)) := by
  obtain ⟨h1, h2, h3⟩ := h
  refine ⟨fun N la hN hl => hm _ _ (h1 N la hN hl), fun N la hN hl => hm _ _ (h2 N la hN hl), fun kd2 N2 sr2 sa2 g1 g2 g3 hx => ?_⟩
  have a1 := hs.1
  have a2 := hs.N
  have a3 := hs.sr
  by_cases e : ((kd2 * 7 + N2) * 22) + sr2 = ((kd * 7 + N) * 22) + sr
  · have e1 : kd2 = kd := by omega
    have e2 : N2 = N := by omega
    have e3 : sr2 = sr := by omega
    subst e1; subst e2; subst e3
    rw [va_up_s] at hx
    cases hx
    exact ⟨la, ht, hf⟩
  · simp only [va_up, if_neg e] at hx
    obtain ⟨l2, t1, t2⟩ := h3 kd2 N2 sr2 sa2 g1 g2 g3 hx
    exact ⟨l2, hm _ _ t1, t2⟩
theorem shelf_lay1 {tau tau2 : Nat → Option Rl} {fp fq fx : Nat → Option Nat} {kd N x : Nat} (h : ShelfR tau fp fq fx) (hm : ∀ q r1, tau q = some r1 → tau2 q = some r1) (hb : sid kd = true) (hn : fq N = none) (ht : tau2 x = some (rLay kd N)) : ShelfR tau2 fp (va_up fq N (some x)) fx := by
  obtain ⟨h1, h2, h3⟩ := h
  refine ⟨fun N la hN hl => hm _ _ (h1 N la hN hl), fun N2 la hN hl => ?_, fun kd2 N2 sr2 sa2 g1 g2 g3 hx => ?_⟩
  · by_cases e : N2 = N
    · subst e
      rw [va_up_s] at hl
      cases hl
      rw [rLay_t hb]; exact ht
    · simp only [va_up, if_neg e] at hl
      exact hm _ _ (h2 N2 la hN hl)
  · obtain ⟨l2, t1, t2⟩ := h3 kd2 N2 sr2 sa2 g1 g2 g3 hx
    refine ⟨l2, hm _ _ t1, ?_⟩
    cases e : sid kd2 with
    | false => rw [e] at t2; exact t2
    | true =>
      rw [e] at t2
      have t2 : fq N2 = some l2 := t2
      have : N2 ≠ N := fun z => by rw [z, hn] at t2; cases t2
      show va_up fq N (some x) N2 = some l2
      simp [va_up, this, t2]
theorem shelf_lay0 {tau tau2 : Nat → Option Rl} {fp fq fx : Nat → Option Nat} {kd N x : Nat} (h : ShelfR tau fp fq fx) (hm : ∀ q r1, tau q = some r1 → tau2 q = some r1) (hb : sid kd = false) (hn : fp N = none) (ht : tau2 x = some (rLay kd N)) : ShelfR tau2 (va_up fp N (some x)) fq fx := by
  obtain ⟨h1, h2, h3⟩ := h
  refine ⟨fun N2 la hN hl => ?_, fun N la hN hl => hm _ _ (h2 N la hN hl), fun kd2 N2 sr2 sa2 g1 g2 g3 hx => ?_⟩
  · by_cases e : N2 = N
    · subst e
      rw [va_up_s] at hl
      cases hl
      rw [rLay_f hb]; exact ht
    · simp only [va_up, if_neg e] at hl
      exact hm _ _ (h1 N2 la hN hl)
  · obtain ⟨l2, t1, t2⟩ := h3 kd2 N2 sr2 sa2 g1 g2 g3 hx
    refine ⟨l2, hm _ _ t1, ?_⟩
    cases e : sid kd2 with
    | true => rw [e] at t2; exact t2
    | false =>
      rw [e] at t2
      have t2 : fp N2 = some l2 := t2
      have : N2 ≠ N := fun z => by rw [z, hn] at t2; cases t2
      show va_up fp N (some x) N2 = some l2
      simp [va_up, this, t2]
abbrev rm_X3_shape_dk : Room := { frames := 10, cells := 2, slots := 3846, locals := 700 }
set_option maxRecDepth 100000 in
set_option maxHeartbeats 4000000 in
theorem c_X3_shape_dk {l : Launch} {G : gG} {n : Nat} {σ : gS} {h0 : Nat} {kd N sr : Nat} {fp fq fx : Nat → Option Nat} {B : Nat} {tau : Nat → Option Rl} (hc0 : σ h0 = some (.inr (3, [.ref (h0 + 1), .ref (h0 + 2), .ref (h0 + 3)]))) (hc1 : σ (h0 + 1) = some (aR 3 G 7 fp)) (hc2 : σ (h0 + 2) = some (aR 3 G 6 fq)) (hc3 : σ (h0 + 3) = some (aR 4 G 616 fx)) (hD : DynI G B n σ tau) (hBn : B ≤ n) (hSR : ShelfR tau fp fq fx) (hso : shOK kd N sr) (hB0 : h0 + 4 ≤ B) (hkn : (if sid kd = true then fq else fp) N ≠ none) : GM l G yX3_shape cX3_shape 6 (some (.object "TurnTops$Shape")) rm_X3_shape_dk n σ [.ref h0, .int (nI kd), .int (nI N), .int (nI sr)] (fun rv n2 σ2 => ∃ (sa : Nat) (la : Nat) (tau2 : Nat → Option Rl) (fp2 : Nat → Option Nat) (fq2 : Nat → Option Nat) (fx2 : Nat → Option Nat), some (.ref sa) = rv ∧ n ≤ n2 ∧ n2 ≤ n + 2 ∧ (∀ q, q < B → q ≠ h0 + 1 → q ≠ h0 + 2 → q ≠ h0 + 3 → σ2 q = σ q) ∧ (DynI G B n2 σ2 tau2) ∧ (∀ q r1, tau q = some r1 → tau2 q = some r1) ∧ (tau2 sa = some (rShp kd N sr la)) ∧ (ShelfR tau2 fp2 fq2 fx2) ∧ (σ2 (h0 + 1) = some (aR 3 G 7 fp2)) ∧ (σ2 (h0 + 2) = some (aR 3 G 6 fq2)) ∧ (σ2 (h0 + 3) = some (aR 4 G 616 fx2)) ∧ (mis fp2 fq2 ≤ mis fp fq)) := by
  have hL := hso.L
  have hb9 := hL.b
  have hN6 := hso.N
  have hkd := hso.1
  have hsr := hso.sr
  have hNx := hso.2.2.1
  have hka : σ (if sid kd = true then h0 + 2 else h0 + 1) = some (aR 3 G (if sid kd = true then 6 else 7) (if sid kd = true then fq else fp)) := by cases sid kd with | true => exact hc2 | false => exact hc1
  have hk2 : (if sid kd = true then h0 + 2 else h0 + 1) = h0 + 1 ∨ (if sid kd = true then h0 + 2 else h0 + 1) = h0 + 2 := by cases sid kd with | true => exact Or.inr rfl | false => exact Or.inl rfl
  have hln : N < (if sid kd = true then 6 else 7) ∧ (if sid kd = true then 6 else 7) < 100 := by
    revert hNx
    cases sid kd with
    | true => intro hNx; exact ⟨by have : N ≤ 5 := hNx; show N < 6; omega, by decide⟩
    | false => intro hNx; exact ⟨by show N < 7; omega, by decide⟩
  cases hfk : (if sid kd = true then fq else fp) N with
  | none => exact absurd hfk hkn
  | some la =>
    have tla := shelf_lay hSR hso hfk
    cases hfx : fx (((kd * 7 + N) * 22) + sr) with
    | some sa =>
      obtain ⟨la2, t1, t2⟩ := hSR.2.2 kd N sr sa hkd (by omega) (by omega) hfx
      refine GM.post (GM.room2 (c_X3_shape_kk (h0 := h0) (ka := if sid kd = true then h0 + 2 else h0 + 1) (ln := if sid kd = true then 6 else 7) (kd := kd) (N := N) (sr := sr) (fk := if sid kd = true then fq else fp) (fx := fx) (la := la) (sa := sa) hc0 hka hc3 hso rfl hk2 hln hfk hfx) (Nat.le_of_ble_eq_true rfl) (Nat.le_of_ble_eq_true rfl) (Nat.le_of_ble_eq_true rfl) (Nat.le_of_ble_eq_true rfl)) (fun v n' σ' hp => ?_)
      obtain ⟨rfl, rfl, rfl⟩ := hp
      exact ⟨sa, la2, tau, fp, fq, fx, rfl, Nat.le_refl _, by omega, fun q _ _ _ _ => rfl, hD, fun _ _ h => h, t1, hSR, hc1, hc2, hc3, Nat.le_refl _⟩
    | none =>
      obtain ⟨hLL, cfl, f1, f2, f3, f4, z0, z1, z2, z3, z4, g1, g2, g3, g4⟩ := hD.2.2.1 _ _ _ tla
      have b1 := hD.1 _ _ tla
      have w1 : wid (rLay kd N) = 5 := rfl
      refine GM.post (GM.room2 (c_X3_shape_kn (h0 := h0) (ka := if sid kd = true then h0 + 2 else h0 + 1) (ln := if sid kd = true then 6 else 7) (kd := kd) (N := N) (sr := sr) (fk := if sid kd = true then fq else fp) (fx := fx) (la := la) (cfl := cfl) (f2 := f2) (f4 := f4) hc0 hka hc3 z0 z2 z4 hso rfl hk2 hln hfk hfx g2 g4 (by omega) (by omega)) (Nat.le_of_ble_eq_true rfl) (Nat.le_of_ble_eq_true rfl) (Nat.le_of_ble_eq_true rfl) (Nat.le_of_ble_eq_true rfl)) (fun v n' σ' hp => ?_)
      obtain ⟨rfl, rfl, g5, e3, hg5⟩ := hp
      have hlo : ∀ q, q < n → q ≠ h0 + 3 → σ' q = σ q := fun q hq hne => by rw [← e3, hU_ne hne, RW_ne (m := 2) rfl (by omega)]
      have hP := hD.put (τ := σ') (r := rShp kd N sr la) (n2 := n + 2) hBn (Nat.le_refl _) (fun q h1 h2 => hlo q h2 (by omega)) (fun _ _ h => by cases h) (fun kd2 N2 sr2 la2 h => by cases h; exact ⟨⟨hso, by rw [← e3, hU_ne (by omega)]; exact RW_at0 rfl, g5, by rw [← e3, hU_ne (by omega)]; exact RW_at 1 rfl, hg5⟩, tla⟩) (fun _ _ _ _ _ h => by cases h)
      exact ⟨n, la, _, fp, fq, _, rfl, by omega, Nat.le_refl _, fun q h1 _ _ h4 => hlo q (by omega) h4, hP.1, hP.2, by simp [va_up], shelf_new (sa := n) (la := la) hSR hP.2 hso (by simp [va_up]) (by rw [← hfk]; cases sid kd <;> rfl), (hlo _ (by omega) (by omega)).trans hc1, (hlo _ (by omega) (by omega)).trans hc2, by rw [← e3]; exact hU_at _ _ _, Nat.le_refl _⟩

abbrev rm_X3_shape_dn : Room := { frames := 10, cells := 7, slots := 31935, locals := 700 }
set_option maxRecDepth 100000 in
set_option maxHeartbeats 4000000 in
theorem c_X3_shape_dn {l : Launch} {G : gG} {n : Nat} {σ : gS} {h0 : Nat} {kd N sr : Nat} {fp fq fx : Nat → Option Nat} {B : Nat} {tau : Nat → Option Rl} (hc0 : σ h0 = some (.inr (3, [.ref (h0 + 1), .ref (h0 + 2), .ref (h0 + 3)]))) (hc1 : σ (h0 + 1) = some (aR 3 G 7 fp)) (hc2 : σ (h0 + 2) = some (aR 3 G 6 fq)) (hc3 : σ (h0 + 3) = some (aR 4 G 616 fx)) (hD : DynI G B n σ tau) (hBn : B ≤ n) (hSR : ShelfR tau fp fq fx) (hso : shOK kd N sr) (hB0 : h0 + 4 ≤ B) (hkn : (if sid kd = true then fq else fp) N = none) : GM l G yX3_shape cX3_shape 6 (some (.object "TurnTops$Shape")) rm_X3_shape_dn n σ [.ref h0, .int (nI kd), .int (nI N), .int (nI sr)] (fun rv n2 σ2 => ∃ (sa : Nat) (la : Nat) (tau2 : Nat → Option Rl) (fp2 : Nat → Option Nat) (fq2 : Nat → Option Nat) (fx2 : Nat → Option Nat), some (.ref sa) = rv ∧ n ≤ n2 ∧ n2 ≤ n + 7 ∧ (∀ q, q < B → q ≠ h0 + 1 → q ≠ h0 + 2 → q ≠ h0 + 3 → σ2 q = σ q) ∧ (DynI G B n2 σ2 tau2) ∧ (∀ q r1, tau q = some r1 → tau2 q = some r1) ∧ (tau2 sa = some (rShp kd N sr la)) ∧ (ShelfR tau2 fp2 fq2 fx2) ∧ (σ2 (h0 + 1) = some (aR 3 G 7 fp2)) ∧ (σ2 (h0 + 2) = some (aR 3 G 6 fq2)) ∧ (σ2 (h0 + 3) = some (aR 4 G 616 fx2)) ∧ (mis fp2 fq2 + 1 ≤ mis fp fq)) := by
  have hL := hso.L
  have hb9 := hL.b
  have hN6 := hso.N
  have hkd := hso.1
  have hsr := hso.sr
  have hNx := hso.2.2.1
  have hka : σ (if sid kd = true then h0 + 2 else h0 + 1) = some (aR 3 G (if sid kd = true then 6 else 7) (if sid kd = true then fq else fp)) := by cases sid kd with | true => exact hc2 | false => exact hc1
  have hk2 : (if sid kd = true then h0 + 2 else h0 + 1) = h0 + 1 ∨ (if sid kd = true then h0 + 2 else h0 + 1) = h0 + 2 := by cases sid kd with | true => exact Or.inr rfl | false => exact Or.inl rfl
  have hln : N < (if sid kd = true then 6 else 7) ∧ (if sid kd = true then 6 else 7) < 100 := by
    revert hNx
    cases sid kd with
    | true => intro hNx; exact ⟨by have : N ≤ 5 := hNx; show N < 6; omega, by decide⟩
    | false => intro hNx; exact ⟨by show N < 7; omega, by decide⟩
  have hfx : fx (((kd * 7 + N) * 22) + sr) = none := by
    cases e : fx (((kd * 7 + N) * 22) + sr) with
    | none => rfl
    | some sa =>
      obtain ⟨la2, t1, t2⟩ := hSR.2.2 kd N sr sa hkd (by omega) (by omega) e
      rw [shelf_if] at t2
      rw [hkn] at t2
      cases t2
  refine GM.post (GM.room2 (c_X3_shape_nn (h0 := h0) (ka := if sid kd = true then h0 + 2 else h0 + 1) (ln := if sid kd = true then 6 else 7) (kd := kd) (N := N) (sr := sr) (fk := if sid kd = true then fq else fp) (fx := fx) hc0 hka hc3 hso rfl hk2 hln hkn hfx (by omega)) (Nat.le_of_ble_eq_true rfl) (Nat.le_of_ble_eq_true rfl) (Nat.le_of_ble_eq_true rfl) (Nat.le_of_ble_eq_true rfl)) (fun v n' σ' hp => ?_)
  obtain ⟨rfl, rfl, cfl, g1, g2, g3, g4, g5, e3, q1, q2, q3, q4, q5⟩ := hp
  have hlo : ∀ q, q < n → q ≠ h0 + 3 → q ≠ (if sid kd = true then h0 + 2 else h0 + 1) → σ' q = σ q := fun q hq h1 h2 => by rw [← e3, hU_ne h1, RW_ne (m := 2) rfl (by omega), hU_ne h2, RW_ne (m := 5) rfl (by omega)]
  have hmid : ∀ k, k < 5 → σ' (n + k) = RW σ n [(.inr (1, [.int (nI N), .int (nI (rR (sid kd) N)), .int (nI (sbN (sid kd) N)), .int (nI (sm (sid kd) N - 1)), .ref (n + 1), .ref (n + 2), .ref (n + 3), .ref (n + 4)])), (aI G (fac N) g1), (aI G (fac N * N) g2), (aI G (rR (sid kd) N * N) g3), (aI G (rR (sid kd) N) g4)] (n + k) := fun k hk => by rw [← e3, hU_ne (by omega), RW_ne (m := 2) rfl (by omega), hU_ne (by omega)]
  have hP := hD.put (τ := σ') (r := rLay kd N) (n2 := n + 5) hBn (Nat.le_refl _) (fun q h1 h2 => hlo q h2 (by omega) (by omega)) (fun kd2 N2 h => by
    have e1 : kd % 2 = kd2 % 2 := congrArg (fun z : Rl => z.2.1) h
    have e2 : N = N2 := congrArg (fun z : Rl => z.2.2.1) h
    subst e2
    rw [show sid kd2 = sid kd by rw [← sid_2 kd2, ← e1, sid_2]]
    exact ⟨hL, cfl, g1, g2, g3, g4, (hmid 0 (by omega)).trans (RW_at0 rfl), (hmid 1 (by omega)).trans (RW_at 1 rfl), (hmid 2 (by omega)).trans (RW_at 2 rfl), (hmid 3 (by omega)).trans (RW_at 3 rfl), (hmid 4 (by omega)).trans (RW_at 4 rfl), q1, q2, q3, q4⟩) (fun _ _ _ _ h => by cases h) (fun _ _ _ _ _ h => by cases h)
  have tla : va_up tau n (some (rLay kd N)) n = some (rLay kd N) := by simp [va_up]
  have hP2 := hP.1.put (τ := σ') (r := rShp kd N sr n) (n2 := n + 7) (by omega) (Nat.le_refl _) (fun q h1 h2 => rfl) (fun _ _ h => by cases h) (fun kd2 N2 sr2 la2 h => by cases h; exact ⟨⟨hso, by rw [← e3, hU_ne (by omega)]; exact RW_at0 rfl, g5, by rw [← e3, hU_ne (by omega)]; exact RW_at 1 rfl, q5⟩, tla⟩) (fun _ _ _ _ _ h => by cases h)
  have hmo : ∀ q r1, tau q = some r1 → va_up (va_up tau n (some (rLay kd N))) (n + 5) (some (rShp kd N sr n)) q = some r1 := fun q r1 h => hP2.2 _ _ (hP.2 _ _ h)
  have hka2 : σ' (if sid kd = true then h0 + 2 else h0 + 1) = some (aR 3 G (if sid kd = true then 6 else 7) (va_up (if sid kd = true then fq else fp) N (some n))) := by rw [← e3, hU_ne (by omega), RW_ne (m := 2) rfl (by omega), hU_at]
  have hx3 : σ' (h0 + 3) = some (aR 4 G 616 (va_up fx (((kd * 7 + N) * 22) + sr) (some (n + 5)))) := by rw [← e3]; exact hU_at _ _ _
  have tla2 := hP2.2 _ _ tla
  cases hb : sid kd with
  | true =>
    rw [hb] at hka2 hkn hlo hNx
    have hNx : N ≤ 5 := hNx
    have hSR1 := shelf_lay1 hSR hmo hb (show fq N = none from hkn) tla2
    exact ⟨n + 5, n, _, fp, va_up fq N (some n), _, rfl, by omega, Nat.le_refl _, fun q h1 h2 h3 h4 => hlo q (by omega) h4 h3, hP2.1, hmo, by simp [va_up], shelf_new (sa := n + 5) (la := n) hSR1 (fun _ _ h => h) hso (by simp [va_up]) (by rw [hb]; exact va_up_s), (hlo _ (by omega) (by omega) (by show h0 + 1 ≠ h0 + 2; omega)).trans hc1, hka2, hx3, mis_q (by omega) hkn⟩
  | false =>
    rw [hb] at hka2 hkn hlo
    have hSR1 := shelf_lay0 hSR hmo hb (show fp N = none from hkn) tla2
    exact ⟨n + 5, n, _, va_up fp N (some n), fq, _, rfl, by omega, Nat.le_refl _, fun q h1 h2 h3 h4 => hlo q (by omega) h4 h2, hP2.1, hmo, by simp [va_up], shelf_new (sa := n + 5) (la := n) hSR1 (fun _ _ h => h) hso (by simp [va_up]) (by rw [hb]; exact va_up_s), hka2, (hlo _ (by omega) (by omega) (by show h0 + 2 ≠ h0 + 1; omega)).trans hc2, hx3, mis_p (by omega) hkn⟩
