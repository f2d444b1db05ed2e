theorem GM.room2 {l : Launch} {G : gG} {y : MethodName} {cc : ByteArray} {maxL : Nat} {ret : Option FieldType} {rm rm2 : Room} {n : Nat} {σ : gS} {av : List Value} {P : Option Value → Nat → gS → Prop} (h : GM l G y cc maxL ret rm n σ av P) (h1 : rm.frames ≤ rm2.frames) (h2 : rm.locals ≤ rm2.locals) (h3 : rm.cells ≤ rm2.cells) (h4 : rm.slots ≤ rm2.slots) : GM l G y cc maxL ret rm2 n σ av P := by
  intro p e ha hc hk s m args below hf happ hP hT
  have happ2 : (headSpec (wm y cc maxL ret) rm).appliesLoose y e.platform s = true := by
    have g := (Spec.appliesLoose_iff hf).mp happ
    exact (Spec.appliesLoose_iff hf).mpr ⟨g.1, g.2.1, g.2.2.1, g.2.2.2.1, g.2.2.2.2.1, g.2.2.2.2.2.1, State.hasRoom_le g.2.2.2.2.2.2.1 h1 h2 h3 h4, g.2.2.2.2.2.2.2⟩
  obtain ⟨k, o, a1, a2, a3, a4, L, ⟨b1, b2, b3⟩, b4⟩ := h p e ha hc hk s m args below hf happ2 hP hT
  exact ⟨k, o, a1, a2, a3, a4, L, ⟨b1, b2, ⟨b3.1, b3.2.1, Nat.le_trans b3.2.2.1 (Nat.add_le_add_left h3 _), b3.2.2.2.1, Nat.le_trans b3.2.2.2.2.1 h4, b3.2.2.2.2.2⟩⟩, b4⟩
abbrev rm_X2_solver_d : Room := { frames := 4, cells := 3, slots := 7686, locals := 110 }
set_option maxRecDepth 100000 in
set_option maxHeartbeats 4000000 in
theorem c_X2_solver_d {l : Launch} {G : gG} {n : Nat} {σ : gS} {sa la : Nat} {kd N sr : Nat} {B : Nat} {tau : Nat → Option Rl}  (hD : DynI G B n σ tau) (hBn : B ≤ n) (hsa : tau sa = some (rShp kd N sr la)) : GM l G yX2_solver cX2_solver 1 (some (.object "TurnTops$Solver")) rm_X2_solver_d n σ [.ref sa] (fun rv n2 σ2 => ∃ (va : Nat) (tau2 : Nat → Option Rl), some (.ref va) = rv ∧ n ≤ n2 ∧ n2 ≤ n + 3 ∧ (∀ q, q < B → σ2 q = σ q) ∧ (DynI G B n2 σ2 tau2) ∧ (∀ q r1, tau q = some r1 → tau2 q = some r1) ∧ (tau2 va = some (rSol kd N sr la sa))) := by
  obtain ⟨sv, ⟨hso, x0, f5, x1, g5⟩, tla, hsv⟩ := hD.2.2.2.1 _ _ _ _ _ hsa
  obtain ⟨hL, cfl, f1, f2, f3, f4, z0, z1, z2, z3, z4, g1, g2, g3, g4⟩ := hD.2.2.1 _ _ _ tla
  have b2 := hD.1 _ _ hsa
  have b3 := hD.1 _ _ tla
  have w2 : wid (rShp kd N sr la) = 2 := rfl
  have w3 : wid (rLay kd N) = 5 := rfl
  rcases hsv with rfl | ⟨va, rfl, tva⟩
  · refine GM.post (GM.room2 (c_X2_solver_n (sa := sa) (la := la) (kd := kd) (N := N) (sr := sr) (cfl := cfl) x0 z0 hL (by omega) (by omega)) (Nat.le_of_ble_eq_true rfl) (Nat.le_of_ble_eq_true rfl) (Nat.le_of_ble_eq_true rfl) (Nat.le_of_ble_eq_true rfl)) (fun v n' σ' hp => ?_)
    obtain ⟨rfl, rfl, e3⟩ := hp
    have hlo : ∀ q, q < n → q ≠ sa → σ' q = σ q := fun q hq hne => by rw [← e3, hU_ne hne, RW_ne (m := 3) rfl (by omega)]
    have hD2 := hD.sol (τ := σ') hBn hsa ⟨false, false, _, _, by rw [← e3, hU_ne (by omega)]; exact RW_at0 rfl, by rw [← e3, hU_ne (by omega)]; exact RW_at 1 rfl, by rw [← e3, hU_ne (by omega)]; exact RW_at 2 rfl, fun z => absurd z (by decide), fun z => absurd z (by decide)⟩ ⟨hso, by rw [← e3]; exact hU_at _ _ _, f5, by rw [hlo _ (by omega) (by omega)]; exact x1, g5⟩ (fun q h1 h2 h3 => hlo q h2 (by omega))
    exact ⟨n, _, rfl, by omega, by omega, fun q hq => hlo q (by omega) (by omega), hD2.1, hD2.2, by simp [va_up]⟩
  · refine GM.post (GM.room2 (c_X2_solver_y (sa := sa) (la := la) (va := va) (kd := kd) (N := N) (sr := sr) x0 hL) (Nat.le_of_ble_eq_true rfl) (Nat.le_of_ble_eq_true rfl) (Nat.le_of_ble_eq_true rfl) (Nat.le_of_ble_eq_true rfl)) (fun v n' σ' hp => ?_)
    obtain ⟨rfl, rfl, rfl⟩ := hp
    exact ⟨va, tau, rfl, Nat.le_refl _, by omega, fun q _ => rfl, hD, fun _ _ h => h, tva⟩

abbrev rm_X4_sortingRows_d0 : Room := { frames := 12, cells := 0, slots := 0, locals := 1200 }
set_option maxRecDepth 100000 in
set_option maxHeartbeats 4000000 in
theorem c_X4_sortingRows_d0 {l : Launch} {G : gG} {n : Nat} {σ : gS} {va sa la : Nat} {kd N sr : Nat} {B : Nat} {tau : Nat → Option Rl} {r : Nat}  (hD : DynI G B n σ tau) (hBn : B ≤ n) (hva : tau va = some (rSol kd N sr la sa)) (hrk : r < rR (sid kd) N) : GM l G yX4_sortingRows cX4_sortingRows 3 (some .int) rm_X4_sortingRows_d0 n σ [.ref va, .int (nI r), .int (nI 0)] (fun rv n2 σ2 => some (.int (nI (wy kd sr N 0 r))) = rv ∧ n ≤ n2 ∧ n2 ≤ n + 0 ∧ (∀ q, q < B → σ2 q = σ q) ∧ (DynI G B n2 σ2 tau)) := by
  obtain ⟨⟨tk, wk, f6, f7, y0, y1, y2, htk, hwk⟩, tsa, tla⟩ := hD.2.2.2.2 _ _ _ _ _ _ hva
  obtain ⟨sv, ⟨hso, x0, f5, x1, g5⟩, -, -⟩ := hD.2.2.2.1 _ _ _ _ _ tsa
  obtain ⟨hL, cfl, f1, f2, f3, f4, z0, z1, z2, z3, z4, g1, g2, g3, g4⟩ := hD.2.2.1 _ _ _ tla
  have b1 := hD.1 _ _ hva
  have b2 := hD.1 _ _ tsa
  have b3 := hD.1 _ _ tla
  have w1 : wid (rSol kd N sr la sa) = 3 := rfl
  have w2 : wid (rShp kd N sr la) = 2 := rfl
  have w3 : wid (rLay kd N) = 5 := rfl
  have d1 := hD.2.1 _ _ _ _ hva tsa (fun z => by rw [z, tsa] at hva; cases hva)
  have d2 := hD.2.1 _ _ _ _ hva tla (fun z => by rw [z, tla] at hva; cases hva)
  refine GM.post (GM.room2 (c_X4_sortingRows_0 (va := va) (sa := sa) (la := la) (kd := kd) (N := N) (sr := sr) (cfl := cfl) (sv := sv) (tk := tk) (wk := wk) (f3 := f3) (f4 := f4) (f5 := f5) (r := r) y0 x0 x1 z0 z3 z4 hL g5 g3 g4 hrk) (Nat.le_of_ble_eq_true rfl) (Nat.le_of_ble_eq_true rfl) (Nat.le_of_ble_eq_true rfl) (Nat.le_of_ble_eq_true rfl)) (fun v n' σ' hp => ?_)
  obtain ⟨rfl, rfl, rfl⟩ := hp
  exact ⟨rfl, Nat.le_refl _, Nat.le_refl _, fun q _ => rfl, hD⟩

abbrev rm_X4_sortingRows_d1 : Room := { frames := 12, cells := 0, slots := 0, locals := 1200 }
set_option maxRecDepth 100000 in
set_option maxHeartbeats 4000000 in
theorem c_X4_sortingRows_d1 {l : Launch} {G : gG} {n : Nat} {σ : gS} {va sa la : Nat} {kd N sr : Nat} {B : Nat} {tau : Nat → Option Rl} {r : Nat}  (hD : DynI G B n σ tau) (hBn : B ≤ n) (hva : tau va = some (rSol kd N sr la sa)) (hrk : r < rR (sid kd) N) : GM l G yX4_sortingRows cX4_sortingRows 3 (some .int) rm_X4_sortingRows_d1 n σ [.ref va, .int (nI r), .int (nI 1)] (fun rv n2 σ2 => some (.int (nI (wy kd sr N 1 r))) = rv ∧ n ≤ n2 ∧ n2 ≤ n + 0 ∧ (∀ q, q < B → σ2 q = σ q) ∧ (DynI G B n2 σ2 tau)) := by
  obtain ⟨⟨tk, wk, f6, f7, y0, y1, y2, htk, hwk⟩, tsa, tla⟩ := hD.2.2.2.2 _ _ _ _ _ _ hva
  obtain ⟨sv, ⟨hso, x0, f5, x1, g5⟩, -, -⟩ := hD.2.2.2.1 _ _ _ _ _ tsa
  obtain ⟨hL, cfl, f1, f2, f3, f4, z0, z1, z2, z3, z4, g1, g2, g3, g4⟩ := hD.2.2.1 _ _ _ tla
  have b1 := hD.1 _ _ hva
  have b2 := hD.1 _ _ tsa
  have b3 := hD.1 _ _ tla
  have w1 : wid (rSol kd N sr la sa) = 3 := rfl
  have w2 : wid (rShp kd N sr la) = 2 := rfl
  have w3 : wid (rLay kd N) = 5 := rfl
  have d1 := hD.2.1 _ _ _ _ hva tsa (fun z => by rw [z, tsa] at hva; cases hva)
  have d2 := hD.2.1 _ _ _ _ hva tla (fun z => by rw [z, tla] at hva; cases hva)
  refine GM.post (GM.room2 (c_X4_sortingRows_1 (va := va) (sa := sa) (la := la) (kd := kd) (N := N) (sr := sr) (cfl := cfl) (sv := sv) (tk := tk) (wk := wk) (f3 := f3) (f4 := f4) (f5 := f5) (r := r) y0 x0 x1 z0 z3 z4 hL g5 g3 g4 hrk) (Nat.le_of_ble_eq_true rfl) (Nat.le_of_ble_eq_true rfl) (Nat.le_of_ble_eq_true rfl) (Nat.le_of_ble_eq_true rfl)) (fun v n' σ' hp => ?_)
  obtain ⟨rfl, rfl, rfl⟩ := hp
  exact ⟨rfl, Nat.le_refl _, Nat.le_refl _, fun q _ => rfl, hD⟩

abbrev rm_X4_sortingRows_d2 : Room := { frames := 12, cells := 0, slots := 0, locals := 1200 }
set_option maxRecDepth 100000 in
set_option maxHeartbeats 4000000 in
theorem c_X4_sortingRows_d2 {l : Launch} {G : gG} {n : Nat} {σ : gS} {va sa la : Nat} {kd N sr : Nat} {B : Nat} {tau : Nat → Option Rl} {r : Nat}  (hD : DynI G B n σ tau) (hBn : B ≤ n) (hva : tau va = some (rSol kd N sr la sa)) (hrk : r < rR (sid kd) N) : GM l G yX4_sortingRows cX4_sortingRows 3 (some .int) rm_X4_sortingRows_d2 n σ [.ref va, .int (nI r), .int (nI 2)] (fun rv n2 σ2 => some (.int (nI (wy kd sr N 2 r))) = rv ∧ n ≤ n2 ∧ n2 ≤ n + 0 ∧ (∀ q, q < B → σ2 q = σ q) ∧ (DynI G B n2 σ2 tau)) := by
  obtain ⟨⟨tk, wk, f6, f7, y0, y1, y2, htk, hwk⟩, tsa, tla⟩ := hD.2.2.2.2 _ _ _ _ _ _ hva
  obtain ⟨sv, ⟨hso, x0, f5, x1, g5⟩, -, -⟩ := hD.2.2.2.1 _ _ _ _ _ tsa
  obtain ⟨hL, cfl, f1, f2, f3, f4, z0, z1, z2, z3, z4, g1, g2, g3, g4⟩ := hD.2.2.1 _ _ _ tla
  have b1 := hD.1 _ _ hva
  have b2 := hD.1 _ _ tsa
  have b3 := hD.1 _ _ tla
  have w1 : wid (rSol kd N sr la sa) = 3 := rfl
  have w2 : wid (rShp kd N sr la) = 2 := rfl
  have w3 : wid (rLay kd N) = 5 := rfl
  have d1 := hD.2.1 _ _ _ _ hva tsa (fun z => by rw [z, tsa] at hva; cases hva)
  have d2 := hD.2.1 _ _ _ _ hva tla (fun z => by rw [z, tla] at hva; cases hva)
  refine GM.post (GM.room2 (c_X4_sortingRows_2 (va := va) (sa := sa) (la := la) (kd := kd) (N := N) (sr := sr) (cfl := cfl) (sv := sv) (tk := tk) (wk := wk) (f3 := f3) (f4 := f4) (f5 := f5) (r := r) y0 x0 x1 z0 z3 z4 hL g5 g3 g4 hrk) (Nat.le_of_ble_eq_true rfl) (Nat.le_of_ble_eq_true rfl) (Nat.le_of_ble_eq_true rfl) (Nat.le_of_ble_eq_true rfl)) (fun v n' σ' hp => ?_)
  obtain ⟨rfl, rfl, rfl⟩ := hp
  exact ⟨rfl, Nat.le_refl _, Nat.le_refl _, fun q _ => rfl, hD⟩

abbrev rm_X4_sortingRows_d3 : Room := { frames := 12, cells := 0, slots := 0, locals := 1200 }
set_option maxRecDepth 100000 in
set_option maxHeartbeats 4000000 in
theorem c_X4_sortingRows_d3 {l : Launch} {G : gG} {n : Nat} {σ : gS} {va sa la : Nat} {kd N sr : Nat} {B : Nat} {tau : Nat → Option Rl} {r : Nat}  (hD : DynI G B n σ tau) (hBn : B ≤ n) (hva : tau va = some (rSol kd N sr la sa)) (hrk : r < rR (sid kd) N) : GM l G yX4_sortingRows cX4_sortingRows 3 (some .int) rm_X4_sortingRows_d3 n σ [.ref va, .int (nI r), .int (nI 3)] (fun rv n2 σ2 => some (.int (nI (wy kd sr N 3 r))) = rv ∧ n ≤ n2 ∧ n2 ≤ n + 0 ∧ (∀ q, q < B → σ2 q = σ q) ∧ (DynI G B n2 σ2 tau)) := by
  obtain ⟨⟨tk, wk, f6, f7, y0, y1, y2, htk, hwk⟩, tsa, tla⟩ := hD.2.2.2.2 _ _ _ _ _ _ hva
  obtain ⟨sv, ⟨hso, x0, f5, x1, g5⟩, -, -⟩ := hD.2.2.2.1 _ _ _ _ _ tsa
  obtain ⟨hL, cfl, f1, f2, f3, f4, z0, z1, z2, z3, z4, g1, g2, g3, g4⟩ := hD.2.2.1 _ _ _ tla
  have b1 := hD.1 _ _ hva
  have b2 := hD.1 _ _ tsa
  have b3 := hD.1 _ _ tla
  have w1 : wid (rSol kd N sr la sa) = 3 := rfl
  have w2 : wid (rShp kd N sr la) = 2 := rfl
  have w3 : wid (rLay kd N) = 5 := rfl
  have d1 := hD.2.1 _ _ _ _ hva tsa (fun z => by rw [z, tsa] at hva; cases hva)
  have d2 := hD.2.1 _ _ _ _ hva tla (fun z => by rw [z, tla] at hva; cases hva)
  refine GM.post (GM.room2 (c_X4_sortingRows_3 (va := va) (sa := sa) (la := la) (kd := kd) (N := N) (sr := sr) (cfl := cfl) (sv := sv) (tk := tk) (wk := wk) (f3 := f3) (f4 := f4) (f5 := f5) (r := r) y0 x0 x1 z0 z3 z4 hL g5 g3 g4 hrk) (Nat.le_of_ble_eq_true rfl) (Nat.le_of_ble_eq_true rfl) (Nat.le_of_ble_eq_true rfl) (Nat.le_of_ble_eq_true rfl)) (fun v n' σ' hp => ?_)
  obtain ⟨rfl, rfl, rfl⟩ := hp
  exact ⟨rfl, Nat.le_refl _, Nat.le_refl _, fun q _ => rfl, hD⟩

abbrev rm_X4_sortingRows_d4 : Room := { frames := 12, cells := 0, slots := 0, locals := 1200 }
set_option maxRecDepth 100000 in
set_option maxHeartbeats 4000000 in
theorem c_X4_sortingRows_d4 {l : Launch} {G : gG} {n : Nat} {σ : gS} {va sa la : Nat} {kd N sr : Nat} {B : Nat} {tau : Nat → Option Rl} {r : Nat}  (hD : DynI G B n σ tau) (hBn : B ≤ n) (hva : tau va = some (rSol kd N sr la sa)) (hrk : r < rR (sid kd) N) : GM l G yX4_sortingRows cX4_sortingRows 3 (some .int) rm_X4_sortingRows_d4 n σ [.ref va, .int (nI r), .int (nI 4)] (fun rv n2 σ2 => some (.int (nI (wy kd sr N 4 r))) = rv ∧ n ≤ n2 ∧ n2 ≤ n + 0 ∧ (∀ q, q < B → σ2 q = σ q) ∧ (DynI G B n2 σ2 tau)) := by
  obtain ⟨⟨tk, wk, f6, f7, y0, y1, y2, htk, hwk⟩, tsa, tla⟩ := hD.2.2.2.2 _ _ _ _ _ _ hva
  obtain ⟨sv, ⟨hso, x0, f5, x1, g5⟩, -, -⟩ := hD.2.2.2.1 _ _ _ _ _ tsa
  obtain ⟨hL, cfl, f1, f2, f3, f4, z0, z1, z2, z3, z4, g1, g2, g3, g4⟩ := hD.2.2.1 _ _ _ tla
  have b1 := hD.1 _ _ hva
  have b2 := hD.1 _ _ tsa
  have b3 := hD.1 _ _ tla
  have w1 : wid (rSol kd N sr la sa) = 3 := rfl
  have w2 : wid (rShp kd N sr la) = 2 := rfl
  have w3 : wid (rLay kd N) = 5 := rfl
  have d1 := hD.2.1 _ _ _ _ hva tsa (fun z => by rw [z, tsa] at hva; cases hva)
  have d2 := hD.2.1 _ _ _ _ hva tla (fun z => by rw [z, tla] at hva; cases hva)
  refine GM.post (GM.room2 (c_X4_sortingRows_4 (va := va) (sa := sa) (la := la) (kd := kd) (N := N) (sr := sr) (cfl := cfl) (sv := sv) (tk := tk) (wk := wk) (f3 := f3) (f4 := f4) (f5 := f5) (r := r) y0 x0 x1 z0 z3 z4 hL g5 g3 g4 hrk) (Nat.le_of_ble_eq_true rfl) (Nat.le_of_ble_eq_true rfl) (Nat.le_of_ble_eq_true rfl) (Nat.le_of_ble_eq_true rfl)) (fun v n' σ' hp => ?_)
  obtain ⟨rfl, rfl, rfl⟩ := hp
  exact ⟨rfl, Nat.le_refl _, Nat.le_refl _, fun q _ => rfl, hD⟩

abbrev rm_X4_sortingRows_d5 : Room := { frames := 12, cells := 0, slots := 0, locals := 1200 }
set_option maxRecDepth 100000 in
set_option maxHeartbeats 4000000 in
theorem c_X4_sortingRows_d5 {l : Launch} {G : gG} {n : Nat} {σ : gS} {va sa la : Nat} {kd N sr : Nat} {B : Nat} {tau : Nat → Option Rl} {r : Nat}  (hD : DynI G B n σ tau) (hBn : B ≤ n) (hva : tau va = some (rSol kd N sr la sa)) (hrk : r < rR (sid kd) N) : GM l G yX4_sortingRows cX4_sortingRows 3 (some .int) rm_X4_sortingRows_d5 n σ [.ref va, .int (nI r), .int (nI 5)] (fun rv n2 σ2 => some (.int (nI (wy kd sr N 5 r))) = rv ∧ n ≤ n2 ∧ n2 ≤ n + 0 ∧ (∀ q, q < B → σ2 q = σ q) ∧ (DynI G B n2 σ2 tau)) := by
  obtain ⟨⟨tk, wk, f6, f7, y0, y1, y2, htk, hwk⟩, tsa, tla⟩ := hD.2.2.2.2 _ _ _ _ _ _ hva
  obtain ⟨sv, ⟨hso, x0, f5, x1, g5⟩, -, -⟩ := hD.2.2.2.1 _ _ _ _ _ tsa
  obtain ⟨hL, cfl, f1, f2, f3, f4, z0, z1, z2, z3, z4, g1, g2, g3, g4⟩ := hD.2.2.1 _ _ _ tla
  have b1 := hD.1 _ _ hva
  have b2 := hD.1 _ _ tsa
  have b3 := hD.1 _ _ tla
  have w1 : wid (rSol kd N sr la sa) = 3 := rfl
  have w2 : wid (rShp kd N sr la) = 2 := rfl
  have w3 : wid (rLay kd N) = 5 := rfl
  have d1 := hD.2.1 _ _ _ _ hva tsa (fun z => by rw [z, tsa] at hva; cases hva)
  have d2 := hD.2.1 _ _ _ _ hva tla (fun z => by rw [z, tla] at hva; cases hva)
  refine GM.post (GM.room2 (c_X4_sortingRows_5 (va := va) (sa := sa) (la := la) (kd := kd) (N := N) (sr := sr) (cfl := cfl) (sv := sv) (tk := tk) (wk := wk) (f3 := f3) (f4 := f4) (f5 := f5) (r := r) y0 x0 x1 z0 z3 z4 hL g5 g3 g4 hrk) (Nat.le_of_ble_eq_true rfl) (Nat.le_of_ble_eq_true rfl) (Nat.le_of_ble_eq_true rfl) (Nat.le_of_ble_eq_true rfl)) (fun v n' σ' hp => ?_)
  obtain ⟨rfl, rfl, rfl⟩ := hp
  exact ⟨rfl, Nat.le_refl _, Nat.le_refl _, fun q _ => rfl, hD⟩

abbrev rm_X4_turnsFrom_d : Room := { frames := 12, cells := 0, slots := 0, locals := 1200 }
set_option maxRecDepth 100000 in
set_option maxHeartbeats 4000000 in
theorem c_X4_turnsFrom_d {l : Launch} {G : gG} {n : Nat} {σ : gS} {va sa la : Nat} {kd N sr : Nat} {B : Nat} {tau : Nat → Option Rl} {r : Nat}  (hD : DynI G B n σ tau) (hBn : B ≤ n) (hva : tau va = some (rSol kd N sr la sa)) (hrk : r < rR (sid kd) N) : GM l G yX4_turnsFrom cX4_turnsFrom 2 (some .int) rm_X4_turnsFrom_d n σ [.ref va, .int (nI r)] (fun rv n2 σ2 => some (.int (cI (dst false kd sr N r))) = rv ∧ n ≤ n2 ∧ n2 ≤ n + 0 ∧ (∀ q, q < B → σ2 q = σ q) ∧ (DynI G B n2 σ2 tau)) := by
  obtain ⟨⟨tk, wk, f6, f7, y0, y1, y2, htk, hwk⟩, tsa, tla⟩ := hD.2.2.2.2 _ _ _ _ _ _ hva
  obtain ⟨sv, ⟨hso, x0, f5, x1, g5⟩, -, -⟩ := hD.2.2.2.1 _ _ _ _ _ tsa
  obtain ⟨hL, cfl, f1, f2, f3, f4, z0, z1, z2, z3, z4, g1, g2, g3, g4⟩ := hD.2.2.1 _ _ _ tla
  have b1 := hD.1 _ _ hva
  have b2 := hD.1 _ _ tsa
  have b3 := hD.1 _ _ tla
  have w1 : wid (rSol kd N sr la sa) = 3 := rfl
  have w2 : wid (rShp kd N sr la) = 2 := rfl
  have w3 : wid (rLay kd N) = 5 := rfl
  have d1 := hD.2.1 _ _ _ _ hva tsa (fun z => by rw [z, tsa] at hva; cases hva)
  have d2 := hD.2.1 _ _ _ _ hva tla (fun z => by rw [z, tla] at hva; cases hva)
  have hdd := dst_ok false hso
  refine GM.post (GM.room2 (c_X4_turnsFrom (va := va) (sa := sa) (la := la) (kd := kd) (N := N) (sr := sr) (cfl := cfl) (sv := sv) (tk := tk) (wk := wk) (f3 := f3) (f5 := f5) (f6 := f6) (f7 := f7) (dd := dst false kd sr N) (r := r) y0 x0 x1 z0 z3 y1 y2 hL hso g5 g3 (by omega) (by omega) hdd htk hrk) (Nat.le_of_ble_eq_true rfl) (Nat.le_of_ble_eq_true rfl) (Nat.le_of_ble_eq_true rfl) (Nat.le_of_ble_eq_true rfl)) (fun v n' σ' hp => ?_)
  obtain ⟨rfl, rfl, g9, e3, hg9⟩ := hp
  have hfv : ∀ q, q < va ∨ va + 3 ≤ q → σ' q = σ q := fun q hq => by rw [← e3, RW_ne (m := 3) rfl hq]
  exact ⟨rfl, Nat.le_refl _, Nat.le_refl _, fun q hq => hfv q (by omega), hD.setV hva ⟨true, wk, g9, f7, by rw [← e3]; exact RW_at0 rfl, by rw [← e3]; exact RW_at 1 rfl, by rw [← e3]; exact RW_at 2 rfl, fun _ => hg9, hwk⟩ hfv⟩

abbrev rm_X4_workFrom_d : Room := { frames := 12, cells := 0, slots := 0, locals := 1200 }
set_option maxRecDepth 100000 in
set_option maxHeartbeats 4000000 in
theorem c_X4_workFrom_d {l : Launch} {G : gG} {n : Nat} {σ : gS} {va sa la : Nat} {kd N sr : Nat} {B : Nat} {tau : Nat → Option Rl} {r : Nat}  (hD : DynI G B n σ tau) (hBn : B ≤ n) (hva : tau va = some (rSol kd N sr la sa)) (hrk : r < rR (sid kd) N) : GM l G yX4_workFrom cX4_workFrom 2 (some .int) rm_X4_workFrom_d n σ [.ref va, .int (nI r)] (fun rv n2 σ2 => some (.int (cI (dst true kd sr N r))) = rv ∧ n ≤ n2 ∧ n2 ≤ n + 0 ∧ (∀ q, q < B → σ2 q = σ q) ∧ (DynI G B n2 σ2 tau)) := by
  obtain ⟨⟨tk, wk, f6, f7, y0, y1, y2, htk, hwk⟩, tsa, tla⟩ := hD.2.2.2.2 _ _ _ _ _ _ hva
  obtain ⟨sv, ⟨hso, x0, f5, x1, g5⟩, -, -⟩ := hD.2.2.2.1 _ _ _ _ _ tsa
  obtain ⟨hL, cfl, f1, f2, f3, f4, z0, z1, z2, z3, z4, g1, g2, g3, g4⟩ := hD.2.2.1 _ _ _ tla
  have b1 := hD.1 _ _ hva
  have b2 := hD.1 _ _ tsa
  have b3 := hD.1 _ _ tla
  have w1 : wid (rSol kd N sr la sa) = 3 := rfl
  have w2 : wid (rShp kd N sr la) = 2 := rfl
  have w3 : wid (rLay kd N) = 5 := rfl
  have d1 := hD.2.1 _ _ _ _ hva tsa (fun z => by rw [z, tsa] at hva; cases hva)
  have d2 := hD.2.1 _ _ _ _ hva tla (fun z => by rw [z, tla] at hva; cases hva)
  have hdd := dst_ok true hso
  refine GM.post (GM.room2 (c_X4_workFrom (va := va) (sa := sa) (la := la) (kd := kd) (N := N) (sr := sr) (cfl := cfl) (sv := sv) (tk := tk) (wk := wk) (f3 := f3) (f5 := f5) (f6 := f6) (f7 := f7) (dd := dst true kd sr N) (r := r) y0 x0 x1 z0 z3 y1 y2 hL hso g5 g3 (by omega) (by omega) hdd hwk hrk) (Nat.le_of_ble_eq_true rfl) (Nat.le_of_ble_eq_true rfl) (Nat.le_of_ble_eq_true rfl) (Nat.le_of_ble_eq_true rfl)) (fun v n' σ' hp => ?_)
  obtain ⟨rfl, rfl, g9, e3, hg9⟩ := hp
  have hfv : ∀ q, q < va ∨ va + 3 ≤ q → σ' q = σ q := fun q hq => by rw [← e3, RW_ne (m := 3) rfl hq]
  exact ⟨rfl, Nat.le_refl _, Nat.le_refl _, fun q hq => hfv q (by omega), hD.setV hva ⟨tk, true, f6, g9, by rw [← e3]; exact RW_at0 rfl, by rw [← e3]; exact RW_at 1 rfl, by rw [← e3]; exact RW_at 2 rfl, htk, fun _ => hg9⟩ hfv⟩

abbrev rm_X4_stacksWithTurns_d : Room := { frames := 12, cells := 0, slots := 0, locals := 1200 }
set_option maxRecDepth 100000 in
set_option maxHeartbeats 4000000 in
theorem c_X4_stacksWithTurns_d {l : Launch} {G : gG} {n : Nat} {σ : gS} {va sa la : Nat} {kd N sr : Nat} {B : Nat} {tau : Nat → Option Rl} {w : Nat}  (hD : DynI G B n σ tau) (hBn : B ≤ n) (hva : tau va = some (rSol kd N sr la sa)) (hw : w ≤ 12) : GM l G yX4_stacksWithTurns cX4_stacksWithTurns 4 (some .int) rm_X4_stacksWithTurns_d n σ [.ref va, .int (nI w)] (fun rv n2 σ2 => some (.int (nI (ofd (dst false kd sr N) w (rR (sid kd) N)))) = rv ∧ n ≤ n2 ∧ n2 ≤ n + 0 ∧ (∀ q, q < B → σ2 q = σ q) ∧ (DynI G B n2 σ2 tau)) := by
  obtain ⟨⟨tk, wk, f6, f7, y0, y1, y2, htk, hwk⟩, tsa, tla⟩ := hD.2.2.2.2 _ _ _ _ _ _ hva
  obtain ⟨sv, ⟨hso, x0, f5, x1, g5⟩, -, -⟩ := hD.2.2.2.1 _ _ _ _ _ tsa
  obtain ⟨hL, cfl, f1, f2, f3, f4, z0, z1, z2, z3, z4, g1, g2, g3, g4⟩ := hD.2.2.1 _ _ _ tla
  have b1 := hD.1 _ _ hva
  have b2 := hD.1 _ _ tsa
  have b3 := hD.1 _ _ tla
  have w1 : wid (rSol kd N sr la sa) = 3 := rfl
  have w2 : wid (rShp kd N sr la) = 2 := rfl
  have w3 : wid (rLay kd N) = 5 := rfl
  have d1 := hD.2.1 _ _ _ _ hva tsa (fun z => by rw [z, tsa] at hva; cases hva)
  have d2 := hD.2.1 _ _ _ _ hva tla (fun z => by rw [z, tla] at hva; cases hva)
  have hdd := dst_ok false hso
  refine GM.post (GM.room2 (c_X4_stacksWithTurns (va := va) (sa := sa) (la := la) (kd := kd) (N := N) (sr := sr) (cfl := cfl) (sv := sv) (tk := tk) (wk := wk) (f3 := f3) (f5 := f5) (f6 := f6) (f7 := f7) (dd := dst false kd sr N) (w := w) y0 x0 x1 z0 z3 y1 y2 hL hso g5 g3 (by omega) (by omega) hdd htk hw) (Nat.le_of_ble_eq_true rfl) (Nat.le_of_ble_eq_true rfl) (Nat.le_of_ble_eq_true rfl) (Nat.le_of_ble_eq_true rfl)) (fun v n' σ' hp => ?_)
  obtain ⟨rfl, rfl, k9, g9, e3, hg9⟩ := hp
  have hfv : ∀ q, q < va ∨ va + 3 ≤ q → σ' q = σ q := fun q hq => by rw [← e3, RW_ne (m := 3) rfl hq]
  exact ⟨rfl, Nat.le_refl _, Nat.le_refl _, fun q hq => hfv q (by omega), hD.setV hva ⟨k9, wk, g9, f7, by rw [← e3]; exact RW_at0 rfl, by rw [← e3]; exact RW_at 1 rfl, by rw [← e3]; exact RW_at 2 rfl, hg9, hwk⟩ hfv⟩

abbrev rm_X4_firstRow_d : Room := { frames := 12, cells := 0, slots := 0, locals := 1200 }
set_option maxRecDepth 100000 in
set_option maxHeartbeats 4000000 in
theorem c_X4_firstRow_d {l : Launch} {G : gG} {n : Nat} {σ : gS} {va sa la : Nat} {kd N sr : Nat} {B : Nat} {tau : Nat → Option Rl} {r : Nat}  (hD : DynI G B n σ tau) (hBn : B ≤ n) (hva : tau va = some (rSol kd N sr la sa)) (hrk : r < rR (sid kd) N) (h9 : dst false kd sr N r ≤ 9) : GM l G yX4_firstRow cX4_firstRow 6 (some .int) rm_X4_firstRow_d n σ [.ref va, .int (nI r)] (fun rv n2 σ2 => some (.int (nI (fwR kd sr N (dst false kd sr N) (dst false kd sr N r) r 0))) = rv ∧ n ≤ n2 ∧ n2 ≤ n + 0 ∧ (∀ q, q < B → σ2 q = σ q) ∧ (DynI G B n2 σ2 tau)) := by
  obtain ⟨⟨tk, wk, f6, f7, y0, y1, y2, htk, hwk⟩, tsa, tla⟩ := hD.2.2.2.2 _ _ _ _ _ _ hva
  obtain ⟨sv, ⟨hso, x0, f5, x1, g5⟩, -, -⟩ := hD.2.2.2.1 _ _ _ _ _ tsa
  obtain ⟨hL, cfl, f1, f2, f3, f4, z0, z1, z2, z3, z4, g1, g2, g3, g4⟩ := hD.2.2.1 _ _ _ tla
  have b1 := hD.1 _ _ hva
  have b2 := hD.1 _ _ tsa
  have b3 := hD.1 _ _ tla
  have w1 : wid (rSol kd N sr la sa) = 3 := rfl
  have w2 : wid (rShp kd N sr la) = 2 := rfl
  have w3 : wid (rLay kd N) = 5 := rfl
  have d1 := hD.2.1 _ _ _ _ hva tsa (fun z => by rw [z, tsa] at hva; cases hva)
  have d2 := hD.2.1 _ _ _ _ hva tla (fun z => by rw [z, tla] at hva; cases hva)
  have hdd := dst_ok false hso
  refine GM.post (GM.room2 (c_X4_firstRow (va := va) (sa := sa) (la := la) (kd := kd) (N := N) (sr := sr) (cfl := cfl) (sv := sv) (tk := tk) (wk := wk) (f3 := f3) (f5 := f5) (f6 := f6) (f7 := f7) (dd := dst false kd sr N) (r := r) y0 x0 x1 z0 z3 y1 y2 hL hso g5 g3 (by omega) (by omega) hdd htk hrk h9) (Nat.le_of_ble_eq_true rfl) (Nat.le_of_ble_eq_true rfl) (Nat.le_of_ble_eq_true rfl) (Nat.le_of_ble_eq_true rfl)) (fun v n' σ' hp => ?_)
  obtain ⟨rfl, rfl, g9, e3, hg9⟩ := hp
  have hfv : ∀ q, q < va ∨ va + 3 ≤ q → σ' q = σ q := fun q hq => by rw [← e3, RW_ne (m := 3) rfl hq]
  exact ⟨rfl, Nat.le_refl _, Nat.le_refl _, fun q hq => hfv q (by omega), hD.setV hva ⟨true, wk, g9, f7, by rw [← e3]; exact RW_at0 rfl, by rw [← e3]; exact RW_at 1 rfl, by rw [← e3]; exact RW_at 2 rfl, fun _ => hg9, hwk⟩ hfv⟩
