/-- the least costs, chosen -/
noncomputable def dst (bw : Bool) (kd sr N : Nat) : Nat → Nat := Classical.epsilon fun d => DistIs (cF bw) kd sr N d
theorem least_ex {P : Nat → Prop} : ∀ n w, w < n → P w → ∃ v, P v ∧ v ≤ w ∧ ∀ u, P u → v ≤ u
  | 0, w, h, _ => absurd h (Nat.not_lt_zero w)
  | n + 1, w, h, hw => by
    by_cases g : ∃ u, u < w ∧ P u
    · obtain ⟨u, h1, h2⟩ := g
      obtain ⟨v, g1, g2, g3⟩ := least_ex n u (by omega) h2
      exact ⟨v, g1, by omega, g3⟩
    · refine ⟨w, hw, Nat.le_refl _, fun u hu => ?_⟩
      rcases Nat.lt_or_ge u w with e | e
      · exact absurd ⟨u, e, hu⟩ g
      · exact e
theorem dst_ex {bw : Bool} {kd sr N : Nat} (h : shOK kd N sr) : ∃ d, DistIs (cF bw) kd sr N d := by
  have h1 : ∀ r, ∃ v, r < rR (sid kd) N → v ≤ 1000000 ∧ (v ≠ 1000000 → rc (cF bw) kd sr N v r ∧ ∀ w, rc (cF bw) kd sr N w r → v ≤ w) ∧ (v = 1000000 → ∀ w, ¬ rc (cF bw) kd sr N w r) := fun r => by
    by_cases hr : r < rR (sid kd) N
    · by_cases g : ∃ w, rc (cF bw) kd sr N w r
      · obtain ⟨w, hw⟩ := g
        obtain ⟨w2, h2, h3⟩ := rc_bdF h hr hw
        obtain ⟨v, g1, g2, g3⟩ := least_ex (P := fun w => rc (cF bw) kd sr N w r) (w2 + 1) w2 (by omega) h3
        exact ⟨v, fun _ => ⟨by omega, fun _ => ⟨g1, g3⟩, fun z => absurd z (by omega)⟩⟩
      · exact ⟨1000000, fun _ => ⟨Nat.le_refl _, fun z => absurd rfl z, fun _ w hw => g ⟨w, hw⟩⟩⟩
    · exact ⟨0, fun z => absurd z hr⟩
  exact ⟨fun r => (h1 r).choose, fun r hr => (h1 r).choose_spec hr⟩
theorem dst_ok (bw : Bool) {kd sr N : Nat} (h : shOK kd N sr) : DistIs (cF bw) kd sr N (dst bw kd sr N) := Classical.epsilon_spec (p := fun d => DistIs (cF bw) kd sr N d) (dst_ex h)
def LayAt (G : gG) (σ : gS) (la : Nat) (sb : Bool) (N : Nat) : Prop := LOK sb N ∧ ∃ (cfl : Nat) (f1 f2 f3 f4 : Nat → Int32), σ la = some (.inr (1, [.int (nI N), .int (nI (rR sb N)), .int (nI (sbN sb N)), .int (nI (sm sb N - 1)), .ref (la + 1), .ref (la + 2), .ref (la + 3), .ref (la + 4)])) ∧ σ (la + 1) = some (aI G (fac N) f1) ∧ σ (la + 2) = some (aI G (fac N * N) f2) ∧ σ (la + 3) = some (aI G (rR sb N * N) f3) ∧ σ (la + 4) = some (aI G (rR sb N) f4) ∧ (∀ o, o < fac N → f1 o = nI (cd N o)) ∧ (∀ o, o < fac N → ∀ j, j < N → f2 (o * N + j) = nI (sz N o j)) ∧ (∀ r, r < rR sb N → ∀ k, 1 ≤ k → k ≤ N → f3 (r * N + k - 1) = nI (nx sb N r k)) ∧ (∀ r, r < rR sb N → f4 r = nI (jw sb N r))
def ShpC (G : gG) (σ : gS) (sa kd N sr la : Nat) (sv : Value) : Prop := shOK kd N sr ∧ σ sa = some (.inr (2, [.int (nI kd), .int (nI sr), .int (nI N), .ref la, .ref (sa + 1), sv])) ∧ ∃ f5 : Nat → Int32, σ (sa + 1) = some (aI G (rR (sid kd) N) f5) ∧ (∀ r, r < rR (sid kd) N → f5 r = nI (psR kd sr N r))
def SolC (G : gG) (σ : gS) (va kd N sr la sa : Nat) : Prop := ∃ (tk wk : Bool) (f6 f7 : Nat → Int32), σ va = some (.inr (4, [.ref sa, .ref la, .ref (va + 1), .int (bI tk), .ref (va + 2), .int (bI wk)])) ∧ σ (va + 1) = some (aI G (rR (sid kd) N) f6) ∧ σ (va + 2) = some (aI G (rR (sid kd) N) f7) ∧ (tk = true → ∀ r, r < rR (sid kd) N → f6 r = cI (dst false kd sr N r)) ∧ (wk = true → ∀ r, r < rR (sid kd) N → f7 r = cI (dst true kd sr N r))
/-- a role: 0 layouts, 1 a shape, 2 a solver; kind, cakes, strength; the layouts; the shape -/
abbrev Rl : Type := Nat × Nat × Nat × Nat × Nat × Nat
def wid (r : Rl) : Nat := if r.1 = 0 then 5 else if r.1 = 1 then 2 else 3
def rLay (kd N : Nat) : Rl := (0, kd % 2, N, 0, 0, 0)
def rShp (kd N sr la : Nat) : Rl := (1, kd, N, sr, la, 0)
def rSol (kd N sr la sa : Nat) : Rl := (2, kd, N, sr, la, sa)
theorem sid_2 (kd : Nat) : sid (kd % 2) = sid kd := by simp [sid]
def DynI (G : gG) (B n : Nat) (σ : gS) (tau : Nat → Option Rl) : Prop :=
  (∀ q r, tau q = some r → B ≤ q ∧ q + wid r ≤ n) ∧ (∀ q r q2 r2, tau q = some r → tau q2 = some r2 → q ≠ q2 → q + wid r ≤ q2 ∨ q2 + wid r2 ≤ q) ∧
  (∀ q kd N, tau q = some (rLay kd N) → LayAt G σ q (sid kd) N) ∧
  (∀ q kd N sr la, tau q = some (rShp kd N sr la) → ∃ sv, ShpC G σ q kd N sr la sv ∧ tau la = some (rLay kd N) ∧ (sv = .null ∨ ∃ va, sv = .ref va ∧ tau va = some (rSol kd N sr la q))) ∧
  (∀ q kd N sr la sa, tau q = some (rSol kd N sr la sa) → SolC G σ q kd N sr la sa ∧ tau sa = some (rShp kd N sr la) ∧ tau la = some (rLay kd N))
theorem LayAt.fr {G : gG} {σ τ : gS} {la N : Nat} {sb : Bool} (h : LayAt G σ la sb N) (hf : ∀ q, la ≤ q → q < la + 5 → τ q = σ q) : LayAt G τ la sb N := by
  obtain ⟨hL, cfl, f1, f2, f3, f4, z0, z1, z2, z3, z4, g⟩ := h
  exact ⟨hL, cfl, f1, f2, f3, f4, (hf _ (by omega) (by omega)).trans z0, (hf _ (by omega) (by omega)).trans z1, (hf _ (by omega) (by omega)).trans z2, (hf _ (by omega) (by omega)).trans z3, (hf _ (by omega) (by omega)).trans z4, g⟩
theorem ShpC.fr {G : gG} {σ τ : gS} {sa kd N sr la : Nat} {sv : Value} (h : ShpC G σ sa kd N sr la sv) (hf : ∀ q, sa ≤ q → q < sa + 2 → τ q = σ q) : ShpC G τ sa kd N sr la sv := by
  obtain ⟨hs, z0, f5, z1, g⟩ := h
  exact ⟨hs, (hf _ (by omega) (by omega)).trans z0, f5, (hf _ (by omega) (by omega)).trans z1, g⟩
theorem SolC.fr {G : gG} {σ τ : gS} {va kd N sr la sa : Nat} (h : SolC G σ va kd N sr la sa) (hf : ∀ q, va ≤ q → q < va + 3 → τ q = σ q) : SolC G τ va kd N sr la sa := by
  obtain ⟨tk, wk, f6, f7, z0, z1, z2, g⟩ := h
  exact ⟨tk, wk, f6, f7, (hf _ (by omega) (by omega)).trans z0, (hf _ (by omega) (by omega)).trans z1, (hf _ (by omega) (by omega)).trans z2, g⟩
theorem DynI.fr {G : gG} {B n n2 : Nat} {σ τ : gS} {tau : Nat → Option Rl} (h : DynI G B n σ tau) (hn : n ≤ n2) (hf : ∀ q, B ≤ q → q < n → τ q = σ q) : DynI G B n2 τ tau := by
  obtain ⟨h1, h2, h3, h4, h5⟩ := h
  refine ⟨fun q r hr => ⟨(h1 q r hr).1, by have := (h1 q r hr).2; omega⟩, h2, fun q kd N hr => ?_, fun q kd N sr la hr => ?_, fun q kd N sr la sa hr => ?_⟩
  · have := h1 _ _ hr
    exact (h3 _ _ _ hr).fr (fun x g1 g2 => hf x (by omega) (by have : wid (rLay kd N) = 5 := rfl; omega))
  · have := h1 _ _ hr
    obtain ⟨sv, g1, g2⟩ := h4 _ _ _ _ _ hr
    exact ⟨sv, g1.fr (fun x g1 g2 => hf x (by omega) (by have : wid (rShp kd N sr la) = 2 := rfl; omega)), g2⟩
  · have := h1 _ _ hr
    obtain ⟨g1, g2⟩ := h5 _ _ _ _ _ _ hr
    exact ⟨g1.fr (fun x g1 g2 => hf x (by omega) (by have : wid (rSol kd N sr la sa) = 3 := rfl; omega)), g2⟩
/-- a shape as its methods want it -/
theorem DynI.shp {G : gG} {B n : Nat} {σ : gS} {tau : Nat → Option Rl} (h : DynI G B n σ tau) {sa kd N sr la : Nat} (ht : tau sa = some (rShp kd N sr la)) : ShpAt G B σ sa kd N sr := by
  obtain ⟨h1, h2, h3, h4, h5⟩ := h
  obtain ⟨sv, ⟨hs, z0, f5, z1, g5⟩, ta, -⟩ := h4 _ _ _ _ _ ht
  obtain ⟨hL, cfl, f1, f2, f3, f4, y0, y1, y2, y3, y4, g1, g2, g3, g4⟩ := h3 _ _ _ ta
  exact ⟨hs, (h1 _ _ ht).1, la, cfl, sv, f1, f2, f3, f4, f5, (h1 _ _ ta).1, z0, z1, y0, y1, y2, y3, y4, g1, g2, g3, g4, g5⟩
/-- a new role at the end -/
theorem DynI.put {G : gG} {B n n2 : Nat} {σ τ : gS} {tau : Nat → Option Rl} (h : DynI G B n σ tau) (hB : B ≤ n) {r : Rl} (hn : n + wid r ≤ n2) (hf : ∀ q, B ≤ q → q < n → τ q = σ q)
    (hl : ∀ kd N, r = rLay kd N → LayAt G τ n (sid kd) N) (hs : ∀ kd N sr la, r = rShp kd N sr la → ShpC G τ n kd N sr la .null ∧ tau la = some (rLay kd N))
    (hv : ∀ kd N sr la sa, r = rSol kd N sr la sa → SolC G τ n kd N sr la sa ∧ tau sa = some (rShp kd N sr la) ∧ tau la = some (rLay kd N)) : DynI G B n2 τ (va_up tau n (some r)) ∧ (∀ q r1, tau q = some r1 → va_up tau n (some r) q = some r1) := by
  have hw : ∀ r1 : Rl, 0 < wid r1 := fun r1 => by unfold wid; split; decide; split <;> decide
  have h0 : tau n = none := by
    cases e : tau n with
    | none => rfl
    | some r1 => have := (h.1 _ _ e).2; have := hw r1; omega
  have hm : ∀ q r1, tau q = some r1 → va_up tau n (some r) q = some r1 := fun q r1 hq => by
    have : q ≠ n := fun z => by rw [z, h0] at hq; cases hq
    simp [va_up, this, hq]
  have hc : ∀ q r1, va_up tau n (some r) q = some r1 → (q = n ∧ r1 = r) ∨ (q ≠ n ∧ tau q = some r1) := fun q r1 hq => by
    by_cases e : q = n
    · left
      refine ⟨e, ?_⟩
      simp [va_up, e] at hq
      exact hq.symm
    · right
      simp [va_up, e] at hq
      exact ⟨e, hq⟩
  obtain ⟨h1, h2, h3, h4, h5⟩ := h.fr (n2 := n2) (by omega) hf
  refine ⟨⟨fun q r1 hq => ?_, fun q r1 q2 r2 hq hq2 hne => ?_, fun q kd N hq => ?_, fun q kd N sr la hq => ?_, fun q kd N sr la sa hq => ?_⟩, hm⟩
  · rcases hc _ _ hq with ⟨rfl, rfl⟩ | ⟨-, e⟩
    · exact ⟨hB, hn⟩
    · exact h1 _ _ e
  · rcases hc _ _ hq with ⟨rfl, rfl⟩ | ⟨-, e⟩ <;> rcases hc _ _ hq2 with ⟨rfl, rfl⟩ | ⟨-, e2⟩
    · exact absurd rfl hne
    · exact Or.inr (h.1 _ _ e2).2
    · exact Or.inl (h.1 _ _ e).2
    · exact h2 _ _ _ _ e e2 hne
  · rcases hc _ _ hq with ⟨rfl, e⟩ | ⟨-, e⟩
    · exact hl _ _ e.symm
    · exact h3 _ _ _ e
  · rcases hc _ _ hq with ⟨rfl, e⟩ | ⟨-, e⟩
    · obtain ⟨g1, g2⟩ := hs _ _ _ _ e.symm
      exact ⟨_, g1, hm _ _ g2, Or.inl rfl⟩
    · obtain ⟨sv, g1, g2, g3⟩ := h4 _ _ _ _ _ e
      refine ⟨sv, g1, hm _ _ g2, ?_⟩
      rcases g3 with g3 | ⟨va, g3, g4⟩
      · exact Or.inl g3
      · exact Or.inr ⟨va, g3, hm _ _ g4⟩
  · rcases hc _ _ hq with ⟨rfl, e⟩ | ⟨-, e⟩
    · obtain ⟨g1, g2, g3⟩ := hv _ _ _ _ _ e.symm
      exact ⟨g1, hm _ _ g2, hm _ _ g3⟩
    · obtain ⟨g1, g2, g3⟩ := h5 _ _ _ _ _ _ e
      exact ⟨g1, hm _ _ g2, hm _ _ g3⟩
/-- a solver's cells written anew -/
theorem DynI.setV {G : gG} {B n : Nat} {σ τ : gS} {tau : Nat → Option Rl} (h : DynI G B n σ tau) {va kd N sr la sa : Nat} (ht : tau va = some (rSol kd N sr la sa)) (hS : SolC G τ va kd N sr la sa) (hf : ∀ q, q < va ∨ va + 3 ≤ q → τ q = σ q) : DynI G B n τ tau := by
  obtain ⟨h1, h2, h3, h4, h5⟩ := h
  have hw : wid (rSol kd N sr la sa) = 3 := rfl
  refine ⟨h1, h2, fun q kd2 N2 hr => ?_, fun q kd2 N2 sr2 la2 hr => ?_, fun q kd2 N2 sr2 la2 sa2 hr => ?_⟩
  · have hne : q ≠ va := fun z => by rw [z, ht] at hr; cases hr
    have := h2 _ _ _ _ hr ht hne
    have hw2 : wid (rLay kd2 N2) = 5 := rfl
    exact (h3 _ _ _ hr).fr (fun x g1 g2 => hf x (by omega))
  · have hne : q ≠ va := fun z => by rw [z, ht] at hr; cases hr
    have := h2 _ _ _ _ hr ht hne
    have hw2 : wid (rShp kd2 N2 sr2 la2) = 2 := rfl
    obtain ⟨sv, g1, g2⟩ := h4 _ _ _ _ _ hr
    exact ⟨sv, g1.fr (fun x g1 g2 => hf x (by omega)), g2⟩
  · obtain ⟨g1, g2⟩ := h5 _ _ _ _ _ _ hr
    refine ⟨?_, g2⟩
    by_cases e : q = va
    · subst e
      rw [ht] at hr
      cases hr
      exact hS
    · have := h2 _ _ _ _ hr ht e
      have hw2 : wid (rSol kd2 N2 sr2 la2 sa2) = 3 := rfl
      exact g1.fr (fun x g1 g2 => hf x (by omega))
/-- a shape that gets its solver, which is made at the end -/
theorem DynI.sol {G : gG} {B n : Nat} {σ τ : gS} {tau : Nat → Option Rl} (h : DynI G B n σ tau) (hB : B ≤ n) {kd N sr la sa : Nat} (ht : tau sa = some (rShp kd N sr la)) (hS : SolC G τ n kd N sr la sa) (hC : ShpC G τ sa kd N sr la (.ref n)) (hf : ∀ q, B ≤ q → q < n → q < sa ∨ sa + 2 ≤ q → τ q = σ q) :
    DynI G B (n + 3) τ (va_up tau n (some (rSol kd N sr la sa))) ∧ (∀ q r1, tau q = some r1 → va_up tau n (some (rSol kd N sr la sa)) q = some r1) := by
  have hw : ∀ r1 : Rl, 0 < wid r1 := fun r1 => by unfold wid; split; decide; split <;> decide
  have h0 : tau n = none := by
    cases e : tau n with
    | none => rfl
    | some r1 => have := (h.1 _ _ e).2; have := hw r1; omega
  have hm : ∀ q r1, tau q = some r1 → va_up tau n (some (rSol kd N sr la sa)) q = some r1 := fun q r1 hq => by
    have : q ≠ n := fun z => by rw [z, h0] at hq; cases hq
    simp [va_up, this, hq]
  have hc : ∀ q r1, va_up tau n (some (rSol kd N sr la sa)) q = some r1 → (q = n ∧ r1 = rSol kd N sr la sa) ∨ (q ≠ n ∧ tau q = some r1) := fun q r1 hq => by
    by_cases e : q = n
    · left
      refine ⟨e, ?_⟩
      simp [va_up, e] at hq
      exact hq.symm
    · right
      simp [va_up, e] at hq
      exact ⟨e, hq⟩
  obtain ⟨h1, h2, h3, h4, h5⟩ := h
  have hwS : wid (rShp kd N sr la) = 2 := rfl
  have ta := (h4 _ _ _ _ _ ht).choose_spec.2.1
  have b1 := h1 _ _ ht
  refine ⟨⟨fun q r1 hq => ?_, fun q r1 q2 r2 hq hq2 hne => ?_, fun q kd2 N2 hq => ?_, fun q kd2 N2 sr2 la2 hq => ?_, fun q kd2 N2 sr2 la2 sa2 hq => ?_⟩, hm⟩
  · rcases hc _ _ hq with ⟨rfl, rfl⟩ | ⟨-, e⟩
    · exact ⟨hB, Nat.le_refl _⟩
    · have := h1 _ _ e
      exact ⟨this.1, by omega⟩
  · rcases hc _ _ hq with ⟨rfl, rfl⟩ | ⟨-, e⟩ <;> rcases hc _ _ hq2 with ⟨rfl, rfl⟩ | ⟨-, e2⟩
    · exact absurd rfl hne
    · exact Or.inr (h1 _ _ e2).2
    · exact Or.inl (h1 _ _ e).2
    · exact h2 _ _ _ _ e e2 hne
  · rcases hc _ _ hq with ⟨rfl, e⟩ | ⟨-, e⟩
    · cases e
    · have hne : q ≠ sa := fun z => by rw [z, ht] at e; cases e
      have b2 := h2 _ _ _ _ e ht hne
      have b3 := h1 _ _ e
      have hw2 : wid (rLay kd2 N2) = 5 := rfl
      exact (h3 _ _ _ e).fr (fun x g1 g2 => hf x (by omega) (by omega) (by omega))
  · rcases hc _ _ hq with ⟨rfl, e⟩ | ⟨-, e⟩
    · cases e
    · by_cases e3 : q = sa
      · subst e3
        rw [ht] at e
        cases e
        exact ⟨_, hC, hm _ _ ta, Or.inr ⟨n, rfl, by simp [va_up]⟩⟩
      · have b2 := h2 _ _ _ _ e ht e3
        have b3 := h1 _ _ e
        have hw2 : wid (rShp kd2 N2 sr2 la2) = 2 := rfl
        obtain ⟨sv, g1, g2, g3⟩ := h4 _ _ _ _ _ e
        refine ⟨sv, g1.fr (fun x g1 g2 => hf x (by omega) (by omega) (by omega)), hm _ _ g2, ?_⟩
        rcases g3 with g3 | ⟨va, g3, g4⟩
        · exact Or.inl g3
        · exact Or.inr ⟨va, g3, hm _ _ g4⟩
  · rcases hc _ _ hq with ⟨rfl, e⟩ | ⟨-, e⟩
    · cases e
      exact ⟨hS, hm _ _ ht, hm _ _ ta⟩
    · have hne : q ≠ sa := fun z => by rw [z, ht] at e; cases e
      have b2 := h2 _ _ _ _ e ht hne
      have b3 := h1 _ _ e
      have hw2 : wid (rSol kd2 N2 sr2 la2 sa2) = 3 := rfl
      obtain ⟨g1, g2, g3⟩ := h5 _ _ _ _ _ _ e
      exact ⟨g1.fr (fun x g1 g2 => hf x (by omega) (by omega) (by omega)), hm _ _ g2, hm _ _ g3⟩
theorem State.hasRoom_le {s : State} {pl : Platform} {r r2 : Room} (h : s.hasRoom pl r2 = true) (h1 : r.frames ≤ r2.frames) (h2 : r.locals ≤ r2.locals) (h3 : r.cells ≤ r2.cells) (h4 : r.slots ≤ r2.slots) : s.hasRoom pl r = true := by
  simp only [State.hasRoom, Bool.and_eq_true, decide_eq_true_eq] at h ⊢
  obtain ⟨⟨⟨⟨a1, a2, a3, a4, a5, a6⟩, a7⟩, a8⟩, a9⟩ := h
  exact ⟨⟨⟨⟨by omega, by omega, by omega, by omega, by omega, a6⟩, by omega⟩, by omega⟩, a9⟩
theorem GM.room {l : Launch} {G : gG} {y : MethodName} {cc : ByteArray} {maxL : Nat} {ret : Option FieldType} {rm rm2 : Room} {n : Nat} {σ : gS} {av : List Value} {P : Option Value → Nat → gS → Prop} (h : GM l G y cc maxL ret rm n σ av P) (h1 : rm.frames ≤ rm2.frames) (h2 : rm.locals ≤ rm2.locals) (h3 : rm.cells = rm2.cells) (h4 : rm.slots = rm2.slots) : GM l G y cc maxL ret rm2 n σ av P := by
  intro p e ha hc hk s m args below hf happ hP hT
  have happ2 : (headSpec (wm y cc maxL ret) rm).appliesLoose y e.platform s = true := by
    have g := (Spec.appliesLoose_iff hf).mp happ
    exact (Spec.appliesLoose_iff hf).mpr ⟨g.1, g.2.1, g.2.2.1, g.2.2.2.1, g.2.2.2.2.1, g.2.2.2.2.2.1, State.hasRoom_le g.2.2.2.2.2.2.1 h1 h2 (Nat.le_of_eq h3) (Nat.le_of_eq h4), g.2.2.2.2.2.2.2⟩
  have := h p e ha hc hk s m args below hf happ2 hP hT
  rw [← h3, ← h4]
  exact this
