theorem p2_N {N : Nat} (hN : N ≤ 6) : 1 * 2 ^ (N + 1) ≤ 128 ∧ 2 ≤ 1 * 2 ^ (N + 1) := by
  have h1 := two_le hN
  have h2 := Nat.one_le_two_pow (n := N)
  rw [Nat.pow_succ]
  omega
theorem isC_nt {N c i : Nat} (hN : N ≤ 6) (hi : i ≤ N) (h1 : N ≤ i) (h0 : c / 10 ^ i ≠ 0) : isC N c = false := by
  have : i = N := by omega
  subst this
  exact isC_not hN h0
theorem upd_step {f : Nat → Int32} {g : Nat → Int32} {i j : Nat} {x : Int32} (hj : j < i + 1) (h : ∀ j, j < i → f j = g j) (hx : x = g i) : upd f i x j = g j := by
  rcases Nat.lt_or_eq_of_le (Nat.le_of_lt_succ hj) with e | e
  · rw [pk_un (Nat.ne_of_lt e)]
    exact h j e
  · subst e
    rw [pk_us, hx]
theorem nI_big {v : Nat} (h : v < 2 ^ 31) : ¬ nI v ≤ -1000001 := by
  intro z
  have h1 := Int32.le_iff_toInt_le.mp z
  rw [nI_toInt h] at h1
  have h2 : (-1000001 : Int32).toInt = -1000001 := by decide
  rw [h2] at h1
  omega
theorem in_dec {v lo hi : Nat} (hv : v < 2 ^ 31) (hl : lo < 2 ^ 31) (hh : hi < 2 ^ 31) : decide (nI lo ≤ nI v ∧ nI v ≤ nI hi) = decide (lo ≤ v ∧ v ≤ hi) := by
  by_cases h : lo ≤ v ∧ v ≤ hi
  · rw [in_N h.1 h.2 hh, decide_eq_true h]
  · rw [in_Nf (by omega) hv hl, decide_eq_false h]
def tr1 (kd sr N o sd w : Nat) : Int32 := if okT kd sr N o sd w = true then nI (gp (sid kd) N (tnO N o w) (tnS (sid kd) sd w)) else (-1000002)
def ts1 (f : Nat → Int32) (k kd sr N o sd w h : Nat) : Nat → Int32 := if okT kd sr N o sd w = true then tnM f k (cd N (tnO N o w)) (tnS (sid kd) sd w) w h else f
def psp (kd sr N o sd : Nat) : Nat → Nat
  | 0 => 0
  | i + 1 => psp kd sr N o sd i ||| (if al kd sr N o sd (i + 1) = true then 1 * 2 ^ (i + 1) else 0)
def plc (N o w : Nat) : Nat := (pm N o).idxOf w
theorem k_plc : chkO (fun N o => (List.range N).all fun v => decide (plc N o (v + 1) < N) && (sz N o (plc N o (v + 1)) == v + 1) && (List.range (plc N o (v + 1))).all fun j => !(sz N o j == v + 1)) = true := by decide +kernel
theorem plc_ok {N o w : Nat} (hN : N ≤ 6) (ho : o < fac N) (hw : 1 ≤ w ∧ w ≤ N) : plc N o w < N ∧ sz N o (plc N o w) = w ∧ ∀ j, j < plc N o w → ¬ sz N o j = w := by
  have := dec1 (chkO_of k_plc hN ho) (w - 1) (by omega)
  rw [show w - 1 + 1 = w by omega] at this
  simp at this
  exact ⟨this.1.1, this.1.2, fun j hj => this.2 j hj⟩
/-- the greatest cake that is not at its place, good side above -/
def stc (N o sd : Nat) : Nat → Nat
  | 0 => 0
  | c + 1 => if sz N o c = c + 1 ∧ bt sd c = 0 then stc N o sd c else c + 1
theorem stc_go {N o sd c : Nat} (h : 1 ≤ c) (h1 : sz N o (c - 1) = c) (h2 : bt sd (c - 1) = 0) : stc N o sd c = stc N o sd (c - 1) := by
  obtain ⟨z, rfl⟩ : ∃ z, c = z + 1 := ⟨c - 1, by omega⟩
  simp only [Nat.add_sub_cancel] at h1 h2 ⊢
  rw [stc, if_pos ⟨h1, h2⟩]
theorem stc_st {N o sd c : Nat} (h : 1 ≤ c) (h1 : ¬ (sz N o (c - 1) = c ∧ bt sd (c - 1) = 0)) : stc N o sd c = c := by
  obtain ⟨z, rfl⟩ : ∃ z, c = z + 1 := ⟨c - 1, by omega⟩
  simp only [Nat.add_sub_cancel] at h1
  rw [stc, if_neg h1]
theorem stc_0 {N o sd : Nat} : ∀ c, stc N o sd c = 0 → srp N o sd c = true
  | 0, _ => rfl
  | c + 1, h => by
    rw [stc] at h
    split at h
    · next g => simp [srp, stc_0 c h, g.1, g.2]
    · omega
theorem stc_pos {N o sd : Nat} (h : srp N o sd N = false) : 1 ≤ stc N o sd N := by
  rcases Nat.eq_zero_or_pos (stc N o sd N) with g | g
  · rw [stc_0 N g] at h
    exact absurd h (by decide)
  · exact g
/-- the next turn of the simple way -/
def smt (sb : Bool) (N o sd : Nat) : Nat := if plc N o (stc N o sd N) = stc N o sd N - 1 then stc N o sd N else if 0 < plc N o (stc N o sd N) then plc N o (stc N o sd N) + 1 else if sb = true ∧ bt sd 0 = 0 then 1 else stc N o sd N
def sgn (f : Nat → Int32) (i t : Nat) : Int32 := if i < t then f i else (-1)
