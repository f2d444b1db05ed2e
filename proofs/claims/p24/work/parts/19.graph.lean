/-! ranks: all stacks of a kind by their numbers, and where their turns lead -/
def oR (sb : Bool) (N r : Nat) : Nat := if sb then r / 2 ^ N else r
def sR (sb : Bool) (N r : Nat) : Nat := if sb then r % 2 ^ N else 0
/-- how many there are -/
def rR (sb : Bool) (N : Nat) : Nat := fac N * sm sb N
def nx (sb : Bool) (N r m : Nat) : Nat := rk sb N (tnO N (oR sb N r) m) (tnS sb (sR sb N r) m)
def aR1 (kd sr N r m : Nat) : Bool := al kd sr N (oR (sid kd) N r) (sR (sid kd) N r) m
theorem two_pos (N : Nat) : 0 < 2 ^ N := Nat.pos_of_ne_zero (by simp)
theorem oR_lt {sb : Bool} {N r : Nat} (h : r < rR sb N) : oR sb N r < fac N := by
  cases sb with
  | false => simpa [oR, rR, sm] using h
  | true =>
    simp only [oR, rR, sm, if_true] at h ⊢
    exact (Nat.div_lt_iff_lt_mul (two_pos N)).mpr h
theorem sR_lt {sb : Bool} {N r : Nat} : sR sb N r < sm sb N := by
  cases sb with
  | false => simp [sR, sm]
  | true =>
    simp only [sR, sm, if_true]
    exact Nat.mod_lt _ (two_pos N)
theorem rk_R (sb : Bool) (N r : Nat) : r = rk sb N (oR sb N r) (sR sb N r) := by
  cases sb with
  | false => rfl
  | true =>
    simp only [rk, oR, sR, if_true]
    rw [Nat.mul_comm]
    exact (Nat.div_add_mod r (2 ^ N)).symm
theorem oR_rk {sb : Bool} {N o sd : Nat} (hs : sd < sm sb N) : oR sb N (rk sb N o sd) = o := by
  cases sb with
  | false => rfl
  | true =>
    simp only [sm, if_true] at hs
    simp only [oR, rk, if_true]
    rw [Nat.mul_comm, Nat.mul_add_div (two_pos N), Nat.div_eq_of_lt hs, Nat.add_zero]
theorem sR_rk {sb : Bool} {N o sd : Nat} (hs : sd < sm sb N) : sR sb N (rk sb N o sd) = sd := by
  cases sb with
  | false => simp only [sm] at hs; simp [sR]; simp at hs; exact hs.symm
  | true =>
    simp only [sm, if_true] at hs
    simp only [sR, rk, if_true]
    rw [Nat.mul_comm, Nat.mul_add_mod, Nat.mod_eq_of_lt hs]
theorem rk_ltR {sb : Bool} {N o sd : Nat} (ho : o < fac N) (hs : sd < sm sb N) : rk sb N o sd < rR sb N := rk_all ho hs
theorem nx_lt {sb : Bool} {N r m : Nat} (hN : N ≤ 6) (h : r < rR sb N) (hm : m ≤ N) : nx sb N r m < rR sb N := rk_ltR (tnO_lt hN (oR_lt h) hm) (tnS_lt hN sR_lt hm)
theorem nx_in {sb : Bool} {N r m : Nat} (hN : N ≤ 6) (h : r < rR sb N) (hm : m ≤ N) : nx sb N (nx sb N r m) m = r := by
  have h1 : oR sb N (nx sb N r m) = tnO N (oR sb N r) m := oR_rk (tnS_lt hN sR_lt hm)
  have h2 : sR sb N (nx sb N r m) = tnS sb (sR sb N r) m := sR_rk (tnS_lt hN sR_lt hm)
  unfold nx at h1 h2 ⊢
  rw [h1, h2, tnO_in hN (oR_lt h) hm, tnS_in hN sR_lt hm]
  exact (rk_R sb N r).symm
theorem facs : ∀ N, N < 6 → fac N * 2 ^ N ≤ 3840 := by decide +kernel
theorem rR_le {kd N sr : Nat} (h : shOK kd N sr) : rR (sid kd) N ≤ 3840 := by
  have hN := h.2.2.1
  cases e : sid kd with
  | true =>
    rw [e] at hN
    simp only [if_true] at hN
    simp only [rR, sm, if_true]
    exact facs N (by omega)
  | false =>
    have := (fac_le h.N).1
    simp only [rR, sm]
    simp
    omega
theorem rR_pos {sb : Bool} {N : Nat} (hN : N ≤ 6) : 0 < rR sb N := by
  have h1 := (fac_le hN).2
  have h2 : 0 < sm sb N := by
    cases sb with
    | false => simp [sm]
    | true => simp only [sm, if_true]; exact two_pos N
  exact Nat.mul_pos h1 h2
/-- the reference's table: where a turn leads, if it is possible -/
def nxV (kd sr N r m : Nat) : Int32 := if aR1 kd sr N r m = true then nI (nx (sid kd) N r m) else (-1)
def NxIs (f : Nat → Int32) (kd sr N R : Nat) : Prop := ∀ r, r < R → ∀ m, m < N → f (6 * r + m) = nxV kd sr N r (m + 1)
theorem nx_step {f : Nat → Int32} {kd sr N r m : Nat} {x : Int32} (hN : N ≤ 6) (hm : m < N) (h1 : NxIs f kd sr N r) (h2 : ∀ j, j < m → f (6 * r + j) = nxV kd sr N r (j + 1)) (hx : x = nxV kd sr N r (m + 1)) :
    NxIs (upd f (6 * r + (m + 1) - 1) x) kd sr N r ∧ ∀ j, j < m + 1 → upd f (6 * r + (m + 1) - 1) x (6 * r + j) = nxV kd sr N r (j + 1) := by
  refine ⟨fun a ha j hj => ?_, fun j hj => ?_⟩
  · rw [pk_un (by omega)]
    exact h1 a ha j hj
  · rcases Nat.lt_or_eq_of_le (Nat.le_of_lt_succ hj) with e | e
    · rw [pk_un (by omega)]
      exact h2 j e
    · subst e
      rw [show 6 * r + (j + 1) - 1 = 6 * r + j by omega, pk_us, hx]
theorem nx_row {f : Nat → Int32} {kd sr N r m : Nat} (hm : N ≤ m) (h1 : NxIs f kd sr N r) (h2 : ∀ j, j < m → f (6 * r + j) = nxV kd sr N r (j + 1)) : NxIs f kd sr N (r + 1) := fun a ha j hj => by
  rcases Nat.lt_or_eq_of_le (Nat.le_of_lt_succ ha) with e | e
  · exact h1 a e j hj
  · subst e
    exact h2 j (by omega)
/-- the rows of t turns that sort a stack -/
def wy (kd sr N : Nat) : Nat → Nat → Nat
  | 0, r => if r = 0 then 1 else 0
  | t + 1, r => ((List.range N).map fun m => if aR1 kd sr N r (m + 1) = true then wy kd sr N t (nx (sid kd) N r (m + 1)) else 0).sum
/-- part of the sum -/
def wyp (kd sr N t r : Nat) : Nat → Nat
  | 0 => 0
  | i + 1 => wyp kd sr N t r i + (if aR1 kd sr N r (i + 1) = true then wy kd sr N t (nx (sid kd) N r (i + 1)) else 0)
theorem wyp_N (kd sr N t r : Nat) : ∀ i, wyp kd sr N t r i = ((List.range i).map fun m => if aR1 kd sr N r (m + 1) = true then wy kd sr N t (nx (sid kd) N r (m + 1)) else 0).sum
  | 0 => rfl
  | i + 1 => by
    rw [wyp, wyp_N kd sr N t r i, List.range_succ]
    simp
theorem wy_s (kd sr N t r : Nat) : wyp kd sr N t r N = wy kd sr N (t + 1) r := wyp_N kd sr N t r N
