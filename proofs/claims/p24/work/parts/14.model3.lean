def sof (kd N sr o sd : Nat) (md : Int32) (w : Nat) : Int32 :=
  match w with
  | 0 => nI kd
  | 1 => nI N
  | 2 => nI sr
  | 3 => nI (cd N o)
  | 4 => nI sd
  | 5 => nI (gp (sid kd) N o sd)
  | 6 => bI (srp N o sd N)
  | 7 => nI (rk (sid kd) N o sd)
  | 8 => nI (psp kd sr N o sd N)
  | _ => md
theorem sof_lo {f : Nat → Int32} {k kd N sr o sd w : Nat} (h : StkAt f k kd N sr o sd) (hw : w < 5) : some (Value.int (sof kd N sr o sd (f (8 + 6 * k + 5)) w)) = some (.int (f (8 + 6 * k + w))) := by
  obtain ⟨h0, h1, h2, h3, h4⟩ := h
  rcases (show w = 0 ∨ w = 1 ∨ w = 2 ∨ w = 3 ∨ w = 4 by omega) with rfl | rfl | rfl | rfl | rfl
  · rw [h0]; rfl
  · rw [h1]; rfl
  · rw [h2]; rfl
  · rw [h3]; rfl
  · rw [h4]; rfl
theorem fs_le (sb : Bool) {N : Nat} (hN : N ≤ 6) : fac N * sm sb N ≤ 46080 := by
  have h1 := (fac_le hN).1
  have h2 := sm_le (sb := sb) hN
  exact Nat.mul_le_mul h1 h2
theorem rk_all {sb : Bool} {N o sd : Nat} (ho : o < fac N) (hs : sd < sm sb N) : rk sb N o sd < fac N * sm sb N := by
  unfold rk
  cases sb with
  | false => simpa [sm] using ho
  | true =>
    simp only [sm, if_true] at hs ⊢
    have : (o + 1) * 2 ^ N ≤ fac N * 2 ^ N := Nat.mul_le_mul_right _ ho
    rw [Nat.add_mul] at this
    omega
theorem gp_lt (sb : Bool) {N : Nat} (hN : N ≤ 6) (o sd : Nat) : gp sb N o sd < 2 ^ 31 := by
  have := gpp_le sb N o sd N
  unfold gp
  omega
theorem lay_st {f : Nat → Int32} {k kd N sr o sd o2 sd2 : Nat} (h : StkAt f k kd N sr o sd) : StkAt (upd (upd f (8 + 6 * k + 3) (nI (cd N o2))) (8 + 6 * k + 4) (nI sd2)) k kd N sr o2 sd2 := by
  obtain ⟨h0, h1, h2, h3, h4⟩ := h
  refine ⟨?_, ?_, ?_, ?_, ?_⟩
  · rw [pk_un (by omega), pk_un (by omega)]; exact h0
  · rw [pk_un (by omega), pk_un (by omega)]; exact h1
  · rw [pk_un (by omega), pk_un (by omega)]; exact h2
  · rw [pk_un (by omega), pk_us]
  · rw [pk_us]
theorem sz_idk : (List.range 7).all (fun N => (List.range N).all fun j => sz N 0 j == j + 1) = true := by decide +kernel
theorem sz_id {N j : Nat} (hN : N ≤ 6) (hj : j < N) : sz N 0 j = j + 1 := by
  have := dec1 (dec1 sz_idk N (by omega)) j hj
  simpa using this
def stkM (f : Nat → Int32) (ns kd N sr : Nat) : Nat → Int32 := upd (upd (upd (upd (upd (upd (upd f (8 + 6 * ns) (nI kd)) (8 + 6 * ns + 1) (nI N)) (8 + 6 * ns + 2) (nI sr)) (8 + 6 * ns + 3) (nI (cdp N 0 N))) (8 + 6 * ns + 4) (nI 0)) (8 + 6 * ns + 5) (nI 0)) 0 (nI (ns + 1))
theorem sr_in {kd sr lo hi : Nat} (h : if kd = 3 then 1 ≤ sr ∧ sr ≤ 21 else sr = 0) (hlo : lo = if kd = 3 then 1 else 0) (hhi : hi = if kd = 3 then 21 else 0) : decide (nI lo ≤ nI sr ∧ nI sr ≤ nI hi) = true := by
  by_cases g : kd = 3
  · rw [if_pos g] at h hlo hhi
    exact in_N (by omega) (by omega) (by omega)
  · rw [if_neg g] at h hlo hhi
    exact in_N (by omega) (by omega) (by omega)
theorem i2c_N {w : Nat} (h : w < 65536) : ((nI w).toUInt32 % 65536).toInt32 = nI w := by
  rw [pk_char, pk_tn (by omega), Nat.mod_eq_of_lt h]
theorem nar_N {w : Nat} (h : w < 65536) : vp_nar .char (nI w) = nI w := by
  have h1 := (pk_charN h).1
  unfold vp_nar
  rw [h1]
