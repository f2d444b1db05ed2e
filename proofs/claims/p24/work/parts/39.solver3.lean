theorem Vld_R {kd N sr r : Nat} (h : shOK kd N sr) (hr : r < rR (sid kd) N) : Vld kd N sr (oR (sid kd) N r) (sR (sid kd) N r) := ⟨h, oR_lt hr, sR_lt⟩
theorem oR_nx {sb : Bool} {N r m : Nat} (hN : N ≤ 6) (h : m ≤ N) : oR sb N (nx sb N r m) = tnO N (oR sb N r) m := oR_rk (tnS_lt hN sR_lt h)
theorem sR_nx {sb : Bool} {N r m : Nat} (hN : N ≤ 6) (h : m ≤ N) : sR sb N (nx sb N r m) = tnS sb (sR sb N r) m := sR_rk (tnS_lt hN sR_lt h)
theorem srp_eq {kd N sr q : Nat} (hv : Vld kd N sr (oR (sid kd) N q) (sR (sid kd) N q)) (h : q = 0) : srp N (oR (sid kd) N q) (sR (sid kd) N q) N = true := by
  rw [srt_iff hv, h]
  unfold oR sR
  split <;> simp
theorem srp_ne {kd N sr q : Nat} (hv : Vld kd N sr (oR (sid kd) N q) (sR (sid kd) N q)) (h : q ≠ 0) : srp N (oR (sid kd) N q) (sR (sid kd) N q) N = false := by
  rw [srt_iff hv]
  cases e : (oR (sid kd) N q == 0 && sR (sid kd) N q == 0) with
  | false => rfl
  | true =>
    simp at e
    refine absurd ?_ h
    rw [rk_R (sid kd) N q, e.1, e.2, rk]
    split <;> simp
