theorem nxV_ng {kd sr N r m : Nat} (hh : shOK kd N sr) (hr : r < rR (sid kd) N) (hm : m ≤ N) (h : ¬ 0 ≤ nxV kd sr N r m) : aR1 kd sr N r m = false := by
  cases g : aR1 kd sr N r m with
  | false => rfl
  | true =>
    rw [nxV, g] at h
    have h1 := nx_lt (sb := sid kd) hh.N hr hm
    have h2 := rR_le hh
    exact absurd (nI_pos' (by omega)) h
theorem nxV_nn {kd sr N r m : Nat} (h : 0 ≤ nxV kd sr N r m) : aR1 kd sr N r m = true := by
  cases g : aR1 kd sr N r m with
  | true => rfl
  | false =>
    rw [nxV, if_neg (by rw [g]; decide)] at h
    exact absurd h (by decide)
