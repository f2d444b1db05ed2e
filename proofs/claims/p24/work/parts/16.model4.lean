def smA (kd N sr o sd w : Nat) : Int32 :=
  match w with
  | 0 => nI (spw kd N sr 22 o sd).1
  | 1 => nI (spw kd N sr 22 o sd).2.1
  | _ => bI (spw kd N sr 22 o sd).2.2
theorem in_out3 {x : Int32} (h : x.toInt < 0 ∨ 12 < x.toInt) : decide (nI 3 ≤ x ∧ x ≤ nI 9) = false := by
  rw [decide_eq_false_iff_not]
  intro hh
  have h1 := Int32.le_iff_toInt_le.mp hh.1
  have h2 := Int32.le_iff_toInt_le.mp hh.2
  rw [nI_toInt (by decide)] at h1
  rw [nI_toInt (by decide)] at h2
  omega
