def sof (kd N sr o sd : Nat) (md : Int32) (w : Nat) : Int32 :=
  match w with
  | 0 => nI kd
  | 1 => nI N
  | 2 => nI sr
  | 3 => nI (cd N o)
  | 4 => nI sd
  | 5 => nI (gp (sid kd) N o sd)
  | 6 => bI (srp N o sd N)
  | 7 => nI (rk (sid kd) N o sd)
  | 8 => nI (psp kd sr N o sd N)
  | _ => md
theorem sof_lo {f : Nat → Int32} {k kd N sr o sd w : Nat} (h : StkAt f k kd N sr o sd) (hw : w < 5) : some (Value.int (sof kd N sr o sd (f (8 + 6 * k + 5)) w)) = some (.int (f (8 + 6 * k + w))) := by
  obtain ⟨h0, h1, h2, h3, h4⟩ := h
  rcases (show w = 0 ∨ w = 1 ∨ w = 2 ∨ w = 3 ∨ w = 4 by omega) with rfl | rfl | rfl | rfl | rfl
  · rw [h0]; rfl
  · rw [h1]; rfl
  · rw [h2]; rfl
  · rw [h3]; rfl
  · rw [h4]; rfl
theorem fs_le (sb : Bool) {N : Nat} (hN : N ≤ 6) : fac N * sm sb N ≤ 46080 := by
  have h1 := (fac_le hN).1
  have h2 := sm_le (sb := sb) hN
  exact Nat.mul_le_mul h1 h2
theorem rk_all {sb : Bool} {N o sd : Nat} (ho : o < fac N) (hs : sd < sm sb N) : rk sb N o sd < fac N * sm sb N := by
  unfold rk
  cases sb with
  | false => simpa [sm] using ho
  | true =>
    simp only [sm, if_true] at hs ⊢
    have : (o + 1) * 2 ^ N ≤ fac N * 2 ^ N := Nat.mul_le_mul_right _ ho
    rw [Nat.add_mul] at this
    omega
theorem gp_lt (sb : Bool) {N : Nat} (hN : N ≤ 6) (o sd : Nat) : gp sb N o sd < 2 ^ 31 := by
  have := gpp_le sb N o sd N
  unfold gp
  omega
theorem lay_st {f : Nat → Int32} {k kd N sr o sd o2 sd2 : Nat} (h : StkAt f k kd N sr o sd) : StkAt (upd (upd f (8 + 6 * k + 3) (nI (cd N o2))) (8 + 6 * k + 4) (nI sd2)) k kd N sr o2 sd2 := by
  obtain ⟨h0, h1, h2, h3, h4⟩ := h
  refine ⟨?_, ?_, ?_, ?_, ?_⟩
  · rw [pk_un (by omega), pk_un (by omega)]; exact h0
  · rw [pk_un (by omega), pk_un (by omega)]; exact h1
  · rw [pk_un (by omega), pk_un (by omega)]; exact h2
  · rw [pk_un (by omega), pk_us]
  · rw [pk_us]
theorem sz_idk : (List.range 7).all (fun N => (List.range N).all fun j => sz N 0 j == j + 1) = true := by decide +kernel
theorem sz_id {N j : Nat} (hN : N ≤ 6) (hj : j < N) : sz N 0 j = j + 1 := by
  have := dec1 (dec1 sz_idk N (by omega)) j hj
  simpa using this
def stkM (f : Nat → Int32) (ns kd N sr : Nat) : Nat → Int32 := upd (upd (upd (upd (upd (upd (upd f (8 + 6 * ns) (nI kd)) (8 + 6 * ns + 1) (nI N)) (8 + 6 * ns + 2) (nI sr)) (8 + 6 * ns + 3) (nI (cdp N 0 N))) (8 + 6 * ns + 4) (nI 0)) (8 + 6 * ns + 5) (nI 0)) 0 (nI (ns + 1))
theorem sr_in {kd sr lo hi : Nat} (h : if kd = 3 then 1 ≤ sr ∧ sr ≤ 21 else sr = 0) (hlo : lo = if kd = 3 then 1 else 0) (hhi : hi = if kd = 3 then 21 else 0) : decide (nI lo ≤ nI sr ∧ nI sr ≤ nI hi) = true := by
  by_cases g : kd = 3
  · rw [if_pos g] at h hlo hhi
    exact in_N (by omega) (by omega) (by omega)
  · rw [if_neg g] at h hlo hhi
    exact in_N (by omega) (by omega) (by omega)
theorem i2c_N {w : Nat} (h : w < 65536) : ((nI w).toUInt32 % 65536).toInt32 = nI w := by
  rw [pk_char, pk_tn (by omega), Nat.mod_eq_of_lt h]
theorem nar_N {w : Nat} (h : w < 65536) : vp_nar .char (nI w) = nI w := by
  have h1 := (pk_charN h).1
  unfold vp_nar
  rw [h1]

abbrev rm_X7_lay_x : Room := { frames := 2, cells := 0, slots := 0, locals := 43 }
set_option maxRecDepth 100000 in
set_option maxHeartbeats 4000000 in
theorem c_X7_lay_x {l : Launch} {G : gG} {n : Nat} {σ : gS} {m0 : Nat} {xstates xtyped xat xreason xdone xkind xn xstrength : Int32} {fs fwas fbegun faside ftext fsize fburnt fnext ffar fthen fqueue frankAt fturnAt : Nat → Int32} {x y z : Int32} {ns : Nat} (hns : fs 0 = nI ns) (hbad : isS x ns = false) : GM l G yX7_lay cX7_lay 4 (some .int) rm_X7_lay_x n (mW G σ m0 [xstates, xtyped, xat, xreason, xdone, xkind, xn, xstrength] [fs, fwas, fbegun, faside, ftext, fsize, fburnt, fnext, ffar, fthen, fqueue, frankAt, fturnAt]) [.ref m0, .int x, .int y, .int z] (fun rv n2 σ2 => some (.int (-1000001)) = rv ∧ n = n2 ∧ (mW G σ m0 [xstates, xtyped, xat, xreason, xdone, xkind, xn, xstrength] [fs, fwas, fbegun, faside, ftext, fsize, fburnt, fnext, ffar, fthen, fqueue, frankAt, fturnAt]) = σ2) := by
  refine GM.intro (by decide +kernel) (Nat.le_of_ble_eq_true rfl) (fun p e s m args below meth c C hr hlocks hname po hpo => ?_)
  have C : Cx p s m args c cX7_lay 4 RX7 G := C
  refine r_aload_n C dX7_lay_0 rfl 0 rfl ?_
  refine r_iload_n C dX7_lay_1 rfl 1 rfl ?_
  refine r_callV (As := [.int x]) C (c_X7_isStack (x := x) (ns := ns) (by first | assumption | omega)) wM_X7_98 wI_X7_isStack wN_X7 wC_X7_isStack wV_X7_isStack hd_X7_isStack ⟨Nat.le_of_ble_eq_true rfl, Nat.le_of_ble_eq_true rfl⟩ rfl (mW_o _ _ _ _ _) rfl rfl (Nat.le_of_ble_eq_true rfl) dX7_lay_2 ⟨Nat.le_of_ble_eq_true rfl, Nat.le_of_ble_eq_true rfl⟩ (fun rv n2 σ2 hp => ?_)
  obtain ⟨rfl, rfl, rfl⟩ := hp
  refine V.eq (σ2 := (mW G σ m0 [xstates, xtyped, xat, xreason, xdone, xkind, xn, xstrength] [fs, fwas, fbegun, faside, ftext, fsize, fburnt, fnext, ffar, fthen, fqueue, frankAt, fturnAt])) (n2 := n) (st2 := [.int (bI (isS x ns))]) rfl rfl rfl rfl ?_
  refine V.top (y := bI false) (congrArg bI (hbad)) ?_
  refine r_if_eqB (tgt := 55) C dX7_lay_5 (by decide) (fun _ => ?_) (fun z => absurd z (by decide))
  refine r_ldc C wQ_X7_54 dX7_lay_55 ?_
  exact r_iret C hr hlocks (Nat.le_of_ble_eq_true rfl) (Nat.le_of_ble_eq_true rfl) dX7_lay_57 (hpo _ _ _ ⟨rfl, rfl, rfl⟩)

abbrev rm_X7_turn_x : Room := { frames := 2, cells := 0, slots := 0, locals := 43 }
set_option maxRecDepth 100000 in
set_option maxHeartbeats 4000000 in
theorem c_X7_turn_x {l : Launch} {G : gG} {n : Nat} {σ : gS} {m0 : Nat} {xstates xtyped xat xreason xdone xkind xn xstrength : Int32} {fs fwas fbegun faside ftext fsize fburnt fnext ffar fthen fqueue frankAt fturnAt : Nat → Int32} {x y : Int32} {ns : Nat} (hns : fs 0 = nI ns) (hbad : isS x ns = false) : GM l G yX7_turn cX7_turn 3 (some .int) rm_X7_turn_x n (mW G σ m0 [xstates, xtyped, xat, xreason, xdone, xkind, xn, xstrength] [fs, fwas, fbegun, faside, ftext, fsize, fburnt, fnext, ffar, fthen, fqueue, frankAt, fturnAt]) [.ref m0, .int x, .int y] (fun rv n2 σ2 => some (.int (-1000001)) = rv ∧ n = n2 ∧ (mW G σ m0 [xstates, xtyped, xat, xreason, xdone, xkind, xn, xstrength] [fs, fwas, fbegun, faside, ftext, fsize, fburnt, fnext, ffar, fthen, fqueue, frankAt, fturnAt]) = σ2) := by
  refine GM.intro (by decide +kernel) (Nat.le_of_ble_eq_true rfl) (fun p e s m args below meth c C hr hlocks hname po hpo => ?_)
  have C : Cx p s m args c cX7_turn 3 RX7 G := C
  refine r_aload_n C dX7_turn_0 rfl 0 rfl ?_
  refine r_iload_n C dX7_turn_1 rfl 1 rfl ?_
  refine r_callV (As := [.int x]) C (c_X7_isStack (x := x) (ns := ns) (by first | assumption | omega)) wM_X7_98 wI_X7_isStack wN_X7 wC_X7_isStack wV_X7_isStack hd_X7_isStack ⟨Nat.le_of_ble_eq_true rfl, Nat.le_of_ble_eq_true rfl⟩ rfl (mW_o _ _ _ _ _) rfl rfl (Nat.le_of_ble_eq_true rfl) dX7_turn_2 ⟨Nat.le_of_ble_eq_true rfl, Nat.le_of_ble_eq_true rfl⟩ (fun rv n2 σ2 hp => ?_)
  obtain ⟨rfl, rfl, rfl⟩ := hp
  refine V.eq (σ2 := (mW G σ m0 [xstates, xtyped, xat, xreason, xdone, xkind, xn, xstrength] [fs, fwas, fbegun, faside, ftext, fsize, fburnt, fnext, ffar, fthen, fqueue, frankAt, fturnAt])) (n2 := n) (st2 := [.int (bI (isS x ns))]) rfl rfl rfl rfl ?_
  refine V.top (y := bI false) (congrArg bI (hbad)) ?_
  refine r_if_eqB (tgt := 22) C dX7_turn_5 (by decide) (fun _ => ?_) (fun z => absurd z (by decide))
  refine r_ldc C wQ_X7_54 dX7_turn_22 ?_
  exact r_iret C hr hlocks (Nat.le_of_ble_eq_true rfl) (Nat.le_of_ble_eq_true rfl) dX7_turn_24 (hpo _ _ _ ⟨rfl, rfl, rfl⟩)

abbrev rm_X7_doRow_x : Room := { frames := 2, cells := 0, slots := 0, locals := 43 }
set_option maxRecDepth 100000 in
set_option maxHeartbeats 4000000 in
theorem c_X7_doRow_x {l : Launch} {G : gG} {n : Nat} {σ : gS} {m0 : Nat} {xstates xtyped xat xreason xdone xkind xn xstrength : Int32} {fs fwas fbegun faside ftext fsize fburnt fnext ffar fthen fqueue frankAt fturnAt : Nat → Int32} {x y : Int32} {ns : Nat} (hns : fs 0 = nI ns) (hbad : isS x ns = false) : GM l G yX7_doRow cX7_doRow 6 (some .int) rm_X7_doRow_x n (mW G σ m0 [xstates, xtyped, xat, xreason, xdone, xkind, xn, xstrength] [fs, fwas, fbegun, faside, ftext, fsize, fburnt, fnext, ffar, fthen, fqueue, frankAt, fturnAt]) [.ref m0, .int x, .int y] (fun rv n2 σ2 => some (.int (-1000001)) = rv ∧ n = n2 ∧ (mW G σ m0 [xstates, xtyped, xat, xreason, xdone, xkind, xn, xstrength] [fs, fwas, fbegun, faside, ftext, fsize, fburnt, fnext, ffar, fthen, fqueue, frankAt, fturnAt]) = σ2) := by
  refine GM.intro (by decide +kernel) (Nat.le_of_ble_eq_true rfl) (fun p e s m args below meth c C hr hlocks hname po hpo => ?_)
  have C : Cx p s m args c cX7_doRow 6 RX7 G := C
  refine r_aload_n C dX7_doRow_0 rfl 0 rfl ?_
  refine r_iload_n C dX7_doRow_1 rfl 1 rfl ?_
  refine r_callV (As := [.int x]) C (c_X7_isStack (x := x) (ns := ns) (by first | assumption | omega)) wM_X7_98 wI_X7_isStack wN_X7 wC_X7_isStack wV_X7_isStack hd_X7_isStack ⟨Nat.le_of_ble_eq_true rfl, Nat.le_of_ble_eq_true rfl⟩ rfl (mW_o _ _ _ _ _) rfl rfl (Nat.le_of_ble_eq_true rfl) dX7_doRow_2 ⟨Nat.le_of_ble_eq_true rfl, Nat.le_of_ble_eq_true rfl⟩ (fun rv n2 σ2 hp => ?_)
  obtain ⟨rfl, rfl, rfl⟩ := hp
  refine V.eq (σ2 := (mW G σ m0 [xstates, xtyped, xat, xreason, xdone, xkind, xn, xstrength] [fs, fwas, fbegun, faside, ftext, fsize, fburnt, fnext, ffar, fthen, fqueue, frankAt, fturnAt])) (n2 := n) (st2 := [.int (bI (isS x ns))]) rfl rfl rfl rfl ?_
  refine V.top (y := bI false) (congrArg bI (hbad)) ?_
  refine r_if_eqB (tgt := 18) C dX7_doRow_5 (by decide) (fun _ => ?_) (fun z => absurd z (by decide))
  refine r_ldc C wQ_X7_54 dX7_doRow_18 ?_
  exact r_iret C hr hlocks (Nat.le_of_ble_eq_true rfl) (Nat.le_of_ble_eq_true rfl) dX7_doRow_20 (hpo _ _ _ ⟨rfl, rfl, rfl⟩)

abbrev rm_X7_stackOf_x : Room := { frames := 2, cells := 0, slots := 0, locals := 43 }
set_option maxRecDepth 100000 in
set_option maxHeartbeats 4000000 in
theorem c_X7_stackOf_x {l : Launch} {G : gG} {n : Nat} {σ : gS} {m0 : Nat} {xstates xtyped xat xreason xdone xkind xn xstrength : Int32} {fs fwas fbegun faside ftext fsize fburnt fnext ffar fthen fqueue frankAt fturnAt : Nat → Int32} {x y : Int32} {ns : Nat} (hns : fs 0 = nI ns) (hbad : isS x ns = false) : GM l G yX7_stackOf cX7_stackOf 3 (some .int) rm_X7_stackOf_x n (mW G σ m0 [xstates, xtyped, xat, xreason, xdone, xkind, xn, xstrength] [fs, fwas, fbegun, faside, ftext, fsize, fburnt, fnext, ffar, fthen, fqueue, frankAt, fturnAt]) [.ref m0, .int x, .int y] (fun rv n2 σ2 => some (.int (-1000001)) = rv ∧ n = n2 ∧ (mW G σ m0 [xstates, xtyped, xat, xreason, xdone, xkind, xn, xstrength] [fs, fwas, fbegun, faside, ftext, fsize, fburnt, fnext, ffar, fthen, fqueue, frankAt, fturnAt]) = σ2) := by
  refine GM.intro (by decide +kernel) (Nat.le_of_ble_eq_true rfl) (fun p e s m args below meth c C hr hlocks hname po hpo => ?_)
  have C : Cx p s m args c cX7_stackOf 3 RX7 G := C
  refine r_aload_n C dX7_stackOf_0 rfl 0 rfl ?_
  refine r_iload_n C dX7_stackOf_1 rfl 1 rfl ?_
  refine r_callV (As := [.int x]) C (c_X7_isStack (x := x) (ns := ns) (by first | assumption | omega)) wM_X7_98 wI_X7_isStack wN_X7 wC_X7_isStack wV_X7_isStack hd_X7_isStack ⟨Nat.le_of_ble_eq_true rfl, Nat.le_of_ble_eq_true rfl⟩ rfl (mW_o _ _ _ _ _) rfl rfl (Nat.le_of_ble_eq_true rfl) dX7_stackOf_2 ⟨Nat.le_of_ble_eq_true rfl, Nat.le_of_ble_eq_true rfl⟩ (fun rv n2 σ2 hp => ?_)
  obtain ⟨rfl, rfl, rfl⟩ := hp
  refine V.eq (σ2 := (mW G σ m0 [xstates, xtyped, xat, xreason, xdone, xkind, xn, xstrength] [fs, fwas, fbegun, faside, ftext, fsize, fburnt, fnext, ffar, fthen, fqueue, frankAt, fturnAt])) (n2 := n) (st2 := [.int (bI (isS x ns))]) rfl rfl rfl rfl ?_
  refine V.top (y := bI false) (congrArg bI (hbad)) ?_
  refine r_if_eqB (tgt := 18) C dX7_stackOf_5 (by decide) (fun _ => ?_) (fun z => absurd z (by decide))
  refine r_ldc C wQ_X7_54 dX7_stackOf_18 ?_
  exact r_iret C hr hlocks (Nat.le_of_ble_eq_true rfl) (Nat.le_of_ble_eq_true rfl) dX7_stackOf_20 (hpo _ _ _ ⟨rfl, rfl, rfl⟩)

abbrev rm_X7_cakeAt_x : Room := { frames := 2, cells := 0, slots := 0, locals := 43 }
set_option maxRecDepth 100000 in
set_option maxHeartbeats 4000000 in
theorem c_X7_cakeAt_x {l : Launch} {G : gG} {n : Nat} {σ : gS} {m0 : Nat} {xstates xtyped xat xreason xdone xkind xn xstrength : Int32} {fs fwas fbegun faside ftext fsize fburnt fnext ffar fthen fqueue frankAt fturnAt : Nat → Int32} {x y : Int32} {ns : Nat} (hns : fs 0 = nI ns) (hbad : isS x ns = false) : GM l G yX7_cakeAt cX7_cakeAt 3 (some .int) rm_X7_cakeAt_x n (mW G σ m0 [xstates, xtyped, xat, xreason, xdone, xkind, xn, xstrength] [fs, fwas, fbegun, faside, ftext, fsize, fburnt, fnext, ffar, fthen, fqueue, frankAt, fturnAt]) [.ref m0, .int x, .int y] (fun rv n2 σ2 => some (.int (-1000001)) = rv ∧ n = n2 ∧ (mW G σ m0 [xstates, xtyped, xat, xreason, xdone, xkind, xn, xstrength] [fs, fwas, fbegun, faside, ftext, fsize, fburnt, fnext, ffar, fthen, fqueue, frankAt, fturnAt]) = σ2) := by
  refine GM.intro (by decide +kernel) (Nat.le_of_ble_eq_true rfl) (fun p e s m args below meth c C hr hlocks hname po hpo => ?_)
  have C : Cx p s m args c cX7_cakeAt 3 RX7 G := C
  refine r_aload_n C dX7_cakeAt_0 rfl 0 rfl ?_
  refine r_iload_n C dX7_cakeAt_1 rfl 1 rfl ?_
  refine r_callV (As := [.int x]) C (c_X7_isStack (x := x) (ns := ns) (by first | assumption | omega)) wM_X7_98 wI_X7_isStack wN_X7 wC_X7_isStack wV_X7_isStack hd_X7_isStack ⟨Nat.le_of_ble_eq_true rfl, Nat.le_of_ble_eq_true rfl⟩ rfl (mW_o _ _ _ _ _) rfl rfl (Nat.le_of_ble_eq_true rfl) dX7_cakeAt_2 ⟨Nat.le_of_ble_eq_true rfl, Nat.le_of_ble_eq_true rfl⟩ (fun rv n2 σ2 hp => ?_)
  obtain ⟨rfl, rfl, rfl⟩ := hp
  refine V.eq (σ2 := (mW G σ m0 [xstates, xtyped, xat, xreason, xdone, xkind, xn, xstrength] [fs, fwas, fbegun, faside, ftext, fsize, fburnt, fnext, ffar, fthen, fqueue, frankAt, fturnAt])) (n2 := n) (st2 := [.int (bI (isS x ns))]) rfl rfl rfl rfl ?_
  refine V.top (y := bI false) (congrArg bI (hbad)) ?_
  refine r_if_eqB (tgt := 24) C dX7_cakeAt_5 (by decide) (fun _ => ?_) (fun z => absurd z (by decide))
  refine r_ldc C wQ_X7_54 dX7_cakeAt_24 ?_
  exact r_iret C hr hlocks (Nat.le_of_ble_eq_true rfl) (Nat.le_of_ble_eq_true rfl) dX7_cakeAt_26 (hpo _ _ _ ⟨rfl, rfl, rfl⟩)

abbrev rm_X7_gapsBehind_x : Room := { frames := 2, cells := 0, slots := 0, locals := 43 }
set_option maxRecDepth 100000 in
set_option maxHeartbeats 4000000 in
theorem c_X7_gapsBehind_x {l : Launch} {G : gG} {n : Nat} {σ : gS} {m0 : Nat} {xstates xtyped xat xreason xdone xkind xn xstrength : Int32} {fs fwas fbegun faside ftext fsize fburnt fnext ffar fthen fqueue frankAt fturnAt : Nat → Int32} {x y : Int32} {ns : Nat} (hns : fs 0 = nI ns) (hbad : isS x ns = false) : GM l G yX7_gapsBehind cX7_gapsBehind 3 (some .int) rm_X7_gapsBehind_x n (mW G σ m0 [xstates, xtyped, xat, xreason, xdone, xkind, xn, xstrength] [fs, fwas, fbegun, faside, ftext, fsize, fburnt, fnext, ffar, fthen, fqueue, frankAt, fturnAt]) [.ref m0, .int x, .int y] (fun rv n2 σ2 => some (.int (-1000001)) = rv ∧ n = n2 ∧ (mW G σ m0 [xstates, xtyped, xat, xreason, xdone, xkind, xn, xstrength] [fs, fwas, fbegun, faside, ftext, fsize, fburnt, fnext, ffar, fthen, fqueue, frankAt, fturnAt]) = σ2) := by
  refine GM.intro (by decide +kernel) (Nat.le_of_ble_eq_true rfl) (fun p e s m args below meth c C hr hlocks hname po hpo => ?_)
  have C : Cx p s m args c cX7_gapsBehind 3 RX7 G := C
  refine r_aload_n C dX7_gapsBehind_0 rfl 0 rfl ?_
  refine r_iload_n C dX7_gapsBehind_1 rfl 1 rfl ?_
  refine r_callV (As := [.int x]) C (c_X7_isStack (x := x) (ns := ns) (by first | assumption | omega)) wM_X7_98 wI_X7_isStack wN_X7 wC_X7_isStack wV_X7_isStack hd_X7_isStack ⟨Nat.le_of_ble_eq_true rfl, Nat.le_of_ble_eq_true rfl⟩ rfl (mW_o _ _ _ _ _) rfl rfl (Nat.le_of_ble_eq_true rfl) dX7_gapsBehind_2 ⟨Nat.le_of_ble_eq_true rfl, Nat.le_of_ble_eq_true rfl⟩ (fun rv n2 σ2 hp => ?_)
  obtain ⟨rfl, rfl, rfl⟩ := hp
  refine V.eq (σ2 := (mW G σ m0 [xstates, xtyped, xat, xreason, xdone, xkind, xn, xstrength] [fs, fwas, fbegun, faside, ftext, fsize, fburnt, fnext, ffar, fthen, fqueue, frankAt, fturnAt])) (n2 := n) (st2 := [.int (bI (isS x ns))]) rfl rfl rfl rfl ?_
  refine V.top (y := bI false) (congrArg bI (hbad)) ?_
  refine r_if_eqB (tgt := 22) C dX7_gapsBehind_5 (by decide) (fun _ => ?_) (fun z => absurd z (by decide))
  refine r_ldc C wQ_X7_54 dX7_gapsBehind_22 ?_
  exact r_iret C hr hlocks (Nat.le_of_ble_eq_true rfl) (Nat.le_of_ble_eq_true rfl) dX7_gapsBehind_24 (hpo _ _ _ ⟨rfl, rfl, rfl⟩)

abbrev rm_X7_fewest_x : Room := { frames := 2, cells := 0, slots := 0, locals := 43 }
set_option maxRecDepth 100000 in
set_option maxHeartbeats 4000000 in
theorem c_X7_fewest_x {l : Launch} {G : gG} {n : Nat} {σ : gS} {m0 : Nat} {xstates xtyped xat xreason xdone xkind xn xstrength : Int32} {fs fwas fbegun faside ftext fsize fburnt fnext ffar fthen fqueue frankAt fturnAt : Nat → Int32} {x y : Int32} {ns : Nat} (hns : fs 0 = nI ns) (hbad : isS x ns = false) : GM l G yX7_fewest cX7_fewest 6 (some .int) rm_X7_fewest_x n (mW G σ m0 [xstates, xtyped, xat, xreason, xdone, xkind, xn, xstrength] [fs, fwas, fbegun, faside, ftext, fsize, fburnt, fnext, ffar, fthen, fqueue, frankAt, fturnAt]) [.ref m0, .int x, .int y] (fun rv n2 σ2 => some (.int (-1000001)) = rv ∧ n = n2 ∧ (mW G σ m0 [xstates, xtyped, xat, xreason, xdone, xkind, xn, xstrength] [fs, fwas, fbegun, faside, ftext, fsize, fburnt, fnext, ffar, fthen, fqueue, frankAt, fturnAt]) = σ2) := by
  refine GM.intro (by decide +kernel) (Nat.le_of_ble_eq_true rfl) (fun p e s m args below meth c C hr hlocks hname po hpo => ?_)
  have C : Cx p s m args c cX7_fewest 6 RX7 G := C
  refine r_aload_n C dX7_fewest_0 rfl 0 rfl ?_
  refine r_iload_n C dX7_fewest_1 rfl 1 rfl ?_
  refine r_callV (As := [.int x]) C (c_X7_isStack (x := x) (ns := ns) (by first | assumption | omega)) wM_X7_98 wI_X7_isStack wN_X7 wC_X7_isStack wV_X7_isStack hd_X7_isStack ⟨Nat.le_of_ble_eq_true rfl, Nat.le_of_ble_eq_true rfl⟩ rfl (mW_o _ _ _ _ _) rfl rfl (Nat.le_of_ble_eq_true rfl) dX7_fewest_2 ⟨Nat.le_of_ble_eq_true rfl, Nat.le_of_ble_eq_true rfl⟩ (fun rv n2 σ2 hp => ?_)
  obtain ⟨rfl, rfl, rfl⟩ := hp
  refine V.eq (σ2 := (mW G σ m0 [xstates, xtyped, xat, xreason, xdone, xkind, xn, xstrength] [fs, fwas, fbegun, faside, ftext, fsize, fburnt, fnext, ffar, fthen, fqueue, frankAt, fturnAt])) (n2 := n) (st2 := [.int (bI (isS x ns))]) rfl rfl rfl rfl ?_
  refine V.top (y := bI false) (congrArg bI (hbad)) ?_
  refine r_if_eqB (tgt := 17) C dX7_fewest_5 (by decide) (fun _ => ?_) (fun z => absurd z (by decide))
  refine r_ldc C wQ_X7_54 dX7_fewest_17 ?_
  exact r_iret C hr hlocks (Nat.le_of_ble_eq_true rfl) (Nat.le_of_ble_eq_true rfl) dX7_fewest_19 (hpo _ _ _ ⟨rfl, rfl, rfl⟩)

abbrev rm_X7_leastWork_x : Room := { frames := 2, cells := 0, slots := 0, locals := 43 }
set_option maxRecDepth 100000 in
set_option maxHeartbeats 4000000 in
theorem c_X7_leastWork_x {l : Launch} {G : gG} {n : Nat} {σ : gS} {m0 : Nat} {xstates xtyped xat xreason xdone xkind xn xstrength : Int32} {fs fwas fbegun faside ftext fsize fburnt fnext ffar fthen fqueue frankAt fturnAt : Nat → Int32} {x  : Int32} {ns : Nat} (hns : fs 0 = nI ns) (hbad : isS x ns = false) : GM l G yX7_leastWork cX7_leastWork 7 (some .int) rm_X7_leastWork_x n (mW G σ m0 [xstates, xtyped, xat, xreason, xdone, xkind, xn, xstrength] [fs, fwas, fbegun, faside, ftext, fsize, fburnt, fnext, ffar, fthen, fqueue, frankAt, fturnAt]) [.ref m0, .int x] (fun rv n2 σ2 => some (.int (-1000001)) = rv ∧ n = n2 ∧ (mW G σ m0 [xstates, xtyped, xat, xreason, xdone, xkind, xn, xstrength] [fs, fwas, fbegun, faside, ftext, fsize, fburnt, fnext, ffar, fthen, fqueue, frankAt, fturnAt]) = σ2) := by
  refine GM.intro (by decide +kernel) (Nat.le_of_ble_eq_true rfl) (fun p e s m args below meth c C hr hlocks hname po hpo => ?_)
  have C : Cx p s m args c cX7_leastWork 7 RX7 G := C
  refine r_aload_n C dX7_leastWork_0 rfl 0 rfl ?_
  refine r_iload_n C dX7_leastWork_1 rfl 1 rfl ?_
  refine r_callV (As := [.int x]) C (c_X7_isStack (x := x) (ns := ns) (by first | assumption | omega)) wM_X7_98 wI_X7_isStack wN_X7 wC_X7_isStack wV_X7_isStack hd_X7_isStack ⟨Nat.le_of_ble_eq_true rfl, Nat.le_of_ble_eq_true rfl⟩ rfl (mW_o _ _ _ _ _) rfl rfl (Nat.le_of_ble_eq_true rfl) dX7_leastWork_2 ⟨Nat.le_of_ble_eq_true rfl, Nat.le_of_ble_eq_true rfl⟩ (fun rv n2 σ2 hp => ?_)
  obtain ⟨rfl, rfl, rfl⟩ := hp
  refine V.eq (σ2 := (mW G σ m0 [xstates, xtyped, xat, xreason, xdone, xkind, xn, xstrength] [fs, fwas, fbegun, faside, ftext, fsize, fburnt, fnext, ffar, fthen, fqueue, frankAt, fturnAt])) (n2 := n) (st2 := [.int (bI (isS x ns))]) rfl rfl rfl rfl ?_
  refine V.top (y := bI false) (congrArg bI (hbad)) ?_
  refine r_if_neB (tgt := 11) C dX7_leastWork_5 (by decide) (fun z => absurd z (by decide)) (fun _ => ?_)
  refine r_ldc C wQ_X7_54 dX7_leastWork_8 ?_
  exact r_iret C hr hlocks (Nat.le_of_ble_eq_true rfl) (Nat.le_of_ble_eq_true rfl) dX7_leastWork_10 (hpo _ _ _ ⟨rfl, rfl, rfl⟩)

abbrev rm_X7_ways_x : Room := { frames := 2, cells := 0, slots := 0, locals := 43 }
set_option maxRecDepth 100000 in
set_option maxHeartbeats 4000000 in
theorem c_X7_ways_x {l : Launch} {G : gG} {n : Nat} {σ : gS} {m0 : Nat} {xstates xtyped xat xreason xdone xkind xn xstrength : Int32} {fs fwas fbegun faside ftext fsize fburnt fnext ffar fthen fqueue frankAt fturnAt : Nat → Int32} {x y : Int32} {ns : Nat} (hns : fs 0 = nI ns) (hbad : isS x ns = false) : GM l G yX7_ways cX7_ways 7 (some .int) rm_X7_ways_x n (mW G σ m0 [xstates, xtyped, xat, xreason, xdone, xkind, xn, xstrength] [fs, fwas, fbegun, faside, ftext, fsize, fburnt, fnext, ffar, fthen, fqueue, frankAt, fturnAt]) [.ref m0, .int x, .int y] (fun rv n2 σ2 => some (.int (-1000001)) = rv ∧ n = n2 ∧ (mW G σ m0 [xstates, xtyped, xat, xreason, xdone, xkind, xn, xstrength] [fs, fwas, fbegun, faside, ftext, fsize, fburnt, fnext, ffar, fthen, fqueue, frankAt, fturnAt]) = σ2) := by
  refine GM.intro (by decide +kernel) (Nat.le_of_ble_eq_true rfl) (fun p e s m args below meth c C hr hlocks hname po hpo => ?_)
  have C : Cx p s m args c cX7_ways 7 RX7 G := C
  refine r_aload_n C dX7_ways_0 rfl 0 rfl ?_
  refine r_iload_n C dX7_ways_1 rfl 1 rfl ?_
  refine r_callV (As := [.int x]) C (c_X7_isStack (x := x) (ns := ns) (by first | assumption | omega)) wM_X7_98 wI_X7_isStack wN_X7 wC_X7_isStack wV_X7_isStack hd_X7_isStack ⟨Nat.le_of_ble_eq_true rfl, Nat.le_of_ble_eq_true rfl⟩ rfl (mW_o _ _ _ _ _) rfl rfl (Nat.le_of_ble_eq_true rfl) dX7_ways_2 ⟨Nat.le_of_ble_eq_true rfl, Nat.le_of_ble_eq_true rfl⟩ (fun rv n2 σ2 hp => ?_)
  obtain ⟨rfl, rfl, rfl⟩ := hp
  refine V.eq (σ2 := (mW G σ m0 [xstates, xtyped, xat, xreason, xdone, xkind, xn, xstrength] [fs, fwas, fbegun, faside, ftext, fsize, fburnt, fnext, ffar, fthen, fqueue, frankAt, fturnAt])) (n2 := n) (st2 := [.int (bI (isS x ns))]) rfl rfl rfl rfl ?_
  refine V.top (y := bI false) (congrArg bI (hbad)) ?_
  refine r_if_eqB (tgt := 17) C dX7_ways_5 (by decide) (fun _ => ?_) (fun z => absurd z (by decide))
  refine r_ldc C wQ_X7_54 dX7_ways_17 ?_
  exact r_iret C hr hlocks (Nat.le_of_ble_eq_true rfl) (Nat.le_of_ble_eq_true rfl) dX7_ways_19 (hpo _ _ _ ⟨rfl, rfl, rfl⟩)

abbrev rm_X7_lookedAt_x : Room := { frames := 2, cells := 0, slots := 0, locals := 43 }
set_option maxRecDepth 100000 in
set_option maxHeartbeats 4000000 in
theorem c_X7_lookedAt_x {l : Launch} {G : gG} {n : Nat} {σ : gS} {m0 : Nat} {xstates xtyped xat xreason xdone xkind xn xstrength : Int32} {fs fwas fbegun faside ftext fsize fburnt fnext ffar fthen fqueue frankAt fturnAt : Nat → Int32} {x y : Int32} {ns : Nat} (hns : fs 0 = nI ns) (hbad : isS x ns = false) : GM l G yX7_lookedAt cX7_lookedAt 9 (some .int) rm_X7_lookedAt_x n (mW G σ m0 [xstates, xtyped, xat, xreason, xdone, xkind, xn, xstrength] [fs, fwas, fbegun, faside, ftext, fsize, fburnt, fnext, ffar, fthen, fqueue, frankAt, fturnAt]) [.ref m0, .int x, .int y] (fun rv n2 σ2 => some (.int (-1000001)) = rv ∧ n = n2 ∧ (mW G σ m0 [xstates, xtyped, xat, xreason, xdone, xkind, xn, xstrength] [fs, fwas, fbegun, faside, ftext, fsize, fburnt, fnext, ffar, fthen, fqueue, frankAt, fturnAt]) = σ2) := by
  refine GM.intro (by decide +kernel) (Nat.le_of_ble_eq_true rfl) (fun p e s m args below meth c C hr hlocks hname po hpo => ?_)
  have C : Cx p s m args c cX7_lookedAt 9 RX7 G := C
  refine r_aload_n C dX7_lookedAt_0 rfl 0 rfl ?_
  refine r_iload_n C dX7_lookedAt_1 rfl 1 rfl ?_
  refine r_callV (As := [.int x]) C (c_X7_isStack (x := x) (ns := ns) (by first | assumption | omega)) wM_X7_98 wI_X7_isStack wN_X7 wC_X7_isStack wV_X7_isStack hd_X7_isStack ⟨Nat.le_of_ble_eq_true rfl, Nat.le_of_ble_eq_true rfl⟩ rfl (mW_o _ _ _ _ _) rfl rfl (Nat.le_of_ble_eq_true rfl) dX7_lookedAt_2 ⟨Nat.le_of_ble_eq_true rfl, Nat.le_of_ble_eq_true rfl⟩ (fun rv n2 σ2 hp => ?_)
  obtain ⟨rfl, rfl, rfl⟩ := hp
  refine V.eq (σ2 := (mW G σ m0 [xstates, xtyped, xat, xreason, xdone, xkind, xn, xstrength] [fs, fwas, fbegun, faside, ftext, fsize, fburnt, fnext, ffar, fthen, fqueue, frankAt, fturnAt])) (n2 := n) (st2 := [.int (bI (isS x ns))]) rfl rfl rfl rfl ?_
  refine V.top (y := bI false) (congrArg bI (hbad)) ?_
  refine r_if_eqB (tgt := 18) C dX7_lookedAt_5 (by decide) (fun _ => ?_) (fun z => absurd z (by decide))
  refine r_ldc C wQ_X7_54 dX7_lookedAt_18 ?_
  exact r_iret C hr hlocks (Nat.le_of_ble_eq_true rfl) (Nat.le_of_ble_eq_true rfl) dX7_lookedAt_20 (hpo _ _ _ ⟨rfl, rfl, rfl⟩)

abbrev rm_X7_simple_x : Room := { frames := 2, cells := 0, slots := 0, locals := 43 }
set_option maxRecDepth 100000 in
set_option maxHeartbeats 4000000 in
theorem c_X7_simple_x {l : Launch} {G : gG} {n : Nat} {σ : gS} {m0 : Nat} {xstates xtyped xat xreason xdone xkind xn xstrength : Int32} {fs fwas fbegun faside ftext fsize fburnt fnext ffar fthen fqueue frankAt fturnAt : Nat → Int32} {x y : Int32} {ns : Nat} (hns : fs 0 = nI ns) (hbad : isS x ns = false) : GM l G yX7_simple cX7_simple 7 (some .int) rm_X7_simple_x n (mW G σ m0 [xstates, xtyped, xat, xreason, xdone, xkind, xn, xstrength] [fs, fwas, fbegun, faside, ftext, fsize, fburnt, fnext, ffar, fthen, fqueue, frankAt, fturnAt]) [.ref m0, .int x, .int y] (fun rv n2 σ2 => some (.int (-1000001)) = rv ∧ n = n2 ∧ (mW G σ m0 [xstates, xtyped, xat, xreason, xdone, xkind, xn, xstrength] [fs, fwas, fbegun, faside, ftext, fsize, fburnt, fnext, ffar, fthen, fqueue, frankAt, fturnAt]) = σ2) := by
  refine GM.intro (by decide +kernel) (Nat.le_of_ble_eq_true rfl) (fun p e s m args below meth c C hr hlocks hname po hpo => ?_)
  have C : Cx p s m args c cX7_simple 7 RX7 G := C
  refine r_aload_n C dX7_simple_0 rfl 0 rfl ?_
  refine r_iload_n C dX7_simple_1 rfl 1 rfl ?_
  refine r_callV (As := [.int x]) C (c_X7_isStack (x := x) (ns := ns) (by first | assumption | omega)) wM_X7_98 wI_X7_isStack wN_X7 wC_X7_isStack wV_X7_isStack hd_X7_isStack ⟨Nat.le_of_ble_eq_true rfl, Nat.le_of_ble_eq_true rfl⟩ rfl (mW_o _ _ _ _ _) rfl rfl (Nat.le_of_ble_eq_true rfl) dX7_simple_2 ⟨Nat.le_of_ble_eq_true rfl, Nat.le_of_ble_eq_true rfl⟩ (fun rv n2 σ2 hp => ?_)
  obtain ⟨rfl, rfl, rfl⟩ := hp
  refine V.eq (σ2 := (mW G σ m0 [xstates, xtyped, xat, xreason, xdone, xkind, xn, xstrength] [fs, fwas, fbegun, faside, ftext, fsize, fburnt, fnext, ffar, fthen, fqueue, frankAt, fturnAt])) (n2 := n) (st2 := [.int (bI (isS x ns))]) rfl rfl rfl rfl ?_
  refine V.top (y := bI false) (congrArg bI (hbad)) ?_
  refine r_if_eqB (tgt := 17) C dX7_simple_5 (by decide) (fun _ => ?_) (fun z => absurd z (by decide))
  refine r_ldc C wQ_X7_54 dX7_simple_17 ?_
  exact r_iret C hr hlocks (Nat.le_of_ble_eq_true rfl) (Nat.le_of_ble_eq_true rfl) dX7_simple_19 (hpo _ _ _ ⟨rfl, rfl, rfl⟩)

abbrev rm_X7_bestTurn_x : Room := { frames := 2, cells := 0, slots := 0, locals := 43 }
set_option maxRecDepth 100000 in
set_option maxHeartbeats 4000000 in
theorem c_X7_bestTurn_x {l : Launch} {G : gG} {n : Nat} {σ : gS} {m0 : Nat} {xstates xtyped xat xreason xdone xkind xn xstrength : Int32} {fs fwas fbegun faside ftext fsize fburnt fnext ffar fthen fqueue frankAt fturnAt : Nat → Int32} {x  : Int32} {ns : Nat} (hns : fs 0 = nI ns) (hbad : isS x ns = false) : GM l G yX7_bestTurn cX7_bestTurn 7 (some .int) rm_X7_bestTurn_x n (mW G σ m0 [xstates, xtyped, xat, xreason, xdone, xkind, xn, xstrength] [fs, fwas, fbegun, faside, ftext, fsize, fburnt, fnext, ffar, fthen, fqueue, frankAt, fturnAt]) [.ref m0, .int x] (fun rv n2 σ2 => some (.int (-1000001)) = rv ∧ n = n2 ∧ (mW G σ m0 [xstates, xtyped, xat, xreason, xdone, xkind, xn, xstrength] [fs, fwas, fbegun, faside, ftext, fsize, fburnt, fnext, ffar, fthen, fqueue, frankAt, fturnAt]) = σ2) := by
  refine GM.intro (by decide +kernel) (Nat.le_of_ble_eq_true rfl) (fun p e s m args below meth c C hr hlocks hname po hpo => ?_)
  have C : Cx p s m args c cX7_bestTurn 7 RX7 G := C
  refine r_aload_n C dX7_bestTurn_0 rfl 0 rfl ?_
  refine r_iload_n C dX7_bestTurn_1 rfl 1 rfl ?_
  refine r_callV (As := [.int x]) C (c_X7_isStack (x := x) (ns := ns) (by first | assumption | omega)) wM_X7_98 wI_X7_isStack wN_X7 wC_X7_isStack wV_X7_isStack hd_X7_isStack ⟨Nat.le_of_ble_eq_true rfl, Nat.le_of_ble_eq_true rfl⟩ rfl (mW_o _ _ _ _ _) rfl rfl (Nat.le_of_ble_eq_true rfl) dX7_bestTurn_2 ⟨Nat.le_of_ble_eq_true rfl, Nat.le_of_ble_eq_true rfl⟩ (fun rv n2 σ2 hp => ?_)
  obtain ⟨rfl, rfl, rfl⟩ := hp
  refine V.eq (σ2 := (mW G σ m0 [xstates, xtyped, xat, xreason, xdone, xkind, xn, xstrength] [fs, fwas, fbegun, faside, ftext, fsize, fburnt, fnext, ffar, fthen, fqueue, frankAt, fturnAt])) (n2 := n) (st2 := [.int (bI (isS x ns))]) rfl rfl rfl rfl ?_
  refine V.top (y := bI false) (congrArg bI (hbad)) ?_
  refine r_if_neB (tgt := 11) C dX7_bestTurn_5 (by decide) (fun z => absurd z (by decide)) (fun _ => ?_)
  refine r_ldc C wQ_X7_54 dX7_bestTurn_8 ?_
  exact r_iret C hr hlocks (Nat.le_of_ble_eq_true rfl) (Nat.le_of_ble_eq_true rfl) dX7_bestTurn_10 (hpo _ _ _ ⟨rfl, rfl, rfl⟩)

abbrev rm_X7_ranked_x : Room := { frames := 2, cells := 0, slots := 0, locals := 43 }
set_option maxRecDepth 100000 in
set_option maxHeartbeats 4000000 in
theorem c_X7_ranked_x {l : Launch} {G : gG} {n : Nat} {σ : gS} {m0 : Nat} {xstates xtyped xat xreason xdone xkind xn xstrength : Int32} {fs fwas fbegun faside ftext fsize fburnt fnext ffar fthen fqueue frankAt fturnAt : Nat → Int32} {x y z : Int32} {ns : Nat} (hns : fs 0 = nI ns) (hbad : isS x ns = false) : GM l G yX7_ranked cX7_ranked 4 (some .int) rm_X7_ranked_x n (mW G σ m0 [xstates, xtyped, xat, xreason, xdone, xkind, xn, xstrength] [fs, fwas, fbegun, faside, ftext, fsize, fburnt, fnext, ffar, fthen, fqueue, frankAt, fturnAt]) [.ref m0, .int x, .int y, .int z] (fun rv n2 σ2 => some (.int (-1000001)) = rv ∧ n = n2 ∧ (mW G σ m0 [xstates, xtyped, xat, xreason, xdone, xkind, xn, xstrength] [fs, fwas, fbegun, faside, ftext, fsize, fburnt, fnext, ffar, fthen, fqueue, frankAt, fturnAt]) = σ2) := by
  refine GM.intro (by decide +kernel) (Nat.le_of_ble_eq_true rfl) (fun p e s m args below meth c C hr hlocks hname po hpo => ?_)
  have C : Cx p s m args c cX7_ranked 4 RX7 G := C
  refine r_aload_n C dX7_ranked_0 rfl 0 rfl ?_
  refine r_iload_n C dX7_ranked_1 rfl 1 rfl ?_
  refine r_callV (As := [.int x]) C (c_X7_isStack (x := x) (ns := ns) (by first | assumption | omega)) wM_X7_98 wI_X7_isStack wN_X7 wC_X7_isStack wV_X7_isStack hd_X7_isStack ⟨Nat.le_of_ble_eq_true rfl, Nat.le_of_ble_eq_true rfl⟩ rfl (mW_o _ _ _ _ _) rfl rfl (Nat.le_of_ble_eq_true rfl) dX7_ranked_2 ⟨Nat.le_of_ble_eq_true rfl, Nat.le_of_ble_eq_true rfl⟩ (fun rv n2 σ2 hp => ?_)
  obtain ⟨rfl, rfl, rfl⟩ := hp
  refine V.eq (σ2 := (mW G σ m0 [xstates, xtyped, xat, xreason, xdone, xkind, xn, xstrength] [fs, fwas, fbegun, faside, ftext, fsize, fburnt, fnext, ffar, fthen, fqueue, frankAt, fturnAt])) (n2 := n) (st2 := [.int (bI (isS x ns))]) rfl rfl rfl rfl ?_
  refine V.top (y := bI false) (congrArg bI (hbad)) ?_
  refine r_if_eqB (tgt := 21) C dX7_ranked_5 (by decide) (fun _ => ?_) (fun z => absurd z (by decide))
  refine r_ldc C wQ_X7_54 dX7_ranked_21 ?_
  exact r_iret C hr hlocks (Nat.le_of_ble_eq_true rfl) (Nat.le_of_ble_eq_true rfl) dX7_ranked_23 (hpo _ _ _ ⟨rfl, rfl, rfl⟩)

abbrev rm_X7_ofDistance_x : Room := { frames := 2, cells := 0, slots := 0, locals := 43 }
set_option maxRecDepth 100000 in
set_option maxHeartbeats 4000000 in
theorem c_X7_ofDistance_x {l : Launch} {G : gG} {n : Nat} {σ : gS} {m0 : Nat} {xstates xtyped xat xreason xdone xkind xn xstrength : Int32} {fs fwas fbegun faside ftext fsize fburnt fnext ffar fthen fqueue frankAt fturnAt : Nat → Int32} {x y : Int32} {ns : Nat} (hns : fs 0 = nI ns) (hbad : isS x ns = false) : GM l G yX7_ofDistance cX7_ofDistance 5 (some .int) rm_X7_ofDistance_x n (mW G σ m0 [xstates, xtyped, xat, xreason, xdone, xkind, xn, xstrength] [fs, fwas, fbegun, faside, ftext, fsize, fburnt, fnext, ffar, fthen, fqueue, frankAt, fturnAt]) [.ref m0, .int x, .int y] (fun rv n2 σ2 => some (.int (-1000001)) = rv ∧ n = n2 ∧ (mW G σ m0 [xstates, xtyped, xat, xreason, xdone, xkind, xn, xstrength] [fs, fwas, fbegun, faside, ftext, fsize, fburnt, fnext, ffar, fthen, fqueue, frankAt, fturnAt]) = σ2) := by
  refine GM.intro (by decide +kernel) (Nat.le_of_ble_eq_true rfl) (fun p e s m args below meth c C hr hlocks hname po hpo => ?_)
  have C : Cx p s m args c cX7_ofDistance 5 RX7 G := C
  refine r_aload_n C dX7_ofDistance_0 rfl 0 rfl ?_
  refine r_iload_n C dX7_ofDistance_1 rfl 1 rfl ?_
  refine r_callV (As := [.int x]) C (c_X7_isStack (x := x) (ns := ns) (by first | assumption | omega)) wM_X7_98 wI_X7_isStack wN_X7 wC_X7_isStack wV_X7_isStack hd_X7_isStack ⟨Nat.le_of_ble_eq_true rfl, Nat.le_of_ble_eq_true rfl⟩ rfl (mW_o _ _ _ _ _) rfl rfl (Nat.le_of_ble_eq_true rfl) dX7_ofDistance_2 ⟨Nat.le_of_ble_eq_true rfl, Nat.le_of_ble_eq_true rfl⟩ (fun rv n2 σ2 hp => ?_)
  obtain ⟨rfl, rfl, rfl⟩ := hp
  refine V.eq (σ2 := (mW G σ m0 [xstates, xtyped, xat, xreason, xdone, xkind, xn, xstrength] [fs, fwas, fbegun, faside, ftext, fsize, fburnt, fnext, ffar, fthen, fqueue, frankAt, fturnAt])) (n2 := n) (st2 := [.int (bI (isS x ns))]) rfl rfl rfl rfl ?_
  refine V.top (y := bI false) (congrArg bI (hbad)) ?_
  refine r_if_eqB (tgt := 18) C dX7_ofDistance_5 (by decide) (fun _ => ?_) (fun z => absurd z (by decide))
  refine r_ldc C wQ_X7_54 dX7_ofDistance_18 ?_
  exact r_iret C hr hlocks (Nat.le_of_ble_eq_true rfl) (Nat.le_of_ble_eq_true rfl) dX7_ofDistance_20 (hpo _ _ _ ⟨rfl, rfl, rfl⟩)

abbrev rm_X7_turn_z : Room := { frames := 2, cells := 0, slots := 0, locals := 43 }
set_option maxRecDepth 100000 in
set_option maxHeartbeats 4000000 in
theorem c_X7_turn_z {l : Launch} {G : gG} {n : Nat} {σ : gS} {m0 : Nat} {xstates xtyped xat xreason xdone xkind xn xstrength : Int32} {fs fwas fbegun faside ftext fsize fburnt fnext ffar fthen fqueue frankAt fturnAt : Nat → Int32} {ns k kd N sr o sd : Nat} {y : Int32} (hns : fs 0 = nI ns) (hns5 : ns ≤ 5) (hkn : k < ns) (hst : StkAt fs k kd N sr o sd) (hv : Vld kd N sr o sd) (hbad : decide (nI 1 ≤ y ∧ y ≤ nI N) = false) : GM l G yX7_turn cX7_turn 3 (some .int) rm_X7_turn_z n (mW G σ m0 [xstates, xtyped, xat, xreason, xdone, xkind, xn, xstrength] [fs, fwas, fbegun, faside, ftext, fsize, fburnt, fnext, ffar, fthen, fqueue, frankAt, fturnAt]) [.ref m0, .int (nI k), .int y] (fun rv n2 σ2 => some (.int (-1000001)) = rv ∧ n = n2 ∧ (mW G σ m0 [xstates, xtyped, xat, xreason, xdone, xkind, xn, xstrength] [fs, fwas, fbegun, faside, ftext, fsize, fburnt, fnext, ffar, fthen, fqueue, frankAt, fturnAt]) = σ2) := by
  refine GM.intro (by decide +kernel) (Nat.le_of_ble_eq_true rfl) (fun p e s m args below meth c C hr hlocks hname po hpo => ?_)
  have C : Cx p s m args c cX7_turn 3 RX7 G := C
  have hk : k < 5 := by omega
  have hN6 := hv.1.N
  have hN1 := hv.1.2.1
  refine r_aload_n C dX7_turn_0 rfl 0 rfl ?_
  refine r_iload_n C dX7_turn_1 rfl 1 rfl ?_
  refine r_callV (As := [.int (nI k)]) C (c_X7_isStack (x := nI k) (ns := ns) (by first | assumption | omega)) wM_X7_98 wI_X7_isStack wN_X7 wC_X7_isStack wV_X7_isStack hd_X7_isStack ⟨Nat.le_of_ble_eq_true rfl, Nat.le_of_ble_eq_true rfl⟩ rfl (mW_o _ _ _ _ _) rfl rfl (Nat.le_of_ble_eq_true rfl) dX7_turn_2 ⟨Nat.le_of_ble_eq_true rfl, Nat.le_of_ble_eq_true rfl⟩ (fun rv n2 σ2 hp => ?_)
  obtain ⟨rfl, rfl, rfl⟩ := hp
  refine V.eq (σ2 := (mW G σ m0 [xstates, xtyped, xat, xreason, xdone, xkind, xn, xstrength] [fs, fwas, fbegun, faside, ftext, fsize, fburnt, fnext, ffar, fthen, fqueue, frankAt, fturnAt])) (n2 := n) (st2 := [.int (bI (isS (nI k) ns))]) rfl rfl rfl rfl ?_
  refine V.top (y := bI true) (congrArg bI (isS_t ns (by omega) k hkn)) ?_
  refine r_if_eqB (tgt := 22) C dX7_turn_5 (by decide) (fun z => absurd z (by decide)) (fun _ => ?_)
  refine r_iload_n C dX7_turn_8 rfl 2 rfl ?_
  refine r_iconst (v := nI 1) C dX7_turn_9 (by decide) ?_
  refine r_aload_n C dX7_turn_10 rfl 0 rfl ?_
  refine r_iload_n C dX7_turn_11 rfl 1 rfl ?_
  refine r_iconst (v := nI 1) C dX7_turn_12 (by decide) ?_
  refine r_callV (As := [.int (nI k), .int (nI 1)]) C (c_X7_st (k := k) (w := 1) (by first | assumption | omega)) wM_X7_62 wI_X7_st wN_X7 wC_X7_st wV_X7_st hd_X7_st ⟨Nat.le_of_ble_eq_true rfl, Nat.le_of_ble_eq_true rfl⟩ rfl (mW_o _ _ _ _ _) rfl rfl (Nat.le_of_ble_eq_true rfl) dX7_turn_13 ⟨Nat.le_of_ble_eq_true rfl, Nat.le_of_ble_eq_true rfl⟩ (fun rv n2 σ2 hp => ?_)
  obtain ⟨rfl, rfl, rfl⟩ := hp
  refine V.eq (σ2 := (mW G σ m0 [xstates, xtyped, xat, xreason, xdone, xkind, xn, xstrength] [fs, fwas, fbegun, faside, ftext, fsize, fburnt, fnext, ffar, fthen, fqueue, frankAt, fturnAt])) (n2 := n) (st2 := [.int (fs (8 + 6 * k + 1)), .int (nI 1), .int y]) rfl rfl rfl rfl ?_
  refine V.top (y := nI N) (hst.2.1) ?_
  refine r_callS (As := [.int y, .int (nI 1), .int (nI N)]) C (c_X7_in (v := y) (low := nI 1) (high := nI N) ) wM_X7_50 wS_X7_in wN_X7 wC_X7_in hd_X7_in ⟨Nat.le_of_ble_eq_true rfl, Nat.le_of_ble_eq_true rfl⟩ rfl rfl (Nat.le_of_ble_eq_true rfl) dX7_turn_16 ⟨Nat.le_of_ble_eq_true rfl, Nat.le_of_ble_eq_true rfl⟩ (fun rv n2 σ2 hp => ?_)
  obtain ⟨rfl, rfl, rfl⟩ := hp
  refine V.eq (σ2 := (mW G σ m0 [xstates, xtyped, xat, xreason, xdone, xkind, xn, xstrength] [fs, fwas, fbegun, faside, ftext, fsize, fburnt, fnext, ffar, fthen, fqueue, frankAt, fturnAt])) (n2 := n) (st2 := [.int (bI (decide ((nI 1) ≤ y ∧ y ≤ (nI N))))]) rfl rfl rfl rfl ?_
  refine V.top (y := bI false) (congrArg bI (hbad)) ?_
  refine r_if_neB (tgt := 25) C dX7_turn_19 (by decide) (fun z => absurd z (by decide)) (fun _ => ?_)
  refine r_ldc C wQ_X7_54 dX7_turn_22 ?_
  exact r_iret C hr hlocks (Nat.le_of_ble_eq_true rfl) (Nat.le_of_ble_eq_true rfl) dX7_turn_24 (hpo _ _ _ ⟨rfl, rfl, rfl⟩)

abbrev rm_X7_doRow_z : Room := { frames := 2, cells := 0, slots := 0, locals := 43 }
set_option maxRecDepth 100000 in
set_option maxHeartbeats 4000000 in
theorem c_X7_doRow_z {l : Launch} {G : gG} {n : Nat} {σ : gS} {m0 : Nat} {xstates xtyped xat xreason xdone xkind xn xstrength : Int32} {fs fwas fbegun faside ftext fsize fburnt fnext ffar fthen fqueue frankAt fturnAt : Nat → Int32} {ns k kd N sr o sd : Nat} {y : Int32} (hns : fs 0 = nI ns) (hns5 : ns ≤ 5) (hkn : k < ns) (hst : StkAt fs k kd N sr o sd) (hv : Vld kd N sr o sd) (hbad : decide (nI 1 ≤ y ∧ y ≤ nI 99999999) = false) : GM l G yX7_doRow cX7_doRow 6 (some .int) rm_X7_doRow_z n (mW G σ m0 [xstates, xtyped, xat, xreason, xdone, xkind, xn, xstrength] [fs, fwas, fbegun, faside, ftext, fsize, fburnt, fnext, ffar, fthen, fqueue, frankAt, fturnAt]) [.ref m0, .int (nI k), .int y] (fun rv n2 σ2 => some (.int (-1000001)) = rv ∧ n = n2 ∧ (mW G σ m0 [xstates, xtyped, xat, xreason, xdone, xkind, xn, xstrength] [fs, fwas, fbegun, faside, ftext, fsize, fburnt, fnext, ffar, fthen, fqueue, frankAt, fturnAt]) = σ2) := by
  refine GM.intro (by decide +kernel) (Nat.le_of_ble_eq_true rfl) (fun p e s m args below meth c C hr hlocks hname po hpo => ?_)
  have C : Cx p s m args c cX7_doRow 6 RX7 G := C
  have hk : k < 5 := by omega
  have hN6 := hv.1.N
  have hN1 := hv.1.2.1
  refine r_aload_n C dX7_doRow_0 rfl 0 rfl ?_
  refine r_iload_n C dX7_doRow_1 rfl 1 rfl ?_
  refine r_callV (As := [.int (nI k)]) C (c_X7_isStack (x := nI k) (ns := ns) (by first | assumption | omega)) wM_X7_98 wI_X7_isStack wN_X7 wC_X7_isStack wV_X7_isStack hd_X7_isStack ⟨Nat.le_of_ble_eq_true rfl, Nat.le_of_ble_eq_true rfl⟩ rfl (mW_o _ _ _ _ _) rfl rfl (Nat.le_of_ble_eq_true rfl) dX7_doRow_2 ⟨Nat.le_of_ble_eq_true rfl, Nat.le_of_ble_eq_true rfl⟩ (fun rv n2 σ2 hp => ?_)
  obtain ⟨rfl, rfl, rfl⟩ := hp
  refine V.eq (σ2 := (mW G σ m0 [xstates, xtyped, xat, xreason, xdone, xkind, xn, xstrength] [fs, fwas, fbegun, faside, ftext, fsize, fburnt, fnext, ffar, fthen, fqueue, frankAt, fturnAt])) (n2 := n) (st2 := [.int (bI (isS (nI k) ns))]) rfl rfl rfl rfl ?_
  refine V.top (y := bI true) (congrArg bI (isS_t ns (by omega) k hkn)) ?_
  refine r_if_eqB (tgt := 18) C dX7_doRow_5 (by decide) (fun z => absurd z (by decide)) (fun _ => ?_)
  refine r_iload_n C dX7_doRow_8 rfl 2 rfl ?_
  refine r_iconst (v := nI 1) C dX7_doRow_9 (by decide) ?_
  refine r_ldc C wQ_X7_125 dX7_doRow_10 ?_
  refine V.top (y := nI 99999999) (by decide) ?_
  refine r_callS (As := [.int y, .int (nI 1), .int (nI 99999999)]) C (c_X7_in (v := y) (low := nI 1) (high := nI 99999999) ) wM_X7_50 wS_X7_in wN_X7 wC_X7_in hd_X7_in ⟨Nat.le_of_ble_eq_true rfl, Nat.le_of_ble_eq_true rfl⟩ rfl rfl (Nat.le_of_ble_eq_true rfl) dX7_doRow_12 ⟨Nat.le_of_ble_eq_true rfl, Nat.le_of_ble_eq_true rfl⟩ (fun rv n2 σ2 hp => ?_)
  obtain ⟨rfl, rfl, rfl⟩ := hp
  refine V.eq (σ2 := (mW G σ m0 [xstates, xtyped, xat, xreason, xdone, xkind, xn, xstrength] [fs, fwas, fbegun, faside, ftext, fsize, fburnt, fnext, ffar, fthen, fqueue, frankAt, fturnAt])) (n2 := n) (st2 := [.int (bI (decide ((nI 1) ≤ y ∧ y ≤ (nI 99999999))))]) rfl rfl rfl rfl ?_
  refine V.top (y := bI false) (congrArg bI (hbad)) ?_
  refine r_if_neB (tgt := 21) C dX7_doRow_15 (by decide) (fun z => absurd z (by decide)) (fun _ => ?_)
  refine r_ldc C wQ_X7_54 dX7_doRow_18 ?_
  exact r_iret C hr hlocks (Nat.le_of_ble_eq_true rfl) (Nat.le_of_ble_eq_true rfl) dX7_doRow_20 (hpo _ _ _ ⟨rfl, rfl, rfl⟩)

abbrev rm_X7_stackOf_z : Room := { frames := 2, cells := 0, slots := 0, locals := 43 }
set_option maxRecDepth 100000 in
set_option maxHeartbeats 4000000 in
theorem c_X7_stackOf_z {l : Launch} {G : gG} {n : Nat} {σ : gS} {m0 : Nat} {xstates xtyped xat xreason xdone xkind xn xstrength : Int32} {fs fwas fbegun faside ftext fsize fburnt fnext ffar fthen fqueue frankAt fturnAt : Nat → Int32} {ns k kd N sr o sd : Nat} {y : Int32} (hns : fs 0 = nI ns) (hns5 : ns ≤ 5) (hkn : k < ns) (hst : StkAt fs k kd N sr o sd) (hv : Vld kd N sr o sd) (hbad : decide (nI 0 ≤ y ∧ y ≤ nI 9) = false) : GM l G yX7_stackOf cX7_stackOf 3 (some .int) rm_X7_stackOf_z n (mW G σ m0 [xstates, xtyped, xat, xreason, xdone, xkind, xn, xstrength] [fs, fwas, fbegun, faside, ftext, fsize, fburnt, fnext, ffar, fthen, fqueue, frankAt, fturnAt]) [.ref m0, .int (nI k), .int y] (fun rv n2 σ2 => some (.int (-1000001)) = rv ∧ n = n2 ∧ (mW G σ m0 [xstates, xtyped, xat, xreason, xdone, xkind, xn, xstrength] [fs, fwas, fbegun, faside, ftext, fsize, fburnt, fnext, ffar, fthen, fqueue, frankAt, fturnAt]) = σ2) := by
  refine GM.intro (by decide +kernel) (Nat.le_of_ble_eq_true rfl) (fun p e s m args below meth c C hr hlocks hname po hpo => ?_)
  have C : Cx p s m args c cX7_stackOf 3 RX7 G := C
  have hk : k < 5 := by omega
  have hN6 := hv.1.N
  have hN1 := hv.1.2.1
  refine r_aload_n C dX7_stackOf_0 rfl 0 rfl ?_
  refine r_iload_n C dX7_stackOf_1 rfl 1 rfl ?_
  refine r_callV (As := [.int (nI k)]) C (c_X7_isStack (x := nI k) (ns := ns) (by first | assumption | omega)) wM_X7_98 wI_X7_isStack wN_X7 wC_X7_isStack wV_X7_isStack hd_X7_isStack ⟨Nat.le_of_ble_eq_true rfl, Nat.le_of_ble_eq_true rfl⟩ rfl (mW_o _ _ _ _ _) rfl rfl (Nat.le_of_ble_eq_true rfl) dX7_stackOf_2 ⟨Nat.le_of_ble_eq_true rfl, Nat.le_of_ble_eq_true rfl⟩ (fun rv n2 σ2 hp => ?_)
  obtain ⟨rfl, rfl, rfl⟩ := hp
  refine V.eq (σ2 := (mW G σ m0 [xstates, xtyped, xat, xreason, xdone, xkind, xn, xstrength] [fs, fwas, fbegun, faside, ftext, fsize, fburnt, fnext, ffar, fthen, fqueue, frankAt, fturnAt])) (n2 := n) (st2 := [.int (bI (isS (nI k) ns))]) rfl rfl rfl rfl ?_
  refine V.top (y := bI true) (congrArg bI (isS_t ns (by omega) k hkn)) ?_
  refine r_if_eqB (tgt := 18) C dX7_stackOf_5 (by decide) (fun z => absurd z (by decide)) (fun _ => ?_)
  refine r_iload_n C dX7_stackOf_8 rfl 2 rfl ?_
  refine r_iconst (v := nI 0) C dX7_stackOf_9 (by decide) ?_
  refine r_bipush (v := nI 9) C dX7_stackOf_10 (by decide) ?_
  refine r_callS (As := [.int y, .int (nI 0), .int (nI 9)]) C (c_X7_in (v := y) (low := nI 0) (high := nI 9) ) wM_X7_50 wS_X7_in wN_X7 wC_X7_in hd_X7_in ⟨Nat.le_of_ble_eq_true rfl, Nat.le_of_ble_eq_true rfl⟩ rfl rfl (Nat.le_of_ble_eq_true rfl) dX7_stackOf_12 ⟨Nat.le_of_ble_eq_true rfl, Nat.le_of_ble_eq_true rfl⟩ (fun rv n2 σ2 hp => ?_)
  obtain ⟨rfl, rfl, rfl⟩ := hp
  refine V.eq (σ2 := (mW G σ m0 [xstates, xtyped, xat, xreason, xdone, xkind, xn, xstrength] [fs, fwas, fbegun, faside, ftext, fsize, fburnt, fnext, ffar, fthen, fqueue, frankAt, fturnAt])) (n2 := n) (st2 := [.int (bI (decide ((nI 0) ≤ y ∧ y ≤ (nI 9))))]) rfl rfl rfl rfl ?_
  refine V.top (y := bI false) (congrArg bI (hbad)) ?_
  refine r_if_neB (tgt := 21) C dX7_stackOf_15 (by decide) (fun z => absurd z (by decide)) (fun _ => ?_)
  refine r_ldc C wQ_X7_54 dX7_stackOf_18 ?_
  exact r_iret C hr hlocks (Nat.le_of_ble_eq_true rfl) (Nat.le_of_ble_eq_true rfl) dX7_stackOf_20 (hpo _ _ _ ⟨rfl, rfl, rfl⟩)

abbrev rm_X7_cakeAt_z : Room := { frames := 2, cells := 0, slots := 0, locals := 43 }
set_option maxRecDepth 100000 in
set_option maxHeartbeats 4000000 in
theorem c_X7_cakeAt_z {l : Launch} {G : gG} {n : Nat} {σ : gS} {m0 : Nat} {xstates xtyped xat xreason xdone xkind xn xstrength : Int32} {fs fwas fbegun faside ftext fsize fburnt fnext ffar fthen fqueue frankAt fturnAt : Nat → Int32} {ns k kd N sr o sd : Nat} {y : Int32} (hns : fs 0 = nI ns) (hns5 : ns ≤ 5) (hkn : k < ns) (hst : StkAt fs k kd N sr o sd) (hv : Vld kd N sr o sd) (hbad : decide (nI 0 ≤ y ∧ y ≤ nI (N - 1)) = false) : GM l G yX7_cakeAt cX7_cakeAt 3 (some .int) rm_X7_cakeAt_z n (mW G σ m0 [xstates, xtyped, xat, xreason, xdone, xkind, xn, xstrength] [fs, fwas, fbegun, faside, ftext, fsize, fburnt, fnext, ffar, fthen, fqueue, frankAt, fturnAt]) [.ref m0, .int (nI k), .int y] (fun rv n2 σ2 => some (.int (-1000001)) = rv ∧ n = n2 ∧ (mW G σ m0 [xstates, xtyped, xat, xreason, xdone, xkind, xn, xstrength] [fs, fwas, fbegun, faside, ftext, fsize, fburnt, fnext, ffar, fthen, fqueue, frankAt, fturnAt]) = σ2) := by
  refine GM.intro (by decide +kernel) (Nat.le_of_ble_eq_true rfl) (fun p e s m args below meth c C hr hlocks hname po hpo => ?_)
  have C : Cx p s m args c cX7_cakeAt 3 RX7 G := C
  have hk : k < 5 := by omega
  have hN6 := hv.1.N
  have hN1 := hv.1.2.1
  refine r_aload_n C dX7_cakeAt_0 rfl 0 rfl ?_
  refine r_iload_n C dX7_cakeAt_1 rfl 1 rfl ?_
  refine r_callV (As := [.int (nI k)]) C (c_X7_isStack (x := nI k) (ns := ns) (by first | assumption | omega)) wM_X7_98 wI_X7_isStack wN_X7 wC_X7_isStack wV_X7_isStack hd_X7_isStack ⟨Nat.le_of_ble_eq_true rfl, Nat.le_of_ble_eq_true rfl⟩ rfl (mW_o _ _ _ _ _) rfl rfl (Nat.le_of_ble_eq_true rfl) dX7_cakeAt_2 ⟨Nat.le_of_ble_eq_true rfl, Nat.le_of_ble_eq_true rfl⟩ (fun rv n2 σ2 hp => ?_)
  obtain ⟨rfl, rfl, rfl⟩ := hp
  refine V.eq (σ2 := (mW G σ m0 [xstates, xtyped, xat, xreason, xdone, xkind, xn, xstrength] [fs, fwas, fbegun, faside, ftext, fsize, fburnt, fnext, ffar, fthen, fqueue, frankAt, fturnAt])) (n2 := n) (st2 := [.int (bI (isS (nI k) ns))]) rfl rfl rfl rfl ?_
  refine V.top (y := bI true) (congrArg bI (isS_t ns (by omega) k hkn)) ?_
  refine r_if_eqB (tgt := 24) C dX7_cakeAt_5 (by decide) (fun z => absurd z (by decide)) (fun _ => ?_)
  refine r_iload_n C dX7_cakeAt_8 rfl 2 rfl ?_
  refine r_iconst (v := nI 0) C dX7_cakeAt_9 (by decide) ?_
  refine r_aload_n C dX7_cakeAt_10 rfl 0 rfl ?_
  refine r_iload_n C dX7_cakeAt_11 rfl 1 rfl ?_
  refine r_iconst (v := nI 1) C dX7_cakeAt_12 (by decide) ?_
  refine r_callV (As := [.int (nI k), .int (nI 1)]) C (c_X7_st (k := k) (w := 1) (by first | assumption | omega)) wM_X7_62 wI_X7_st wN_X7 wC_X7_st wV_X7_st hd_X7_st ⟨Nat.le_of_ble_eq_true rfl, Nat.le_of_ble_eq_true rfl⟩ rfl (mW_o _ _ _ _ _) rfl rfl (Nat.le_of_ble_eq_true rfl) dX7_cakeAt_13 ⟨Nat.le_of_ble_eq_true rfl, Nat.le_of_ble_eq_true rfl⟩ (fun rv n2 σ2 hp => ?_)
  obtain ⟨rfl, rfl, rfl⟩ := hp
  refine V.eq (σ2 := (mW G σ m0 [xstates, xtyped, xat, xreason, xdone, xkind, xn, xstrength] [fs, fwas, fbegun, faside, ftext, fsize, fburnt, fnext, ffar, fthen, fqueue, frankAt, fturnAt])) (n2 := n) (st2 := [.int (fs (8 + 6 * k + 1)), .int (nI 0), .int y]) rfl rfl rfl rfl ?_
  refine V.top (y := nI N) (hst.2.1) ?_
  refine r_iconst (v := nI 1) C dX7_cakeAt_16 (by decide) ?_
  refine r_isubN C dX7_cakeAt_17 (by omega) ?_
  refine r_callS (As := [.int y, .int (nI 0), .int (nI (N - 1))]) C (c_X7_in (v := y) (low := nI 0) (high := nI (N - 1)) ) wM_X7_50 wS_X7_in wN_X7 wC_X7_in hd_X7_in ⟨Nat.le_of_ble_eq_true rfl, Nat.le_of_ble_eq_true rfl⟩ rfl rfl (Nat.le_of_ble_eq_true rfl) dX7_cakeAt_18 ⟨Nat.le_of_ble_eq_true rfl, Nat.le_of_ble_eq_true rfl⟩ (fun rv n2 σ2 hp => ?_)
  obtain ⟨rfl, rfl, rfl⟩ := hp
  refine V.eq (σ2 := (mW G σ m0 [xstates, xtyped, xat, xreason, xdone, xkind, xn, xstrength] [fs, fwas, fbegun, faside, ftext, fsize, fburnt, fnext, ffar, fthen, fqueue, frankAt, fturnAt])) (n2 := n) (st2 := [.int (bI (decide ((nI 0) ≤ y ∧ y ≤ (nI (N - 1)))))]) rfl rfl rfl rfl ?_
  refine V.top (y := bI false) (congrArg bI (hbad)) ?_
  refine r_if_neB (tgt := 27) C dX7_cakeAt_21 (by decide) (fun z => absurd z (by decide)) (fun _ => ?_)
  refine r_ldc C wQ_X7_54 dX7_cakeAt_24 ?_
  exact r_iret C hr hlocks (Nat.le_of_ble_eq_true rfl) (Nat.le_of_ble_eq_true rfl) dX7_cakeAt_26 (hpo _ _ _ ⟨rfl, rfl, rfl⟩)

abbrev rm_X7_gapsBehind_z : Room := { frames := 2, cells := 0, slots := 0, locals := 43 }
set_option maxRecDepth 100000 in
set_option maxHeartbeats 4000000 in
theorem c_X7_gapsBehind_z {l : Launch} {G : gG} {n : Nat} {σ : gS} {m0 : Nat} {xstates xtyped xat xreason xdone xkind xn xstrength : Int32} {fs fwas fbegun faside ftext fsize fburnt fnext ffar fthen fqueue frankAt fturnAt : Nat → Int32} {ns k kd N sr o sd : Nat} {y : Int32} (hns : fs 0 = nI ns) (hns5 : ns ≤ 5) (hkn : k < ns) (hst : StkAt fs k kd N sr o sd) (hv : Vld kd N sr o sd) (hbad : decide (nI 1 ≤ y ∧ y ≤ nI N) = false) : GM l G yX7_gapsBehind cX7_gapsBehind 3 (some .int) rm_X7_gapsBehind_z n (mW G σ m0 [xstates, xtyped, xat, xreason, xdone, xkind, xn, xstrength] [fs, fwas, fbegun, faside, ftext, fsize, fburnt, fnext, ffar, fthen, fqueue, frankAt, fturnAt]) [.ref m0, .int (nI k), .int y] (fun rv n2 σ2 => some (.int (-1000001)) = rv ∧ n = n2 ∧ (mW G σ m0 [xstates, xtyped, xat, xreason, xdone, xkind, xn, xstrength] [fs, fwas, fbegun, faside, ftext, fsize, fburnt, fnext, ffar, fthen, fqueue, frankAt, fturnAt]) = σ2) := by
  refine GM.intro (by decide +kernel) (Nat.le_of_ble_eq_true rfl) (fun p e s m args below meth c C hr hlocks hname po hpo => ?_)
  have C : Cx p s m args c cX7_gapsBehind 3 RX7 G := C
  have hk : k < 5 := by omega
  have hN6 := hv.1.N
  have hN1 := hv.1.2.1
  refine r_aload_n C dX7_gapsBehind_0 rfl 0 rfl ?_
  refine r_iload_n C dX7_gapsBehind_1 rfl 1 rfl ?_
  refine r_callV (As := [.int (nI k)]) C (c_X7_isStack (x := nI k) (ns := ns) (by first | assumption | omega)) wM_X7_98 wI_X7_isStack wN_X7 wC_X7_isStack wV_X7_isStack hd_X7_isStack ⟨Nat.le_of_ble_eq_true rfl, Nat.le_of_ble_eq_true rfl⟩ rfl (mW_o _ _ _ _ _) rfl rfl (Nat.le_of_ble_eq_true rfl) dX7_gapsBehind_2 ⟨Nat.le_of_ble_eq_true rfl, Nat.le_of_ble_eq_true rfl⟩ (fun rv n2 σ2 hp => ?_)
  obtain ⟨rfl, rfl, rfl⟩ := hp
  refine V.eq (σ2 := (mW G σ m0 [xstates, xtyped, xat, xreason, xdone, xkind, xn, xstrength] [fs, fwas, fbegun, faside, ftext, fsize, fburnt, fnext, ffar, fthen, fqueue, frankAt, fturnAt])) (n2 := n) (st2 := [.int (bI (isS (nI k) ns))]) rfl rfl rfl rfl ?_
  refine V.top (y := bI true) (congrArg bI (isS_t ns (by omega) k hkn)) ?_
  refine r_if_eqB (tgt := 22) C dX7_gapsBehind_5 (by decide) (fun z => absurd z (by decide)) (fun _ => ?_)
  refine r_iload_n C dX7_gapsBehind_8 rfl 2 rfl ?_
  refine r_iconst (v := nI 1) C dX7_gapsBehind_9 (by decide) ?_
  refine r_aload_n C dX7_gapsBehind_10 rfl 0 rfl ?_
  refine r_iload_n C dX7_gapsBehind_11 rfl 1 rfl ?_
  refine r_iconst (v := nI 1) C dX7_gapsBehind_12 (by decide) ?_
  refine r_callV (As := [.int (nI k), .int (nI 1)]) C (c_X7_st (k := k) (w := 1) (by first | assumption | omega)) wM_X7_62 wI_X7_st wN_X7 wC_X7_st wV_X7_st hd_X7_st ⟨Nat.le_of_ble_eq_true rfl, Nat.le_of_ble_eq_true rfl⟩ rfl (mW_o _ _ _ _ _) rfl rfl (Nat.le_of_ble_eq_true rfl) dX7_gapsBehind_13 ⟨Nat.le_of_ble_eq_true rfl, Nat.le_of_ble_eq_true rfl⟩ (fun rv n2 σ2 hp => ?_)
  obtain ⟨rfl, rfl, rfl⟩ := hp
  refine V.eq (σ2 := (mW G σ m0 [xstates, xtyped, xat, xreason, xdone, xkind, xn, xstrength] [fs, fwas, fbegun, faside, ftext, fsize, fburnt, fnext, ffar, fthen, fqueue, frankAt, fturnAt])) (n2 := n) (st2 := [.int (fs (8 + 6 * k + 1)), .int (nI 1), .int y]) rfl rfl rfl rfl ?_
  refine V.top (y := nI N) (hst.2.1) ?_
  refine r_callS (As := [.int y, .int (nI 1), .int (nI N)]) C (c_X7_in (v := y) (low := nI 1) (high := nI N) ) wM_X7_50 wS_X7_in wN_X7 wC_X7_in hd_X7_in ⟨Nat.le_of_ble_eq_true rfl, Nat.le_of_ble_eq_true rfl⟩ rfl rfl (Nat.le_of_ble_eq_true rfl) dX7_gapsBehind_16 ⟨Nat.le_of_ble_eq_true rfl, Nat.le_of_ble_eq_true rfl⟩ (fun rv n2 σ2 hp => ?_)
  obtain ⟨rfl, rfl, rfl⟩ := hp
  refine V.eq (σ2 := (mW G σ m0 [xstates, xtyped, xat, xreason, xdone, xkind, xn, xstrength] [fs, fwas, fbegun, faside, ftext, fsize, fburnt, fnext, ffar, fthen, fqueue, frankAt, fturnAt])) (n2 := n) (st2 := [.int (bI (decide ((nI 1) ≤ y ∧ y ≤ (nI N))))]) rfl rfl rfl rfl ?_
  refine V.top (y := bI false) (congrArg bI (hbad)) ?_
  refine r_if_neB (tgt := 25) C dX7_gapsBehind_19 (by decide) (fun z => absurd z (by decide)) (fun _ => ?_)
  refine r_ldc C wQ_X7_54 dX7_gapsBehind_22 ?_
  exact r_iret C hr hlocks (Nat.le_of_ble_eq_true rfl) (Nat.le_of_ble_eq_true rfl) dX7_gapsBehind_24 (hpo _ _ _ ⟨rfl, rfl, rfl⟩)

abbrev rm_X7_fewest_z : Room := { frames := 2, cells := 0, slots := 0, locals := 43 }
set_option maxRecDepth 100000 in
set_option maxHeartbeats 4000000 in
theorem c_X7_fewest_z {l : Launch} {G : gG} {n : Nat} {σ : gS} {m0 : Nat} {xstates xtyped xat xreason xdone xkind xn xstrength : Int32} {fs fwas fbegun faside ftext fsize fburnt fnext ffar fthen fqueue frankAt fturnAt : Nat → Int32} {ns k kd N sr o sd : Nat} {y : Int32} (hns : fs 0 = nI ns) (hns5 : ns ≤ 5) (hkn : k < ns) (hst : StkAt fs k kd N sr o sd) (hv : Vld kd N sr o sd) (hbad : decide (nI 0 ≤ y ∧ y ≤ nI 1) = false) : GM l G yX7_fewest cX7_fewest 6 (some .int) rm_X7_fewest_z n (mW G σ m0 [xstates, xtyped, xat, xreason, xdone, xkind, xn, xstrength] [fs, fwas, fbegun, faside, ftext, fsize, fburnt, fnext, ffar, fthen, fqueue, frankAt, fturnAt]) [.ref m0, .int (nI k), .int y] (fun rv n2 σ2 => some (.int (-1000001)) = rv ∧ n = n2 ∧ (mW G σ m0 [xstates, xtyped, xat, xreason, xdone, xkind, xn, xstrength] [fs, fwas, fbegun, faside, ftext, fsize, fburnt, fnext, ffar, fthen, fqueue, frankAt, fturnAt]) = σ2) := by
  refine GM.intro (by decide +kernel) (Nat.le_of_ble_eq_true rfl) (fun p e s m args below meth c C hr hlocks hname po hpo => ?_)
  have C : Cx p s m args c cX7_fewest 6 RX7 G := C
  have hk : k < 5 := by omega
  have hN6 := hv.1.N
  have hN1 := hv.1.2.1
  refine r_aload_n C dX7_fewest_0 rfl 0 rfl ?_
  refine r_iload_n C dX7_fewest_1 rfl 1 rfl ?_
  refine r_callV (As := [.int (nI k)]) C (c_X7_isStack (x := nI k) (ns := ns) (by first | assumption | omega)) wM_X7_98 wI_X7_isStack wN_X7 wC_X7_isStack wV_X7_isStack hd_X7_isStack ⟨Nat.le_of_ble_eq_true rfl, Nat.le_of_ble_eq_true rfl⟩ rfl (mW_o _ _ _ _ _) rfl rfl (Nat.le_of_ble_eq_true rfl) dX7_fewest_2 ⟨Nat.le_of_ble_eq_true rfl, Nat.le_of_ble_eq_true rfl⟩ (fun rv n2 σ2 hp => ?_)
  obtain ⟨rfl, rfl, rfl⟩ := hp
  refine V.eq (σ2 := (mW G σ m0 [xstates, xtyped, xat, xreason, xdone, xkind, xn, xstrength] [fs, fwas, fbegun, faside, ftext, fsize, fburnt, fnext, ffar, fthen, fqueue, frankAt, fturnAt])) (n2 := n) (st2 := [.int (bI (isS (nI k) ns))]) rfl rfl rfl rfl ?_
  refine V.top (y := bI true) (congrArg bI (isS_t ns (by omega) k hkn)) ?_
  refine r_if_eqB (tgt := 17) C dX7_fewest_5 (by decide) (fun z => absurd z (by decide)) (fun _ => ?_)
  refine r_iload_n C dX7_fewest_8 rfl 2 rfl ?_
  refine r_iconst (v := nI 0) C dX7_fewest_9 (by decide) ?_
  refine r_iconst (v := nI 1) C dX7_fewest_10 (by decide) ?_
  refine r_callS (As := [.int y, .int (nI 0), .int (nI 1)]) C (c_X7_in (v := y) (low := nI 0) (high := nI 1) ) wM_X7_50 wS_X7_in wN_X7 wC_X7_in hd_X7_in ⟨Nat.le_of_ble_eq_true rfl, Nat.le_of_ble_eq_true rfl⟩ rfl rfl (Nat.le_of_ble_eq_true rfl) dX7_fewest_11 ⟨Nat.le_of_ble_eq_true rfl, Nat.le_of_ble_eq_true rfl⟩ (fun rv n2 σ2 hp => ?_)
  obtain ⟨rfl, rfl, rfl⟩ := hp
  refine V.eq (σ2 := (mW G σ m0 [xstates, xtyped, xat, xreason, xdone, xkind, xn, xstrength] [fs, fwas, fbegun, faside, ftext, fsize, fburnt, fnext, ffar, fthen, fqueue, frankAt, fturnAt])) (n2 := n) (st2 := [.int (bI (decide ((nI 0) ≤ y ∧ y ≤ (nI 1))))]) rfl rfl rfl rfl ?_
  refine V.top (y := bI false) (congrArg bI (hbad)) ?_
  refine r_if_neB (tgt := 20) C dX7_fewest_14 (by decide) (fun z => absurd z (by decide)) (fun _ => ?_)
  refine r_ldc C wQ_X7_54 dX7_fewest_17 ?_
  exact r_iret C hr hlocks (Nat.le_of_ble_eq_true rfl) (Nat.le_of_ble_eq_true rfl) dX7_fewest_19 (hpo _ _ _ ⟨rfl, rfl, rfl⟩)

abbrev rm_X7_ways_z : Room := { frames := 2, cells := 0, slots := 0, locals := 43 }
set_option maxRecDepth 100000 in
set_option maxHeartbeats 4000000 in
theorem c_X7_ways_z {l : Launch} {G : gG} {n : Nat} {σ : gS} {m0 : Nat} {xstates xtyped xat xreason xdone xkind xn xstrength : Int32} {fs fwas fbegun faside ftext fsize fburnt fnext ffar fthen fqueue frankAt fturnAt : Nat → Int32} {ns k kd N sr o sd : Nat} {y : Int32} (hns : fs 0 = nI ns) (hns5 : ns ≤ 5) (hkn : k < ns) (hst : StkAt fs k kd N sr o sd) (hv : Vld kd N sr o sd) (hbad : decide (nI 0 ≤ y ∧ y ≤ nI 5) = false) : GM l G yX7_ways cX7_ways 7 (some .int) rm_X7_ways_z n (mW G σ m0 [xstates, xtyped, xat, xreason, xdone, xkind, xn, xstrength] [fs, fwas, fbegun, faside, ftext, fsize, fburnt, fnext, ffar, fthen, fqueue, frankAt, fturnAt]) [.ref m0, .int (nI k), .int y] (fun rv n2 σ2 => some (.int (-1000001)) = rv ∧ n = n2 ∧ (mW G σ m0 [xstates, xtyped, xat, xreason, xdone, xkind, xn, xstrength] [fs, fwas, fbegun, faside, ftext, fsize, fburnt, fnext, ffar, fthen, fqueue, frankAt, fturnAt]) = σ2) := by
  refine GM.intro (by decide +kernel) (Nat.le_of_ble_eq_true rfl) (fun p e s m args below meth c C hr hlocks hname po hpo => ?_)
  have C : Cx p s m args c cX7_ways 7 RX7 G := C
  have hk : k < 5 := by omega
  have hN6 := hv.1.N
  have hN1 := hv.1.2.1
  refine r_aload_n C dX7_ways_0 rfl 0 rfl ?_
  refine r_iload_n C dX7_ways_1 rfl 1 rfl ?_
  refine r_callV (As := [.int (nI k)]) C (c_X7_isStack (x := nI k) (ns := ns) (by first | assumption | omega)) wM_X7_98 wI_X7_isStack wN_X7 wC_X7_isStack wV_X7_isStack hd_X7_isStack ⟨Nat.le_of_ble_eq_true rfl, Nat.le_of_ble_eq_true rfl⟩ rfl (mW_o _ _ _ _ _) rfl rfl (Nat.le_of_ble_eq_true rfl) dX7_ways_2 ⟨Nat.le_of_ble_eq_true rfl, Nat.le_of_ble_eq_true rfl⟩ (fun rv n2 σ2 hp => ?_)
  obtain ⟨rfl, rfl, rfl⟩ := hp
  refine V.eq (σ2 := (mW G σ m0 [xstates, xtyped, xat, xreason, xdone, xkind, xn, xstrength] [fs, fwas, fbegun, faside, ftext, fsize, fburnt, fnext, ffar, fthen, fqueue, frankAt, fturnAt])) (n2 := n) (st2 := [.int (bI (isS (nI k) ns))]) rfl rfl rfl rfl ?_
  refine V.top (y := bI true) (congrArg bI (isS_t ns (by omega) k hkn)) ?_
  refine r_if_eqB (tgt := 17) C dX7_ways_5 (by decide) (fun z => absurd z (by decide)) (fun _ => ?_)
  refine r_iload_n C dX7_ways_8 rfl 2 rfl ?_
  refine r_iconst (v := nI 0) C dX7_ways_9 (by decide) ?_
  refine r_iconst (v := nI 5) C dX7_ways_10 (by decide) ?_
  refine r_callS (As := [.int y, .int (nI 0), .int (nI 5)]) C (c_X7_in (v := y) (low := nI 0) (high := nI 5) ) wM_X7_50 wS_X7_in wN_X7 wC_X7_in hd_X7_in ⟨Nat.le_of_ble_eq_true rfl, Nat.le_of_ble_eq_true rfl⟩ rfl rfl (Nat.le_of_ble_eq_true rfl) dX7_ways_11 ⟨Nat.le_of_ble_eq_true rfl, Nat.le_of_ble_eq_true rfl⟩ (fun rv n2 σ2 hp => ?_)
  obtain ⟨rfl, rfl, rfl⟩ := hp
  refine V.eq (σ2 := (mW G σ m0 [xstates, xtyped, xat, xreason, xdone, xkind, xn, xstrength] [fs, fwas, fbegun, faside, ftext, fsize, fburnt, fnext, ffar, fthen, fqueue, frankAt, fturnAt])) (n2 := n) (st2 := [.int (bI (decide ((nI 0) ≤ y ∧ y ≤ (nI 5))))]) rfl rfl rfl rfl ?_
  refine V.top (y := bI false) (congrArg bI (hbad)) ?_
  refine r_if_neB (tgt := 20) C dX7_ways_14 (by decide) (fun z => absurd z (by decide)) (fun _ => ?_)
  refine r_ldc C wQ_X7_54 dX7_ways_17 ?_
  exact r_iret C hr hlocks (Nat.le_of_ble_eq_true rfl) (Nat.le_of_ble_eq_true rfl) dX7_ways_19 (hpo _ _ _ ⟨rfl, rfl, rfl⟩)

abbrev rm_X7_lookedAt_z : Room := { frames := 2, cells := 0, slots := 0, locals := 43 }
set_option maxRecDepth 100000 in
set_option maxHeartbeats 4000000 in
theorem c_X7_lookedAt_z {l : Launch} {G : gG} {n : Nat} {σ : gS} {m0 : Nat} {xstates xtyped xat xreason xdone xkind xn xstrength : Int32} {fs fwas fbegun faside ftext fsize fburnt fnext ffar fthen fqueue frankAt fturnAt : Nat → Int32} {ns k kd N sr o sd : Nat} {y : Int32} (hns : fs 0 = nI ns) (hns5 : ns ≤ 5) (hkn : k < ns) (hst : StkAt fs k kd N sr o sd) (hv : Vld kd N sr o sd) (hbad : decide (nI 0 ≤ y ∧ y ≤ nI 6) = false) : GM l G yX7_lookedAt cX7_lookedAt 9 (some .int) rm_X7_lookedAt_z n (mW G σ m0 [xstates, xtyped, xat, xreason, xdone, xkind, xn, xstrength] [fs, fwas, fbegun, faside, ftext, fsize, fburnt, fnext, ffar, fthen, fqueue, frankAt, fturnAt]) [.ref m0, .int (nI k), .int y] (fun rv n2 σ2 => some (.int (-1000001)) = rv ∧ n = n2 ∧ (mW G σ m0 [xstates, xtyped, xat, xreason, xdone, xkind, xn, xstrength] [fs, fwas, fbegun, faside, ftext, fsize, fburnt, fnext, ffar, fthen, fqueue, frankAt, fturnAt]) = σ2) := by
  refine GM.intro (by decide +kernel) (Nat.le_of_ble_eq_true rfl) (fun p e s m args below meth c C hr hlocks hname po hpo => ?_)
  have C : Cx p s m args c cX7_lookedAt 9 RX7 G := C
  have hk : k < 5 := by omega
  have hN6 := hv.1.N
  have hN1 := hv.1.2.1
  refine r_aload_n C dX7_lookedAt_0 rfl 0 rfl ?_
  refine r_iload_n C dX7_lookedAt_1 rfl 1 rfl ?_
  refine r_callV (As := [.int (nI k)]) C (c_X7_isStack (x := nI k) (ns := ns) (by first | assumption | omega)) wM_X7_98 wI_X7_isStack wN_X7 wC_X7_isStack wV_X7_isStack hd_X7_isStack ⟨Nat.le_of_ble_eq_true rfl, Nat.le_of_ble_eq_true rfl⟩ rfl (mW_o _ _ _ _ _) rfl rfl (Nat.le_of_ble_eq_true rfl) dX7_lookedAt_2 ⟨Nat.le_of_ble_eq_true rfl, Nat.le_of_ble_eq_true rfl⟩ (fun rv n2 σ2 hp => ?_)
  obtain ⟨rfl, rfl, rfl⟩ := hp
  refine V.eq (σ2 := (mW G σ m0 [xstates, xtyped, xat, xreason, xdone, xkind, xn, xstrength] [fs, fwas, fbegun, faside, ftext, fsize, fburnt, fnext, ffar, fthen, fqueue, frankAt, fturnAt])) (n2 := n) (st2 := [.int (bI (isS (nI k) ns))]) rfl rfl rfl rfl ?_
  refine V.top (y := bI true) (congrArg bI (isS_t ns (by omega) k hkn)) ?_
  refine r_if_eqB (tgt := 18) C dX7_lookedAt_5 (by decide) (fun z => absurd z (by decide)) (fun _ => ?_)
  refine r_iload_n C dX7_lookedAt_8 rfl 2 rfl ?_
  refine r_iconst (v := nI 0) C dX7_lookedAt_9 (by decide) ?_
  refine r_bipush (v := nI 6) C dX7_lookedAt_10 (by decide) ?_
  refine r_callS (As := [.int y, .int (nI 0), .int (nI 6)]) C (c_X7_in (v := y) (low := nI 0) (high := nI 6) ) wM_X7_50 wS_X7_in wN_X7 wC_X7_in hd_X7_in ⟨Nat.le_of_ble_eq_true rfl, Nat.le_of_ble_eq_true rfl⟩ rfl rfl (Nat.le_of_ble_eq_true rfl) dX7_lookedAt_12 ⟨Nat.le_of_ble_eq_true rfl, Nat.le_of_ble_eq_true rfl⟩ (fun rv n2 σ2 hp => ?_)
  obtain ⟨rfl, rfl, rfl⟩ := hp
  refine V.eq (σ2 := (mW G σ m0 [xstates, xtyped, xat, xreason, xdone, xkind, xn, xstrength] [fs, fwas, fbegun, faside, ftext, fsize, fburnt, fnext, ffar, fthen, fqueue, frankAt, fturnAt])) (n2 := n) (st2 := [.int (bI (decide ((nI 0) ≤ y ∧ y ≤ (nI 6))))]) rfl rfl rfl rfl ?_
  refine V.top (y := bI false) (congrArg bI (hbad)) ?_
  refine r_if_neB (tgt := 21) C dX7_lookedAt_15 (by decide) (fun z => absurd z (by decide)) (fun _ => ?_)
  refine r_ldc C wQ_X7_54 dX7_lookedAt_18 ?_
  exact r_iret C hr hlocks (Nat.le_of_ble_eq_true rfl) (Nat.le_of_ble_eq_true rfl) dX7_lookedAt_20 (hpo _ _ _ ⟨rfl, rfl, rfl⟩)

abbrev rm_X7_simple_z : Room := { frames := 2, cells := 0, slots := 0, locals := 43 }
set_option maxRecDepth 100000 in
set_option maxHeartbeats 4000000 in
theorem c_X7_simple_z {l : Launch} {G : gG} {n : Nat} {σ : gS} {m0 : Nat} {xstates xtyped xat xreason xdone xkind xn xstrength : Int32} {fs fwas fbegun faside ftext fsize fburnt fnext ffar fthen fqueue frankAt fturnAt : Nat → Int32} {ns k kd N sr o sd : Nat} {y : Int32} (hns : fs 0 = nI ns) (hns5 : ns ≤ 5) (hkn : k < ns) (hst : StkAt fs k kd N sr o sd) (hv : Vld kd N sr o sd) (hbad : decide (nI 0 ≤ y ∧ y ≤ nI 2) = false) : GM l G yX7_simple cX7_simple 7 (some .int) rm_X7_simple_z n (mW G σ m0 [xstates, xtyped, xat, xreason, xdone, xkind, xn, xstrength] [fs, fwas, fbegun, faside, ftext, fsize, fburnt, fnext, ffar, fthen, fqueue, frankAt, fturnAt]) [.ref m0, .int (nI k), .int y] (fun rv n2 σ2 => some (.int (-1000001)) = rv ∧ n = n2 ∧ (mW G σ m0 [xstates, xtyped, xat, xreason, xdone, xkind, xn, xstrength] [fs, fwas, fbegun, faside, ftext, fsize, fburnt, fnext, ffar, fthen, fqueue, frankAt, fturnAt]) = σ2) := by
  refine GM.intro (by decide +kernel) (Nat.le_of_ble_eq_true rfl) (fun p e s m args below meth c C hr hlocks hname po hpo => ?_)
  have C : Cx p s m args c cX7_simple 7 RX7 G := C
  have hk : k < 5 := by omega
  have hN6 := hv.1.N
  have hN1 := hv.1.2.1
  refine r_aload_n C dX7_simple_0 rfl 0 rfl ?_
  refine r_iload_n C dX7_simple_1 rfl 1 rfl ?_
  refine r_callV (As := [.int (nI k)]) C (c_X7_isStack (x := nI k) (ns := ns) (by first | assumption | omega)) wM_X7_98 wI_X7_isStack wN_X7 wC_X7_isStack wV_X7_isStack hd_X7_isStack ⟨Nat.le_of_ble_eq_true rfl, Nat.le_of_ble_eq_true rfl⟩ rfl (mW_o _ _ _ _ _) rfl rfl (Nat.le_of_ble_eq_true rfl) dX7_simple_2 ⟨Nat.le_of_ble_eq_true rfl, Nat.le_of_ble_eq_true rfl⟩ (fun rv n2 σ2 hp => ?_)
  obtain ⟨rfl, rfl, rfl⟩ := hp
  refine V.eq (σ2 := (mW G σ m0 [xstates, xtyped, xat, xreason, xdone, xkind, xn, xstrength] [fs, fwas, fbegun, faside, ftext, fsize, fburnt, fnext, ffar, fthen, fqueue, frankAt, fturnAt])) (n2 := n) (st2 := [.int (bI (isS (nI k) ns))]) rfl rfl rfl rfl ?_
  refine V.top (y := bI true) (congrArg bI (isS_t ns (by omega) k hkn)) ?_
  refine r_if_eqB (tgt := 17) C dX7_simple_5 (by decide) (fun z => absurd z (by decide)) (fun _ => ?_)
  refine r_iload_n C dX7_simple_8 rfl 2 rfl ?_
  refine r_iconst (v := nI 0) C dX7_simple_9 (by decide) ?_
  refine r_iconst (v := nI 2) C dX7_simple_10 (by decide) ?_
  refine r_callS (As := [.int y, .int (nI 0), .int (nI 2)]) C (c_X7_in (v := y) (low := nI 0) (high := nI 2) ) wM_X7_50 wS_X7_in wN_X7 wC_X7_in hd_X7_in ⟨Nat.le_of_ble_eq_true rfl, Nat.le_of_ble_eq_true rfl⟩ rfl rfl (Nat.le_of_ble_eq_true rfl) dX7_simple_11 ⟨Nat.le_of_ble_eq_true rfl, Nat.le_of_ble_eq_true rfl⟩ (fun rv n2 σ2 hp => ?_)
  obtain ⟨rfl, rfl, rfl⟩ := hp
  refine V.eq (σ2 := (mW G σ m0 [xstates, xtyped, xat, xreason, xdone, xkind, xn, xstrength] [fs, fwas, fbegun, faside, ftext, fsize, fburnt, fnext, ffar, fthen, fqueue, frankAt, fturnAt])) (n2 := n) (st2 := [.int (bI (decide ((nI 0) ≤ y ∧ y ≤ (nI 2))))]) rfl rfl rfl rfl ?_
  refine V.top (y := bI false) (congrArg bI (hbad)) ?_
  refine r_if_neB (tgt := 20) C dX7_simple_14 (by decide) (fun z => absurd z (by decide)) (fun _ => ?_)
  refine r_ldc C wQ_X7_54 dX7_simple_17 ?_
  exact r_iret C hr hlocks (Nat.le_of_ble_eq_true rfl) (Nat.le_of_ble_eq_true rfl) dX7_simple_19 (hpo _ _ _ ⟨rfl, rfl, rfl⟩)

abbrev rm_X7_ofDistance_z : Room := { frames := 2, cells := 0, slots := 0, locals := 43 }
set_option maxRecDepth 100000 in
set_option maxHeartbeats 4000000 in
theorem c_X7_ofDistance_z {l : Launch} {G : gG} {n : Nat} {σ : gS} {m0 : Nat} {xstates xtyped xat xreason xdone xkind xn xstrength : Int32} {fs fwas fbegun faside ftext fsize fburnt fnext ffar fthen fqueue frankAt fturnAt : Nat → Int32} {ns k kd N sr o sd : Nat} {y : Int32} (hns : fs 0 = nI ns) (hns5 : ns ≤ 5) (hkn : k < ns) (hst : StkAt fs k kd N sr o sd) (hv : Vld kd N sr o sd) (hbad : decide (nI 0 ≤ y ∧ y ≤ nI 12) = false) : GM l G yX7_ofDistance cX7_ofDistance 5 (some .int) rm_X7_ofDistance_z n (mW G σ m0 [xstates, xtyped, xat, xreason, xdone, xkind, xn, xstrength] [fs, fwas, fbegun, faside, ftext, fsize, fburnt, fnext, ffar, fthen, fqueue, frankAt, fturnAt]) [.ref m0, .int (nI k), .int y] (fun rv n2 σ2 => some (.int (-1000001)) = rv ∧ n = n2 ∧ (mW G σ m0 [xstates, xtyped, xat, xreason, xdone, xkind, xn, xstrength] [fs, fwas, fbegun, faside, ftext, fsize, fburnt, fnext, ffar, fthen, fqueue, frankAt, fturnAt]) = σ2) := by
  refine GM.intro (by decide +kernel) (Nat.le_of_ble_eq_true rfl) (fun p e s m args below meth c C hr hlocks hname po hpo => ?_)
  have C : Cx p s m args c cX7_ofDistance 5 RX7 G := C
  have hk : k < 5 := by omega
  have hN6 := hv.1.N
  have hN1 := hv.1.2.1
  refine r_aload_n C dX7_ofDistance_0 rfl 0 rfl ?_
  refine r_iload_n C dX7_ofDistance_1 rfl 1 rfl ?_
  refine r_callV (As := [.int (nI k)]) C (c_X7_isStack (x := nI k) (ns := ns) (by first | assumption | omega)) wM_X7_98 wI_X7_isStack wN_X7 wC_X7_isStack wV_X7_isStack hd_X7_isStack ⟨Nat.le_of_ble_eq_true rfl, Nat.le_of_ble_eq_true rfl⟩ rfl (mW_o _ _ _ _ _) rfl rfl (Nat.le_of_ble_eq_true rfl) dX7_ofDistance_2 ⟨Nat.le_of_ble_eq_true rfl, Nat.le_of_ble_eq_true rfl⟩ (fun rv n2 σ2 hp => ?_)
  obtain ⟨rfl, rfl, rfl⟩ := hp
  refine V.eq (σ2 := (mW G σ m0 [xstates, xtyped, xat, xreason, xdone, xkind, xn, xstrength] [fs, fwas, fbegun, faside, ftext, fsize, fburnt, fnext, ffar, fthen, fqueue, frankAt, fturnAt])) (n2 := n) (st2 := [.int (bI (isS (nI k) ns))]) rfl rfl rfl rfl ?_
  refine V.top (y := bI true) (congrArg bI (isS_t ns (by omega) k hkn)) ?_
  refine r_if_eqB (tgt := 18) C dX7_ofDistance_5 (by decide) (fun z => absurd z (by decide)) (fun _ => ?_)
  refine r_iload_n C dX7_ofDistance_8 rfl 2 rfl ?_
  refine r_iconst (v := nI 0) C dX7_ofDistance_9 (by decide) ?_
  refine r_bipush (v := nI 12) C dX7_ofDistance_10 (by decide) ?_
  refine r_callS (As := [.int y, .int (nI 0), .int (nI 12)]) C (c_X7_in (v := y) (low := nI 0) (high := nI 12) ) wM_X7_50 wS_X7_in wN_X7 wC_X7_in hd_X7_in ⟨Nat.le_of_ble_eq_true rfl, Nat.le_of_ble_eq_true rfl⟩ rfl rfl (Nat.le_of_ble_eq_true rfl) dX7_ofDistance_12 ⟨Nat.le_of_ble_eq_true rfl, Nat.le_of_ble_eq_true rfl⟩ (fun rv n2 σ2 hp => ?_)
  obtain ⟨rfl, rfl, rfl⟩ := hp
  refine V.eq (σ2 := (mW G σ m0 [xstates, xtyped, xat, xreason, xdone, xkind, xn, xstrength] [fs, fwas, fbegun, faside, ftext, fsize, fburnt, fnext, ffar, fthen, fqueue, frankAt, fturnAt])) (n2 := n) (st2 := [.int (bI (decide ((nI 0) ≤ y ∧ y ≤ (nI 12))))]) rfl rfl rfl rfl ?_
  refine V.top (y := bI false) (congrArg bI (hbad)) ?_
  refine r_if_neB (tgt := 21) C dX7_ofDistance_15 (by decide) (fun z => absurd z (by decide)) (fun _ => ?_)
  refine r_ldc C wQ_X7_54 dX7_ofDistance_18 ?_
  exact r_iret C hr hlocks (Nat.le_of_ble_eq_true rfl) (Nat.le_of_ble_eq_true rfl) dX7_ofDistance_20 (hpo _ _ _ ⟨rfl, rfl, rfl⟩)

abbrev rm_X7_stackOf_y : Room := { frames := 4, cells := 0, slots := 0, locals := 87 }
set_option maxRecDepth 100000 in
set_option maxHeartbeats 4000000 in
theorem c_X7_stackOf_y {l : Launch} {G : gG} {n : Nat} {σ : gS} {m0 : Nat} {xstates xtyped xat xreason xdone xkind xn xstrength : Int32} {fs fwas fbegun faside ftext fsize fburnt fnext ffar fthen fqueue frankAt fturnAt : Nat → Int32} {ns k kd N sr o sd : Nat} {w : Nat} (hns : fs 0 = nI ns) (hns5 : ns ≤ 5) (hkn : k < ns) (hst : StkAt fs k kd N sr o sd) (hv : Vld kd N sr o sd) (hw : w ≤ 9) : GM l G yX7_stackOf cX7_stackOf 3 (some .int) rm_X7_stackOf_y n (mW G σ m0 [xstates, xtyped, xat, xreason, xdone, xkind, xn, xstrength] [fs, fwas, fbegun, faside, ftext, fsize, fburnt, fnext, ffar, fthen, fqueue, frankAt, fturnAt]) [.ref m0, .int (nI k), .int (nI w)] (fun rv n2 σ2 => some (.int (sof kd N sr o sd (fs (8 + 6 * k + 5)) w)) = rv ∧ n = n2 ∧ ∃ (f2 : Nat → Int32) (g2 : Nat → Int32), (mW G σ m0 [xstates, xtyped, xat, xreason, xdone, nI kd, nI N, nI sr] [fs, fwas, fbegun, faside, ftext, f2, g2, fnext, ffar, fthen, fqueue, frankAt, fturnAt]) = σ2) := by
  refine GM.intro (by decide +kernel) (Nat.le_of_ble_eq_true rfl) (fun p e s m args below meth c C hr hlocks hname po hpo => ?_)
  have C : Cx p s m args c cX7_stackOf 3 RX7 G := C
  have hk : k < 5 := by omega
  have hN6 := hv.1.N
  have hN1 := hv.1.2.1
  refine r_aload_n C dX7_stackOf_0 rfl 0 rfl ?_
  refine r_iload_n C dX7_stackOf_1 rfl 1 rfl ?_
  refine r_callV (As := [.int (nI k)]) C (c_X7_isStack (x := nI k) (ns := ns) (by first | assumption | omega)) wM_X7_98 wI_X7_isStack wN_X7 wC_X7_isStack wV_X7_isStack hd_X7_isStack ⟨Nat.le_of_ble_eq_true rfl, Nat.le_of_ble_eq_true rfl⟩ rfl (mW_o _ _ _ _ _) rfl rfl (Nat.le_of_ble_eq_true rfl) dX7_stackOf_2 ⟨Nat.le_of_ble_eq_true rfl, Nat.le_of_ble_eq_true rfl⟩ (fun rv n2 σ2 hp => ?_)
  obtain ⟨rfl, rfl, rfl⟩ := hp
  refine V.eq (σ2 := (mW G σ m0 [xstates, xtyped, xat, xreason, xdone, xkind, xn, xstrength] [fs, fwas, fbegun, faside, ftext, fsize, fburnt, fnext, ffar, fthen, fqueue, frankAt, fturnAt])) (n2 := n) (st2 := [.int (bI (isS (nI k) ns))]) rfl rfl rfl rfl ?_
  refine V.top (y := bI true) (congrArg bI (isS_t ns (by omega) k hkn)) ?_
  refine r_if_eqB (tgt := 18) C dX7_stackOf_5 (by decide) (fun z => absurd z (by decide)) (fun _ => ?_)
  refine r_iload_n C dX7_stackOf_8 rfl 2 rfl ?_
  refine r_iconst (v := nI 0) C dX7_stackOf_9 (by decide) ?_
  refine r_bipush (v := nI 9) C dX7_stackOf_10 (by decide) ?_
  refine r_callS (As := [.int (nI w), .int (nI 0), .int (nI 9)]) C (c_X7_in (v := nI w) (low := nI 0) (high := nI 9) ) wM_X7_50 wS_X7_in wN_X7 wC_X7_in hd_X7_in ⟨Nat.le_of_ble_eq_true rfl, Nat.le_of_ble_eq_true rfl⟩ rfl rfl (Nat.le_of_ble_eq_true rfl) dX7_stackOf_12 ⟨Nat.le_of_ble_eq_true rfl, Nat.le_of_ble_eq_true rfl⟩ (fun rv n2 σ2 hp => ?_)
  obtain ⟨rfl, rfl, rfl⟩ := hp
  refine V.eq (σ2 := (mW G σ m0 [xstates, xtyped, xat, xreason, xdone, xkind, xn, xstrength] [fs, fwas, fbegun, faside, ftext, fsize, fburnt, fnext, ffar, fthen, fqueue, frankAt, fturnAt])) (n2 := n) (st2 := [.int (bI (decide ((nI 0) ≤ (nI w) ∧ (nI w) ≤ (nI 9))))]) rfl rfl rfl rfl ?_
  refine V.top (y := bI true) (congrArg bI (in_N (by omega) (by omega) (by omega))) ?_
  refine r_if_neB (tgt := 21) C dX7_stackOf_15 (by decide) (fun _ => ?_) (fun z => absurd z (by decide))
  refine r_aload_n C dX7_stackOf_21 rfl 0 rfl ?_
  refine r_iload_n C dX7_stackOf_22 rfl 1 rfl ?_
  refine r_callV (As := [.int (nI k)]) C (c_X7_looks (k := k) (kd := kd) (N := N) (sr := sr) (o := o) (sd := sd) (by first | assumption | omega) (by first | assumption | omega) (by first | assumption | omega)) wM_X7_105 wI_X7_looks wN_X7 wC_X7_looks wV_X7_looks hd_X7_looks ⟨Nat.le_of_ble_eq_true rfl, Nat.le_of_ble_eq_true rfl⟩ rfl (mW_o _ _ _ _ _) rfl rfl (Nat.le_of_ble_eq_true rfl) dX7_stackOf_23 ⟨Nat.le_of_ble_eq_true rfl, Nat.le_of_ble_eq_true rfl⟩ (fun rv n2 σ2 hp => ?_)
  obtain ⟨rfl, rfl, fL, gL, rfl, hzL, hbL⟩ := hp
  refine V.eq (σ2 := (mW G σ m0 [xstates, xtyped, xat, xreason, xdone, nI kd, nI N, nI sr] [fs, fwas, fbegun, faside, ftext, fL, gL, fnext, ffar, fthen, fqueue, frankAt, fturnAt])) (n2 := n) (st2 := []) rfl rfl rfl rfl ?_
  refine r_iload_n C dX7_stackOf_26 rfl 2 rfl ?_
  by_cases hsw27 : (nI w).toInt < 5 ∨ 9 < (nI w).toInt
  · refine r_tableOut (tgt := 95) C dX7_stackOf_27 hsw27 (by decide) ?_
    refine r_aload_n C dX7_stackOf_95 rfl 0 rfl ?_
    refine r_iload_n C dX7_stackOf_96 rfl 1 rfl ?_
    refine r_iload_n C dX7_stackOf_97 rfl 2 rfl ?_
    refine r_callV (As := [.int (nI k), .int (nI w)]) C (c_X7_st (k := k) (w := w) (by have h5 : w < 5 := (by rw [nI_toInt (by omega)] at hsw27; omega); omega)) wM_X7_62 wI_X7_st wN_X7 wC_X7_st wV_X7_st hd_X7_st ⟨Nat.le_of_ble_eq_true rfl, Nat.le_of_ble_eq_true rfl⟩ rfl (mW_o _ _ _ _ _) rfl rfl (Nat.le_of_ble_eq_true rfl) dX7_stackOf_98 ⟨Nat.le_of_ble_eq_true rfl, Nat.le_of_ble_eq_true rfl⟩ (fun rv n2 σ2 hp => ?_)
    obtain ⟨rfl, rfl, rfl⟩ := hp
    refine V.eq (σ2 := (mW G σ m0 [xstates, xtyped, xat, xreason, xdone, nI kd, nI N, nI sr] [fs, fwas, fbegun, faside, ftext, fL, gL, fnext, ffar, fthen, fqueue, frankAt, fturnAt])) (n2 := n) (st2 := [.int (fs (8 + 6 * k + w))]) rfl rfl rfl rfl ?_
    exact r_iret C hr hlocks (Nat.le_of_ble_eq_true rfl) (Nat.le_of_ble_eq_true rfl) dX7_stackOf_101 (hpo _ _ _ ⟨by have h5 : w < 5 := (by rw [nI_toInt (by omega)] at hsw27; omega); exact sof_lo hst h5, rfl, fL, gL, rfl⟩)
  · obtain ⟨hlo, hhi⟩ := not_or.mp hsw27
    rcases (show (nI w).toInt = 5 ∨ (nI w).toInt = 6 ∨ (nI w).toInt = 7 ∨ (nI w).toInt = 8 ∨ (nI w).toInt = 9 by omega) with hz | hz | hz | hz | hz
    · refine r_tableIn (tgt := 60) C dX7_stackOf_27 hlo hhi (by rw [hz]; rfl) (by decide) ?_
      refine r_aload_n C dX7_stackOf_60 rfl 0 rfl ?_
      refine r_callV (As := []) C (c_X7_gaps (kd := kd) (N := N) (o := o) (sd := sd) (hv.1.N) (hv.1.2.1) (hv.2.1) (hzL) (hbL) (hv.1.1)) wM_X7_109 wI_X7_gaps wN_X7 wC_X7_gaps wV_X7_gaps hd_X7_gaps ⟨Nat.le_of_ble_eq_true rfl, Nat.le_of_ble_eq_true rfl⟩ rfl (mW_o _ _ _ _ _) rfl rfl (Nat.le_of_ble_eq_true rfl) dX7_stackOf_61 ⟨Nat.le_of_ble_eq_true rfl, Nat.le_of_ble_eq_true rfl⟩ (fun rv n2 σ2 hp => ?_)
      obtain ⟨rfl, rfl, rfl⟩ := hp
      refine V.eq (σ2 := (mW G σ m0 [xstates, xtyped, xat, xreason, xdone, nI kd, nI N, nI sr] [fs, fwas, fbegun, faside, ftext, fL, gL, fnext, ffar, fthen, fqueue, frankAt, fturnAt])) (n2 := n) (st2 := [.int (nI (gp (sid kd) N o sd))]) rfl rfl rfl rfl ?_
      exact r_iret C hr hlocks (Nat.le_of_ble_eq_true rfl) (Nat.le_of_ble_eq_true rfl) dX7_stackOf_64 (hpo _ _ _ ⟨by have h5 : w = 5 := (by rw [nI_toInt (by omega)] at hz; omega); rw [h5]; rfl, rfl, fL, gL, rfl⟩)
    · refine r_tableIn (tgt := 65) C dX7_stackOf_27 hlo hhi (by rw [hz]; rfl) (by decide) ?_
      refine r_aload_n C dX7_stackOf_65 rfl 0 rfl ?_
      refine r_callV (As := []) C (c_X7_isSorted (N := N) (o := o) (sd := sd) (hv.1.N) (hv.1.2.1) (hv.2.1) (hzL) (hbL)) wM_X7_126 wI_X7_isSorted wN_X7 wC_X7_isSorted wV_X7_isSorted hd_X7_isSorted ⟨Nat.le_of_ble_eq_true rfl, Nat.le_of_ble_eq_true rfl⟩ rfl (mW_o _ _ _ _ _) rfl rfl (Nat.le_of_ble_eq_true rfl) dX7_stackOf_66 ⟨Nat.le_of_ble_eq_true rfl, Nat.le_of_ble_eq_true rfl⟩ (fun rv n2 σ2 hp => ?_)
      obtain ⟨rfl, rfl, rfl⟩ := hp
      refine V.eq (σ2 := (mW G σ m0 [xstates, xtyped, xat, xreason, xdone, nI kd, nI N, nI sr] [fs, fwas, fbegun, faside, ftext, fL, gL, fnext, ffar, fthen, fqueue, frankAt, fturnAt])) (n2 := n) (st2 := [.int (bI (srp N o sd N))]) rfl rfl rfl rfl ?_
      refine r_if_eqB (tgt := 76) C dX7_stackOf_69 (by decide) (fun c69 => ?_) (fun c69 => ?_)
      · refine r_iconst (v := nI 0) C dX7_stackOf_76 (by decide) ?_
        exact r_iret C hr hlocks (Nat.le_of_ble_eq_true rfl) (Nat.le_of_ble_eq_true rfl) dX7_stackOf_77 (hpo _ _ _ ⟨by have h5 : w = 6 := (by rw [nI_toInt (by omega)] at hz; omega); rw [h5]; first | exact bI_t c69 | exact bI_f c69, rfl, fL, gL, rfl⟩)
      · refine r_iconst (v := nI 1) C dX7_stackOf_72 (by decide) ?_
        refine r_goto (tgt := 77) C dX7_stackOf_73 (by decide) ?_
        exact r_iret C hr hlocks (Nat.le_of_ble_eq_true rfl) (Nat.le_of_ble_eq_true rfl) dX7_stackOf_77 (hpo _ _ _ ⟨by have h5 : w = 6 := (by rw [nI_toInt (by omega)] at hz; omega); rw [h5]; first | exact bI_t c69 | exact bI_f c69, rfl, fL, gL, rfl⟩)
    · refine r_tableIn (tgt := 78) C dX7_stackOf_27 hlo hhi (by rw [hz]; rfl) (by decide) ?_
      refine r_aload_n C dX7_stackOf_78 rfl 0 rfl ?_
      refine r_callV (As := []) C (c_X7_rank (kd := kd) (N := N) (o := o) (sd := sd) (hv.1.N) (hv.1.2.1) (hv.2.1) (hzL) (hbL) (hv.1.1) (hv.2.2)) wM_X7_130 wI_X7_rank wN_X7 wC_X7_rank wV_X7_rank hd_X7_rank ⟨Nat.le_of_ble_eq_true rfl, Nat.le_of_ble_eq_true rfl⟩ rfl (mW_o _ _ _ _ _) rfl rfl (Nat.le_of_ble_eq_true rfl) dX7_stackOf_79 ⟨Nat.le_of_ble_eq_true rfl, Nat.le_of_ble_eq_true rfl⟩ (fun rv n2 σ2 hp => ?_)
      obtain ⟨rfl, rfl, rfl⟩ := hp
      refine V.eq (σ2 := (mW G σ m0 [xstates, xtyped, xat, xreason, xdone, nI kd, nI N, nI sr] [fs, fwas, fbegun, faside, ftext, fL, gL, fnext, ffar, fthen, fqueue, frankAt, fturnAt])) (n2 := n) (st2 := [.int (nI (rk (sid kd) N o sd))]) rfl rfl rfl rfl ?_
      exact r_iret C hr hlocks (Nat.le_of_ble_eq_true rfl) (Nat.le_of_ble_eq_true rfl) dX7_stackOf_82 (hpo _ _ _ ⟨by have h5 : w = 7 := (by rw [nI_toInt (by omega)] at hz; omega); rw [h5]; rfl, rfl, fL, gL, rfl⟩)
    · refine r_tableIn (tgt := 83) C dX7_stackOf_27 hlo hhi (by rw [hz]; rfl) (by decide) ?_
      refine r_aload_n C dX7_stackOf_83 rfl 0 rfl ?_
      refine r_callV (As := []) C (c_X7_possible (kd := kd) (N := N) (o := o) (sd := sd) (sr := sr) (hv.1.N) (hv.1.2.1) (hv.2.1) (hzL) (hbL) (hv.1.1) (hv.1.sr)) wM_X7_133 wI_X7_possible wN_X7 wC_X7_possible wV_X7_possible hd_X7_possible ⟨Nat.le_of_ble_eq_true rfl, Nat.le_of_ble_eq_true rfl⟩ rfl (mW_o _ _ _ _ _) rfl rfl (Nat.le_of_ble_eq_true rfl) dX7_stackOf_84 ⟨Nat.le_of_ble_eq_true rfl, Nat.le_of_ble_eq_true rfl⟩ (fun rv n2 σ2 hp => ?_)
      obtain ⟨rfl, rfl, rfl⟩ := hp
      refine V.eq (σ2 := (mW G σ m0 [xstates, xtyped, xat, xreason, xdone, nI kd, nI N, nI sr] [fs, fwas, fbegun, faside, ftext, fL, gL, fnext, ffar, fthen, fqueue, frankAt, fturnAt])) (n2 := n) (st2 := [.int (nI (psp kd sr N o sd N))]) rfl rfl rfl rfl ?_
      exact r_iret C hr hlocks (Nat.le_of_ble_eq_true rfl) (Nat.le_of_ble_eq_true rfl) dX7_stackOf_87 (hpo _ _ _ ⟨by have h5 : w = 8 := (by rw [nI_toInt (by omega)] at hz; omega); rw [h5]; rfl, rfl, fL, gL, rfl⟩)
    · refine r_tableIn (tgt := 88) C dX7_stackOf_27 hlo hhi (by rw [hz]; rfl) (by decide) ?_
      refine r_aload_n C dX7_stackOf_88 rfl 0 rfl ?_
      refine r_iload_n C dX7_stackOf_89 rfl 1 rfl ?_
      refine r_iconst (v := nI 5) C dX7_stackOf_90 (by decide) ?_
      refine r_callV (As := [.int (nI k), .int (nI 5)]) C (c_X7_st (k := k) (w := 5) (by first | assumption | omega)) wM_X7_62 wI_X7_st wN_X7 wC_X7_st wV_X7_st hd_X7_st ⟨Nat.le_of_ble_eq_true rfl, Nat.le_of_ble_eq_true rfl⟩ rfl (mW_o _ _ _ _ _) rfl rfl (Nat.le_of_ble_eq_true rfl) dX7_stackOf_91 ⟨Nat.le_of_ble_eq_true rfl, Nat.le_of_ble_eq_true rfl⟩ (fun rv n2 σ2 hp => ?_)
      obtain ⟨rfl, rfl, rfl⟩ := hp
      refine V.eq (σ2 := (mW G σ m0 [xstates, xtyped, xat, xreason, xdone, nI kd, nI N, nI sr] [fs, fwas, fbegun, faside, ftext, fL, gL, fnext, ffar, fthen, fqueue, frankAt, fturnAt])) (n2 := n) (st2 := [.int (fs (8 + 6 * k + 5))]) rfl rfl rfl rfl ?_
      exact r_iret C hr hlocks (Nat.le_of_ble_eq_true rfl) (Nat.le_of_ble_eq_true rfl) dX7_stackOf_94 (hpo _ _ _ ⟨by have h5 : w = 9 := (by rw [nI_toInt (by omega)] at hz; omega); rw [h5]; rfl, rfl, fL, gL, rfl⟩)

abbrev rm_X7_cakeAt_y : Room := { frames := 2, cells := 0, slots := 0, locals := 45 }
set_option maxRecDepth 100000 in
set_option maxHeartbeats 4000000 in
theorem c_X7_cakeAt_y {l : Launch} {G : gG} {n : Nat} {σ : gS} {m0 : Nat} {xstates xtyped xat xreason xdone xkind xn xstrength : Int32} {fs fwas fbegun faside ftext fsize fburnt fnext ffar fthen fqueue frankAt fturnAt : Nat → Int32} {ns k kd N sr o sd : Nat} {q : Nat} (hns : fs 0 = nI ns) (hns5 : ns ≤ 5) (hkn : k < ns) (hst : StkAt fs k kd N sr o sd) (hv : Vld kd N sr o sd) (hq : q < N) : GM l G yX7_cakeAt cX7_cakeAt 3 (some .int) rm_X7_cakeAt_y n (mW G σ m0 [xstates, xtyped, xat, xreason, xdone, xkind, xn, xstrength] [fs, fwas, fbegun, faside, ftext, fsize, fburnt, fnext, ffar, fthen, fqueue, frankAt, fturnAt]) [.ref m0, .int (nI k), .int (nI q)] (fun rv n2 σ2 => some (.int ((nI (sz N o q)) - (nI (10 * (bt sd q))))) = rv ∧ n = n2 ∧ ∃ (f2 : Nat → Int32) (g2 : Nat → Int32), (mW G σ m0 [xstates, xtyped, xat, xreason, xdone, nI kd, nI N, nI sr] [fs, fwas, fbegun, faside, ftext, f2, g2, fnext, ffar, fthen, fqueue, frankAt, fturnAt]) = σ2) := by
  refine GM.intro (by decide +kernel) (Nat.le_of_ble_eq_true rfl) (fun p e s m args below meth c C hr hlocks hname po hpo => ?_)
  have C : Cx p s m args c cX7_cakeAt 3 RX7 G := C
  have hk : k < 5 := by omega
  have hN6 := hv.1.N
  have hN1 := hv.1.2.1
  refine r_aload_n C dX7_cakeAt_0 rfl 0 rfl ?_
  refine r_iload_n C dX7_cakeAt_1 rfl 1 rfl ?_
  refine r_callV (As := [.int (nI k)]) C (c_X7_isStack (x := nI k) (ns := ns) (by first | assumption | omega)) wM_X7_98 wI_X7_isStack wN_X7 wC_X7_isStack wV_X7_isStack hd_X7_isStack ⟨Nat.le_of_ble_eq_true rfl, Nat.le_of_ble_eq_true rfl⟩ rfl (mW_o _ _ _ _ _) rfl rfl (Nat.le_of_ble_eq_true rfl) dX7_cakeAt_2 ⟨Nat.le_of_ble_eq_true rfl, Nat.le_of_ble_eq_true rfl⟩ (fun rv n2 σ2 hp => ?_)
  obtain ⟨rfl, rfl, rfl⟩ := hp
  refine V.eq (σ2 := (mW G σ m0 [xstates, xtyped, xat, xreason, xdone, xkind, xn, xstrength] [fs, fwas, fbegun, faside, ftext, fsize, fburnt, fnext, ffar, fthen, fqueue, frankAt, fturnAt])) (n2 := n) (st2 := [.int (bI (isS (nI k) ns))]) rfl rfl rfl rfl ?_
  refine V.top (y := bI true) (congrArg bI (isS_t ns (by omega) k hkn)) ?_
  refine r_if_eqB (tgt := 24) C dX7_cakeAt_5 (by decide) (fun z => absurd z (by decide)) (fun _ => ?_)
  refine r_iload_n C dX7_cakeAt_8 rfl 2 rfl ?_
  refine r_iconst (v := nI 0) C dX7_cakeAt_9 (by decide) ?_
  refine r_aload_n C dX7_cakeAt_10 rfl 0 rfl ?_
  refine r_iload_n C dX7_cakeAt_11 rfl 1 rfl ?_
  refine r_iconst (v := nI 1) C dX7_cakeAt_12 (by decide) ?_
  refine r_callV (As := [.int (nI k), .int (nI 1)]) C (c_X7_st (k := k) (w := 1) (by first | assumption | omega)) wM_X7_62 wI_X7_st wN_X7 wC_X7_st wV_X7_st hd_X7_st ⟨Nat.le_of_ble_eq_true rfl, Nat.le_of_ble_eq_true rfl⟩ rfl (mW_o _ _ _ _ _) rfl rfl (Nat.le_of_ble_eq_true rfl) dX7_cakeAt_13 ⟨Nat.le_of_ble_eq_true rfl, Nat.le_of_ble_eq_true rfl⟩ (fun rv n2 σ2 hp => ?_)
  obtain ⟨rfl, rfl, rfl⟩ := hp
  refine V.eq (σ2 := (mW G σ m0 [xstates, xtyped, xat, xreason, xdone, xkind, xn, xstrength] [fs, fwas, fbegun, faside, ftext, fsize, fburnt, fnext, ffar, fthen, fqueue, frankAt, fturnAt])) (n2 := n) (st2 := [.int (fs (8 + 6 * k + 1)), .int (nI 0), .int (nI q)]) rfl rfl rfl rfl ?_
  refine V.top (y := nI N) (hst.2.1) ?_
  refine r_iconst (v := nI 1) C dX7_cakeAt_16 (by decide) ?_
  refine r_isubN C dX7_cakeAt_17 (by omega) ?_
  refine r_callS (As := [.int (nI q), .int (nI 0), .int (nI (N - 1))]) C (c_X7_in (v := nI q) (low := nI 0) (high := nI (N - 1)) ) wM_X7_50 wS_X7_in wN_X7 wC_X7_in hd_X7_in ⟨Nat.le_of_ble_eq_true rfl, Nat.le_of_ble_eq_true rfl⟩ rfl rfl (Nat.le_of_ble_eq_true rfl) dX7_cakeAt_18 ⟨Nat.le_of_ble_eq_true rfl, Nat.le_of_ble_eq_true rfl⟩ (fun rv n2 σ2 hp => ?_)
  obtain ⟨rfl, rfl, rfl⟩ := hp
  refine V.eq (σ2 := (mW G σ m0 [xstates, xtyped, xat, xreason, xdone, xkind, xn, xstrength] [fs, fwas, fbegun, faside, ftext, fsize, fburnt, fnext, ffar, fthen, fqueue, frankAt, fturnAt])) (n2 := n) (st2 := [.int (bI (decide ((nI 0) ≤ (nI q) ∧ (nI q) ≤ (nI (N - 1)))))]) rfl rfl rfl rfl ?_
  refine V.top (y := bI true) (congrArg bI (in_N (by omega) (by omega) (by omega))) ?_
  refine r_if_neB (tgt := 27) C dX7_cakeAt_21 (by decide) (fun _ => ?_) (fun z => absurd z (by decide))
  refine r_aload_n C dX7_cakeAt_27 rfl 0 rfl ?_
  refine r_iload_n C dX7_cakeAt_28 rfl 1 rfl ?_
  refine r_callV (As := [.int (nI k)]) C (c_X7_looks (k := k) (kd := kd) (N := N) (sr := sr) (o := o) (sd := sd) (by first | assumption | omega) (by first | assumption | omega) (by first | assumption | omega)) wM_X7_105 wI_X7_looks wN_X7 wC_X7_looks wV_X7_looks hd_X7_looks ⟨Nat.le_of_ble_eq_true rfl, Nat.le_of_ble_eq_true rfl⟩ rfl (mW_o _ _ _ _ _) rfl rfl (Nat.le_of_ble_eq_true rfl) dX7_cakeAt_29 ⟨Nat.le_of_ble_eq_true rfl, Nat.le_of_ble_eq_true rfl⟩ (fun rv n2 σ2 hp => ?_)
  obtain ⟨rfl, rfl, fL, gL, rfl, hzL, hbL⟩ := hp
  refine V.eq (σ2 := (mW G σ m0 [xstates, xtyped, xat, xreason, xdone, nI kd, nI N, nI sr] [fs, fwas, fbegun, faside, ftext, fL, gL, fnext, ffar, fthen, fqueue, frankAt, fturnAt])) (n2 := n) (st2 := []) rfl rfl rfl rfl ?_
  refine r_aload_n C dX7_cakeAt_32 rfl 0 rfl ?_
  refine rm_get (v := .ref (m0 + 6)) C 13 (by decide) wF_X7_26 rfl dX7_cakeAt_33 ?_
  refine r_iload_n C dX7_cakeAt_36 rfl 2 rfl ?_
  refine rm_ald (f := fL) (len := 6) C 5 rfl rfl (by decide) (by omega) dX7_cakeAt_37 ?_
  have hzr := sz_rng hv.1.N hv.2.1 (show q < N by omega)
  refine V.top (y := nI (sz N o q)) (hzL q (by omega)) ?_
  refine r_bipush (v := nI 10) C dX7_cakeAt_38 (by decide) ?_
  refine r_aload_n C dX7_cakeAt_40 rfl 0 rfl ?_
  refine rm_get (v := .ref (m0 + 7)) C 14 (by decide) wF_X7_29 rfl dX7_cakeAt_41 ?_
  refine r_iload_n C dX7_cakeAt_44 rfl 2 rfl ?_
  refine rm_ald (f := gL) (len := 6) C 6 rfl rfl (by decide) (by omega) dX7_cakeAt_45 ?_
  have hbr := bt_le sd q
  refine V.top (y := nI (bt sd q)) (hbL q (by omega)) ?_
  refine r_imulN C dX7_cakeAt_46 ?_
  refine r_isub C dX7_cakeAt_47 ?_
  exact r_iret C hr hlocks (Nat.le_of_ble_eq_true rfl) (Nat.le_of_ble_eq_true rfl) dX7_cakeAt_48 (hpo _ _ _ ⟨rfl, rfl, fL, gL, rfl⟩)

abbrev rm_X7_gapsBehind_y : Room := { frames := 3, cells := 0, slots := 0, locals := 64 }
set_option maxRecDepth 100000 in
set_option maxHeartbeats 4000000 in
theorem c_X7_gapsBehind_y {l : Launch} {G : gG} {n : Nat} {σ : gS} {m0 : Nat} {xstates xtyped xat xreason xdone xkind xn xstrength : Int32} {fs fwas fbegun faside ftext fsize fburnt fnext ffar fthen fqueue frankAt fturnAt : Nat → Int32} {ns k kd N sr o sd : Nat} {w : Nat} (hns : fs 0 = nI ns) (hns5 : ns ≤ 5) (hkn : k < ns) (hst : StkAt fs k kd N sr o sd) (hv : Vld kd N sr o sd) (hw1 : 1 ≤ w ∧ w ≤ N) : GM l G yX7_gapsBehind cX7_gapsBehind 3 (some .int) rm_X7_gapsBehind_y n (mW G σ m0 [xstates, xtyped, xat, xreason, xdone, xkind, xn, xstrength] [fs, fwas, fbegun, faside, ftext, fsize, fburnt, fnext, ffar, fthen, fqueue, frankAt, fturnAt]) [.ref m0, .int (nI k), .int (nI w)] (fun rv n2 σ2 => some (.int (nI (gp (sid kd) N (tnO N o w) (tnS (sid kd) sd w)))) = rv ∧ n = n2 ∧ ∃ (f2 : Nat → Int32) (g2 : Nat → Int32), (mW G σ m0 [xstates, xtyped, xat, xreason, xdone, nI kd, nI N, nI sr] [fs, fwas, fbegun, faside, ftext, f2, g2, fnext, ffar, fthen, fqueue, frankAt, fturnAt]) = σ2) := by
  refine GM.intro (by decide +kernel) (Nat.le_of_ble_eq_true rfl) (fun p e s m args below meth c C hr hlocks hname po hpo => ?_)
  have C : Cx p s m args c cX7_gapsBehind 3 RX7 G := C
  have hk : k < 5 := by omega
  have hN6 := hv.1.N
  have hN1 := hv.1.2.1
  refine r_aload_n C dX7_gapsBehind_0 rfl 0 rfl ?_
  refine r_iload_n C dX7_gapsBehind_1 rfl 1 rfl ?_
  refine r_callV (As := [.int (nI k)]) C (c_X7_isStack (x := nI k) (ns := ns) (by first | assumption | omega)) wM_X7_98 wI_X7_isStack wN_X7 wC_X7_isStack wV_X7_isStack hd_X7_isStack ⟨Nat.le_of_ble_eq_true rfl, Nat.le_of_ble_eq_true rfl⟩ rfl (mW_o _ _ _ _ _) rfl rfl (Nat.le_of_ble_eq_true rfl) dX7_gapsBehind_2 ⟨Nat.le_of_ble_eq_true rfl, Nat.le_of_ble_eq_true rfl⟩ (fun rv n2 σ2 hp => ?_)
  obtain ⟨rfl, rfl, rfl⟩ := hp
  refine V.eq (σ2 := (mW G σ m0 [xstates, xtyped, xat, xreason, xdone, xkind, xn, xstrength] [fs, fwas, fbegun, faside, ftext, fsize, fburnt, fnext, ffar, fthen, fqueue, frankAt, fturnAt])) (n2 := n) (st2 := [.int (bI (isS (nI k) ns))]) rfl rfl rfl rfl ?_
  refine V.top (y := bI true) (congrArg bI (isS_t ns (by omega) k hkn)) ?_
  refine r_if_eqB (tgt := 22) C dX7_gapsBehind_5 (by decide) (fun z => absurd z (by decide)) (fun _ => ?_)
  refine r_iload_n C dX7_gapsBehind_8 rfl 2 rfl ?_
  refine r_iconst (v := nI 1) C dX7_gapsBehind_9 (by decide) ?_
  refine r_aload_n C dX7_gapsBehind_10 rfl 0 rfl ?_
  refine r_iload_n C dX7_gapsBehind_11 rfl 1 rfl ?_
  refine r_iconst (v := nI 1) C dX7_gapsBehind_12 (by decide) ?_
  refine r_callV (As := [.int (nI k), .int (nI 1)]) C (c_X7_st (k := k) (w := 1) (by first | assumption | omega)) wM_X7_62 wI_X7_st wN_X7 wC_X7_st wV_X7_st hd_X7_st ⟨Nat.le_of_ble_eq_true rfl, Nat.le_of_ble_eq_true rfl⟩ rfl (mW_o _ _ _ _ _) rfl rfl (Nat.le_of_ble_eq_true rfl) dX7_gapsBehind_13 ⟨Nat.le_of_ble_eq_true rfl, Nat.le_of_ble_eq_true rfl⟩ (fun rv n2 σ2 hp => ?_)
  obtain ⟨rfl, rfl, rfl⟩ := hp
  refine V.eq (σ2 := (mW G σ m0 [xstates, xtyped, xat, xreason, xdone, xkind, xn, xstrength] [fs, fwas, fbegun, faside, ftext, fsize, fburnt, fnext, ffar, fthen, fqueue, frankAt, fturnAt])) (n2 := n) (st2 := [.int (fs (8 + 6 * k + 1)), .int (nI 1), .int (nI w)]) rfl rfl rfl rfl ?_
  refine V.top (y := nI N) (hst.2.1) ?_
  refine r_callS (As := [.int (nI w), .int (nI 1), .int (nI N)]) C (c_X7_in (v := nI w) (low := nI 1) (high := nI N) ) wM_X7_50 wS_X7_in wN_X7 wC_X7_in hd_X7_in ⟨Nat.le_of_ble_eq_true rfl, Nat.le_of_ble_eq_true rfl⟩ rfl rfl (Nat.le_of_ble_eq_true rfl) dX7_gapsBehind_16 ⟨Nat.le_of_ble_eq_true rfl, Nat.le_of_ble_eq_true rfl⟩ (fun rv n2 σ2 hp => ?_)
  obtain ⟨rfl, rfl, rfl⟩ := hp
  refine V.eq (σ2 := (mW G σ m0 [xstates, xtyped, xat, xreason, xdone, xkind, xn, xstrength] [fs, fwas, fbegun, faside, ftext, fsize, fburnt, fnext, ffar, fthen, fqueue, frankAt, fturnAt])) (n2 := n) (st2 := [.int (bI (decide ((nI 1) ≤ (nI w) ∧ (nI w) ≤ (nI N))))]) rfl rfl rfl rfl ?_
  refine V.top (y := bI true) (congrArg bI (in_N (by omega) (by omega) (by omega))) ?_
  refine r_if_neB (tgt := 25) C dX7_gapsBehind_19 (by decide) (fun _ => ?_) (fun z => absurd z (by decide))
  refine r_aload_n C dX7_gapsBehind_25 rfl 0 rfl ?_
  refine r_iload_n C dX7_gapsBehind_26 rfl 1 rfl ?_
  refine r_callV (As := [.int (nI k)]) C (c_X7_looks (k := k) (kd := kd) (N := N) (sr := sr) (o := o) (sd := sd) (by first | assumption | omega) (by first | assumption | omega) (by first | assumption | omega)) wM_X7_105 wI_X7_looks wN_X7 wC_X7_looks wV_X7_looks hd_X7_looks ⟨Nat.le_of_ble_eq_true rfl, Nat.le_of_ble_eq_true rfl⟩ rfl (mW_o _ _ _ _ _) rfl rfl (Nat.le_of_ble_eq_true rfl) dX7_gapsBehind_27 ⟨Nat.le_of_ble_eq_true rfl, Nat.le_of_ble_eq_true rfl⟩ (fun rv n2 σ2 hp => ?_)
  obtain ⟨rfl, rfl, fL, gL, rfl, hzL, hbL⟩ := hp
  refine V.eq (σ2 := (mW G σ m0 [xstates, xtyped, xat, xreason, xdone, nI kd, nI N, nI sr] [fs, fwas, fbegun, faside, ftext, fL, gL, fnext, ffar, fthen, fqueue, frankAt, fturnAt])) (n2 := n) (st2 := []) rfl rfl rfl rfl ?_
  refine r_aload_n C dX7_gapsBehind_30 rfl 0 rfl ?_
  refine r_iload_n C dX7_gapsBehind_31 rfl 2 rfl ?_
  refine r_callV (As := [.int (nI w)]) C (c_X7_turns (kd := kd) (N := N) (o := o) (sd := sd) (k := w) (hv.1.N) (hv.1.2.1) (hv.2.1) (hzL) (hbL) (hv.1.1) (hv.2.2) (by first | assumption | omega) (by first | assumption | omega)) wM_X7_116 wI_X7_turns wN_X7 wC_X7_turns wV_X7_turns hd_X7_turns ⟨Nat.le_of_ble_eq_true rfl, Nat.le_of_ble_eq_true rfl⟩ rfl (mW_o _ _ _ _ _) rfl rfl (Nat.le_of_ble_eq_true rfl) dX7_gapsBehind_32 ⟨Nat.le_of_ble_eq_true rfl, Nat.le_of_ble_eq_true rfl⟩ (fun rv n2 σ2 hp => ?_)
  obtain ⟨rfl, rfl, fT, gT, rfl, hzT, hbT⟩ := hp
  refine V.eq (σ2 := (mW G σ m0 [xstates, xtyped, xat, xreason, xdone, nI kd, nI N, nI sr] [fs, fwas, fbegun, faside, ftext, fT, gT, fnext, ffar, fthen, fqueue, frankAt, fturnAt])) (n2 := n) (st2 := []) rfl rfl rfl rfl ?_
  refine r_aload_n C dX7_gapsBehind_35 rfl 0 rfl ?_
  refine r_callV (As := []) C (c_X7_gaps (kd := kd) (N := N) (o := tnO N o w) (sd := tnS (sid kd) sd w) (hv.1.N) (hv.1.2.1) (tnO_lt hv.1.N hv.2.1 hw1.2) (hzT) (hbT) (hv.1.1)) wM_X7_109 wI_X7_gaps wN_X7 wC_X7_gaps wV_X7_gaps hd_X7_gaps ⟨Nat.le_of_ble_eq_true rfl, Nat.le_of_ble_eq_true rfl⟩ rfl (mW_o _ _ _ _ _) rfl rfl (Nat.le_of_ble_eq_true rfl) dX7_gapsBehind_36 ⟨Nat.le_of_ble_eq_true rfl, Nat.le_of_ble_eq_true rfl⟩ (fun rv n2 σ2 hp => ?_)
  obtain ⟨rfl, rfl, rfl⟩ := hp
  refine V.eq (σ2 := (mW G σ m0 [xstates, xtyped, xat, xreason, xdone, nI kd, nI N, nI sr] [fs, fwas, fbegun, faside, ftext, fT, gT, fnext, ffar, fthen, fqueue, frankAt, fturnAt])) (n2 := n) (st2 := [.int (nI (gp (sid kd) N (tnO N o w) (tnS (sid kd) sd w)))]) rfl rfl rfl rfl ?_
  exact r_iret C hr hlocks (Nat.le_of_ble_eq_true rfl) (Nat.le_of_ble_eq_true rfl) dX7_gapsBehind_39 (hpo _ _ _ ⟨rfl, rfl, fT, gT, rfl⟩)

abbrev rm_X7_ranked_r : Room := { frames := 2, cells := 0, slots := 0, locals := 43 }
set_option maxRecDepth 100000 in
set_option maxHeartbeats 4000000 in
theorem c_X7_ranked_r {l : Launch} {G : gG} {n : Nat} {σ : gS} {m0 : Nat} {xstates xtyped xat xreason xdone xkind xn xstrength : Int32} {fs fwas fbegun faside ftext fsize fburnt fnext ffar fthen fqueue frankAt fturnAt : Nat → Int32} {ns k kd N sr o sd : Nat} {y z : Int32} (hns : fs 0 = nI ns) (hns5 : ns ≤ 5) (hkn : k < ns) (hst : StkAt fs k kd N sr o sd) (hv : Vld kd N sr o sd) (hy : y < 0) : GM l G yX7_ranked cX7_ranked 4 (some .int) rm_X7_ranked_r n (mW G σ m0 [xstates, xtyped, xat, xreason, xdone, xkind, xn, xstrength] [fs, fwas, fbegun, faside, ftext, fsize, fburnt, fnext, ffar, fthen, fqueue, frankAt, fturnAt]) [.ref m0, .int (nI k), .int y, .int z] (fun rv n2 σ2 => some (.int (-1000001)) = rv ∧ n = n2 ∧ (mW G σ m0 [xstates, xtyped, xat, xreason, xdone, xkind, xn, xstrength] [fs, fwas, fbegun, faside, ftext, fsize, fburnt, fnext, ffar, fthen, fqueue, frankAt, fturnAt]) = σ2) := by
  refine GM.intro (by decide +kernel) (Nat.le_of_ble_eq_true rfl) (fun p e s m args below meth c C hr hlocks hname po hpo => ?_)
  have C : Cx p s m args c cX7_ranked 4 RX7 G := C
  have hk : k < 5 := by omega
  have hN6 := hv.1.N
  have hN1 := hv.1.2.1
  refine r_aload_n C dX7_ranked_0 rfl 0 rfl ?_
  refine r_iload_n C dX7_ranked_1 rfl 1 rfl ?_
  refine r_callV (As := [.int (nI k)]) C (c_X7_isStack (x := nI k) (ns := ns) (by first | assumption | omega)) wM_X7_98 wI_X7_isStack wN_X7 wC_X7_isStack wV_X7_isStack hd_X7_isStack ⟨Nat.le_of_ble_eq_true rfl, Nat.le_of_ble_eq_true rfl⟩ rfl (mW_o _ _ _ _ _) rfl rfl (Nat.le_of_ble_eq_true rfl) dX7_ranked_2 ⟨Nat.le_of_ble_eq_true rfl, Nat.le_of_ble_eq_true rfl⟩ (fun rv n2 σ2 hp => ?_)
  obtain ⟨rfl, rfl, rfl⟩ := hp
  refine V.eq (σ2 := (mW G σ m0 [xstates, xtyped, xat, xreason, xdone, xkind, xn, xstrength] [fs, fwas, fbegun, faside, ftext, fsize, fburnt, fnext, ffar, fthen, fqueue, frankAt, fturnAt])) (n2 := n) (st2 := [.int (bI (isS (nI k) ns))]) rfl rfl rfl rfl ?_
  refine V.top (y := bI true) (congrArg bI (isS_t ns (by omega) k hkn)) ?_
  refine r_if_eqB (tgt := 21) C dX7_ranked_5 (by decide) (fun z => absurd z (by decide)) (fun _ => ?_)
  refine r_iload_n C dX7_ranked_8 rfl 2 rfl ?_
  refine r_if_lt (tgt := 21) C dX7_ranked_9 (by decide) (fun c9 => ?_) (fun c9 => ?_)
  · refine r_ldc C wQ_X7_54 dX7_ranked_21 ?_
    exact r_iret C hr hlocks (Nat.le_of_ble_eq_true rfl) (Nat.le_of_ble_eq_true rfl) dX7_ranked_23 (hpo _ _ _ ⟨rfl, rfl, rfl⟩)
  · exact absurd hy c9

abbrev rm_X7_ranked_z : Room := { frames := 2, cells := 0, slots := 0, locals := 43 }
set_option maxRecDepth 100000 in
set_option maxHeartbeats 4000000 in
theorem c_X7_ranked_z {l : Launch} {G : gG} {n : Nat} {σ : gS} {m0 : Nat} {xstates xtyped xat xreason xdone xkind xn xstrength : Int32} {fs fwas fbegun faside ftext fsize fburnt fnext ffar fthen fqueue frankAt fturnAt : Nat → Int32} {ns k kd N sr o sd : Nat} {r : Nat} {z : Int32} (hns : fs 0 = nI ns) (hns5 : ns ≤ 5) (hkn : k < ns) (hst : StkAt fs k kd N sr o sd) (hv : Vld kd N sr o sd) (hr31 : r < 2 ^ 31) (hbad : decide (nI 0 ≤ z ∧ z ≤ nI 1) = false) : GM l G yX7_ranked cX7_ranked 4 (some .int) rm_X7_ranked_z n (mW G σ m0 [xstates, xtyped, xat, xreason, xdone, xkind, xn, xstrength] [fs, fwas, fbegun, faside, ftext, fsize, fburnt, fnext, ffar, fthen, fqueue, frankAt, fturnAt]) [.ref m0, .int (nI k), .int (nI r), .int z] (fun rv n2 σ2 => some (.int (-1000001)) = rv ∧ n = n2 ∧ (mW G σ m0 [xstates, xtyped, xat, xreason, xdone, xkind, xn, xstrength] [fs, fwas, fbegun, faside, ftext, fsize, fburnt, fnext, ffar, fthen, fqueue, frankAt, fturnAt]) = σ2) := by
  refine GM.intro (by decide +kernel) (Nat.le_of_ble_eq_true rfl) (fun p e s m args below meth c C hr hlocks hname po hpo => ?_)
  have C : Cx p s m args c cX7_ranked 4 RX7 G := C
  have hk : k < 5 := by omega
  have hN6 := hv.1.N
  have hN1 := hv.1.2.1
  refine r_aload_n C dX7_ranked_0 rfl 0 rfl ?_
  refine r_iload_n C dX7_ranked_1 rfl 1 rfl ?_
  refine r_callV (As := [.int (nI k)]) C (c_X7_isStack (x := nI k) (ns := ns) (by first | assumption | omega)) wM_X7_98 wI_X7_isStack wN_X7 wC_X7_isStack wV_X7_isStack hd_X7_isStack ⟨Nat.le_of_ble_eq_true rfl, Nat.le_of_ble_eq_true rfl⟩ rfl (mW_o _ _ _ _ _) rfl rfl (Nat.le_of_ble_eq_true rfl) dX7_ranked_2 ⟨Nat.le_of_ble_eq_true rfl, Nat.le_of_ble_eq_true rfl⟩ (fun rv n2 σ2 hp => ?_)
  obtain ⟨rfl, rfl, rfl⟩ := hp
  refine V.eq (σ2 := (mW G σ m0 [xstates, xtyped, xat, xreason, xdone, xkind, xn, xstrength] [fs, fwas, fbegun, faside, ftext, fsize, fburnt, fnext, ffar, fthen, fqueue, frankAt, fturnAt])) (n2 := n) (st2 := [.int (bI (isS (nI k) ns))]) rfl rfl rfl rfl ?_
  refine V.top (y := bI true) (congrArg bI (isS_t ns (by omega) k hkn)) ?_
  refine r_if_eqB (tgt := 21) C dX7_ranked_5 (by decide) (fun z => absurd z (by decide)) (fun _ => ?_)
  refine r_iload_n C dX7_ranked_8 rfl 2 rfl ?_
  refine r_if_ltN C dX7_ranked_9 (tgt := 21) (by decide) (by omega) ?_
  refine r_iload_n C dX7_ranked_12 rfl 3 rfl ?_
  refine r_iconst (v := nI 0) C dX7_ranked_13 (by decide) ?_
  refine r_iconst (v := nI 1) C dX7_ranked_14 (by decide) ?_
  refine r_callS (As := [.int z, .int (nI 0), .int (nI 1)]) C (c_X7_in (v := z) (low := nI 0) (high := nI 1) ) wM_X7_50 wS_X7_in wN_X7 wC_X7_in hd_X7_in ⟨Nat.le_of_ble_eq_true rfl, Nat.le_of_ble_eq_true rfl⟩ rfl rfl (Nat.le_of_ble_eq_true rfl) dX7_ranked_15 ⟨Nat.le_of_ble_eq_true rfl, Nat.le_of_ble_eq_true rfl⟩ (fun rv n2 σ2 hp => ?_)
  obtain ⟨rfl, rfl, rfl⟩ := hp
  refine V.eq (σ2 := (mW G σ m0 [xstates, xtyped, xat, xreason, xdone, xkind, xn, xstrength] [fs, fwas, fbegun, faside, ftext, fsize, fburnt, fnext, ffar, fthen, fqueue, frankAt, fturnAt])) (n2 := n) (st2 := [.int (bI (decide ((nI 0) ≤ z ∧ z ≤ (nI 1))))]) rfl rfl rfl rfl ?_
  refine V.top (y := bI false) (congrArg bI (hbad)) ?_
  refine r_if_neB (tgt := 24) C dX7_ranked_18 (by decide) (fun z => absurd z (by decide)) (fun _ => ?_)
  refine r_ldc C wQ_X7_54 dX7_ranked_21 ?_
  exact r_iret C hr hlocks (Nat.le_of_ble_eq_true rfl) (Nat.le_of_ble_eq_true rfl) dX7_ranked_23 (hpo _ _ _ ⟨rfl, rfl, rfl⟩)

abbrev rm_X7_ranked_f : Room := { frames := 2, cells := 0, slots := 0, locals := 45 }
set_option maxRecDepth 100000 in
set_option maxHeartbeats 4000000 in
theorem c_X7_ranked_f {l : Launch} {G : gG} {n : Nat} {σ : gS} {m0 : Nat} {xstates xtyped xat xreason xdone xkind xn xstrength : Int32} {fs fwas fbegun faside ftext fsize fburnt fnext ffar fthen fqueue frankAt fturnAt : Nat → Int32} {ns k kd N sr o sd : Nat} {r w : Nat} (hns : fs 0 = nI ns) (hns5 : ns ≤ 5) (hkn : k < ns) (hst : StkAt fs k kd N sr o sd) (hv : Vld kd N sr o sd) (hr31 : r < 2 ^ 31) (hw : w ≤ 1) (hrr : fac N * sm (sid kd) N ≤ r) : GM l G yX7_ranked cX7_ranked 4 (some .int) rm_X7_ranked_f n (mW G σ m0 [xstates, xtyped, xat, xreason, xdone, xkind, xn, xstrength] [fs, fwas, fbegun, faside, ftext, fsize, fburnt, fnext, ffar, fthen, fqueue, frankAt, fturnAt]) [.ref m0, .int (nI k), .int (nI r), .int (nI w)] (fun rv n2 σ2 => some (.int (-1000004)) = rv ∧ n = n2 ∧ ∃ (f2 : Nat → Int32) (g2 : Nat → Int32), (mW G σ m0 [xstates, xtyped, xat, xreason, xdone, nI kd, nI N, nI sr] [fs, fwas, fbegun, faside, ftext, f2, g2, fnext, ffar, fthen, fqueue, frankAt, fturnAt]) = σ2) := by
  refine GM.intro (by decide +kernel) (Nat.le_of_ble_eq_true rfl) (fun p e s m args below meth c C hr hlocks hname po hpo => ?_)
  have C : Cx p s m args c cX7_ranked 4 RX7 G := C
  have hk : k < 5 := by omega
  have hN6 := hv.1.N
  have hN1 := hv.1.2.1
  refine r_aload_n C dX7_ranked_0 rfl 0 rfl ?_
  refine r_iload_n C dX7_ranked_1 rfl 1 rfl ?_
  refine r_callV (As := [.int (nI k)]) C (c_X7_isStack (x := nI k) (ns := ns) (by first | assumption | omega)) wM_X7_98 wI_X7_isStack wN_X7 wC_X7_isStack wV_X7_isStack hd_X7_isStack ⟨Nat.le_of_ble_eq_true rfl, Nat.le_of_ble_eq_true rfl⟩ rfl (mW_o _ _ _ _ _) rfl rfl (Nat.le_of_ble_eq_true rfl) dX7_ranked_2 ⟨Nat.le_of_ble_eq_true rfl, Nat.le_of_ble_eq_true rfl⟩ (fun rv n2 σ2 hp => ?_)
  obtain ⟨rfl, rfl, rfl⟩ := hp
  refine V.eq (σ2 := (mW G σ m0 [xstates, xtyped, xat, xreason, xdone, xkind, xn, xstrength] [fs, fwas, fbegun, faside, ftext, fsize, fburnt, fnext, ffar, fthen, fqueue, frankAt, fturnAt])) (n2 := n) (st2 := [.int (bI (isS (nI k) ns))]) rfl rfl rfl rfl ?_
  refine V.top (y := bI true) (congrArg bI (isS_t ns (by omega) k hkn)) ?_
  refine r_if_eqB (tgt := 21) C dX7_ranked_5 (by decide) (fun z => absurd z (by decide)) (fun _ => ?_)
  refine r_iload_n C dX7_ranked_8 rfl 2 rfl ?_
  refine r_if_ltN C dX7_ranked_9 (tgt := 21) (by decide) (by omega) ?_
  refine r_iload_n C dX7_ranked_12 rfl 3 rfl ?_
  refine r_iconst (v := nI 0) C dX7_ranked_13 (by decide) ?_
  refine r_iconst (v := nI 1) C dX7_ranked_14 (by decide) ?_
  refine r_callS (As := [.int (nI w), .int (nI 0), .int (nI 1)]) C (c_X7_in (v := nI w) (low := nI 0) (high := nI 1) ) wM_X7_50 wS_X7_in wN_X7 wC_X7_in hd_X7_in ⟨Nat.le_of_ble_eq_true rfl, Nat.le_of_ble_eq_true rfl⟩ rfl rfl (Nat.le_of_ble_eq_true rfl) dX7_ranked_15 ⟨Nat.le_of_ble_eq_true rfl, Nat.le_of_ble_eq_true rfl⟩ (fun rv n2 σ2 hp => ?_)
  obtain ⟨rfl, rfl, rfl⟩ := hp
  refine V.eq (σ2 := (mW G σ m0 [xstates, xtyped, xat, xreason, xdone, xkind, xn, xstrength] [fs, fwas, fbegun, faside, ftext, fsize, fburnt, fnext, ffar, fthen, fqueue, frankAt, fturnAt])) (n2 := n) (st2 := [.int (bI (decide ((nI 0) ≤ (nI w) ∧ (nI w) ≤ (nI 1))))]) rfl rfl rfl rfl ?_
  refine V.top (y := bI true) (congrArg bI (in_N (by omega) (by omega) (by omega))) ?_
  refine r_if_neB (tgt := 24) C dX7_ranked_18 (by decide) (fun _ => ?_) (fun z => absurd z (by decide))
  refine r_aload_n C dX7_ranked_24 rfl 0 rfl ?_
  refine r_iload_n C dX7_ranked_25 rfl 1 rfl ?_
  refine r_callV (As := [.int (nI k)]) C (c_X7_looks (k := k) (kd := kd) (N := N) (sr := sr) (o := o) (sd := sd) (by first | assumption | omega) (by first | assumption | omega) (by first | assumption | omega)) wM_X7_105 wI_X7_looks wN_X7 wC_X7_looks wV_X7_looks hd_X7_looks ⟨Nat.le_of_ble_eq_true rfl, Nat.le_of_ble_eq_true rfl⟩ rfl (mW_o _ _ _ _ _) rfl rfl (Nat.le_of_ble_eq_true rfl) dX7_ranked_26 ⟨Nat.le_of_ble_eq_true rfl, Nat.le_of_ble_eq_true rfl⟩ (fun rv n2 σ2 hp => ?_)
  obtain ⟨rfl, rfl, fL, gL, rfl, hzL, hbL⟩ := hp
  refine V.eq (σ2 := (mW G σ m0 [xstates, xtyped, xat, xreason, xdone, nI kd, nI N, nI sr] [fs, fwas, fbegun, faside, ftext, fL, gL, fnext, ffar, fthen, fqueue, frankAt, fturnAt])) (n2 := n) (st2 := []) rfl rfl rfl rfl ?_
  refine r_iload_n C dX7_ranked_29 rfl 2 rfl ?_
  refine r_aload_n C dX7_ranked_30 rfl 0 rfl ?_
  refine r_callV (As := []) C (c_X7_all (kd := kd) (N := N) (hv.1.N) (hv.1.1)) wM_X7_136 wI_X7_all wN_X7 wC_X7_all wV_X7_all hd_X7_all ⟨Nat.le_of_ble_eq_true rfl, Nat.le_of_ble_eq_true rfl⟩ rfl (mW_o _ _ _ _ _) rfl rfl (Nat.le_of_ble_eq_true rfl) dX7_ranked_31 ⟨Nat.le_of_ble_eq_true rfl, Nat.le_of_ble_eq_true rfl⟩ (fun rv n2 σ2 hp => ?_)
  obtain ⟨rfl, rfl, rfl⟩ := hp
  refine V.eq (σ2 := (mW G σ m0 [xstates, xtyped, xat, xreason, xdone, nI kd, nI N, nI sr] [fs, fwas, fbegun, faside, ftext, fL, gL, fnext, ffar, fthen, fqueue, frankAt, fturnAt])) (n2 := n) (st2 := [.int (nI (fac N * sm (sid kd) N)), .int (nI r)]) rfl rfl rfl rfl ?_
  have hfs := fs_le (sid kd) hN6
  refine r_icmp_ltN (tgt := 40) C dX7_ranked_34 (by decide) (by omega) (by omega) (fun c34 => ?_) (fun c34 => ?_)
  · exact absurd hrr (Nat.not_le.mpr c34)
  · refine r_ldc C wQ_X7_149 dX7_ranked_37 ?_
    exact r_iret C hr hlocks (Nat.le_of_ble_eq_true rfl) (Nat.le_of_ble_eq_true rfl) dX7_ranked_39 (hpo _ _ _ ⟨rfl, rfl, fL, gL, rfl⟩)

abbrev rm_X7_ranked_y : Room := { frames := 2, cells := 0, slots := 0, locals := 50 }
set_option maxRecDepth 100000 in
set_option maxHeartbeats 4000000 in
theorem c_X7_ranked_y {l : Launch} {G : gG} {n : Nat} {σ : gS} {m0 : Nat} {xstates xtyped xat xreason xdone xkind xn xstrength : Int32} {fs fwas fbegun faside ftext fsize fburnt fnext ffar fthen fqueue frankAt fturnAt : Nat → Int32} {ns k kd N sr o sd : Nat} {o2 sd2 w : Nat} (hns : fs 0 = nI ns) (hns5 : ns ≤ 5) (hkn : k < ns) (hst : StkAt fs k kd N sr o sd) (hv : Vld kd N sr o sd) (hw : w ≤ 1) (ho2 : o2 < fac N) (hs2 : sd2 < sm (sid kd) N) : GM l G yX7_ranked cX7_ranked 4 (some .int) rm_X7_ranked_y n (mW G σ m0 [xstates, xtyped, xat, xreason, xdone, xkind, xn, xstrength] [fs, fwas, fbegun, faside, ftext, fsize, fburnt, fnext, ffar, fthen, fqueue, frankAt, fturnAt]) [.ref m0, .int (nI k), .int (nI (rk (sid kd) N o2 sd2)), .int (nI w)] (fun rv n2 σ2 => some (.int (nI (if w = 0 then cd N o2 else sd2))) = rv ∧ n = n2 ∧ ∃ (f2 : Nat → Int32) (g2 : Nat → Int32), (mW G σ m0 [xstates, xtyped, xat, xreason, xdone, nI kd, nI N, nI sr] [fs, fwas, fbegun, faside, ftext, f2, g2, fnext, ffar, fthen, fqueue, frankAt, fturnAt]) = σ2) := by
  refine GM.intro (by decide +kernel) (Nat.le_of_ble_eq_true rfl) (fun p e s m args below meth c C hr hlocks hname po hpo => ?_)
  have C : Cx p s m args c cX7_ranked 4 RX7 G := C
  have hk : k < 5 := by omega
  have hN6 := hv.1.N
  have hN1 := hv.1.2.1
  have hrl := rk_lt hN6 ho2 hs2
  refine r_aload_n C dX7_ranked_0 rfl 0 rfl ?_
  refine r_iload_n C dX7_ranked_1 rfl 1 rfl ?_
  refine r_callV (As := [.int (nI k)]) C (c_X7_isStack (x := nI k) (ns := ns) (by first | assumption | omega)) wM_X7_98 wI_X7_isStack wN_X7 wC_X7_isStack wV_X7_isStack hd_X7_isStack ⟨Nat.le_of_ble_eq_true rfl, Nat.le_of_ble_eq_true rfl⟩ rfl (mW_o _ _ _ _ _) rfl rfl (Nat.le_of_ble_eq_true rfl) dX7_ranked_2 ⟨Nat.le_of_ble_eq_true rfl, Nat.le_of_ble_eq_true rfl⟩ (fun rv n2 σ2 hp => ?_)
  obtain ⟨rfl, rfl, rfl⟩ := hp
  refine V.eq (σ2 := (mW G σ m0 [xstates, xtyped, xat, xreason, xdone, xkind, xn, xstrength] [fs, fwas, fbegun, faside, ftext, fsize, fburnt, fnext, ffar, fthen, fqueue, frankAt, fturnAt])) (n2 := n) (st2 := [.int (bI (isS (nI k) ns))]) rfl rfl rfl rfl ?_
  refine V.top (y := bI true) (congrArg bI (isS_t ns (by omega) k hkn)) ?_
  refine r_if_eqB (tgt := 21) C dX7_ranked_5 (by decide) (fun z => absurd z (by decide)) (fun _ => ?_)
  refine r_iload_n C dX7_ranked_8 rfl 2 rfl ?_
  refine r_if_ltN C dX7_ranked_9 (tgt := 21) (by decide) (by omega) ?_
  refine r_iload_n C dX7_ranked_12 rfl 3 rfl ?_
  refine r_iconst (v := nI 0) C dX7_ranked_13 (by decide) ?_
  refine r_iconst (v := nI 1) C dX7_ranked_14 (by decide) ?_
  refine r_callS (As := [.int (nI w), .int (nI 0), .int (nI 1)]) C (c_X7_in (v := nI w) (low := nI 0) (high := nI 1) ) wM_X7_50 wS_X7_in wN_X7 wC_X7_in hd_X7_in ⟨Nat.le_of_ble_eq_true rfl, Nat.le_of_ble_eq_true rfl⟩ rfl rfl (Nat.le_of_ble_eq_true rfl) dX7_ranked_15 ⟨Nat.le_of_ble_eq_true rfl, Nat.le_of_ble_eq_true rfl⟩ (fun rv n2 σ2 hp => ?_)
  obtain ⟨rfl, rfl, rfl⟩ := hp
  refine V.eq (σ2 := (mW G σ m0 [xstates, xtyped, xat, xreason, xdone, xkind, xn, xstrength] [fs, fwas, fbegun, faside, ftext, fsize, fburnt, fnext, ffar, fthen, fqueue, frankAt, fturnAt])) (n2 := n) (st2 := [.int (bI (decide ((nI 0) ≤ (nI w) ∧ (nI w) ≤ (nI 1))))]) rfl rfl rfl rfl ?_
  refine V.top (y := bI true) (congrArg bI (in_N (by omega) (by omega) (by omega))) ?_
  refine r_if_neB (tgt := 24) C dX7_ranked_18 (by decide) (fun _ => ?_) (fun z => absurd z (by decide))
  refine r_aload_n C dX7_ranked_24 rfl 0 rfl ?_
  refine r_iload_n C dX7_ranked_25 rfl 1 rfl ?_
  refine r_callV (As := [.int (nI k)]) C (c_X7_looks (k := k) (kd := kd) (N := N) (sr := sr) (o := o) (sd := sd) (by first | assumption | omega) (by first | assumption | omega) (by first | assumption | omega)) wM_X7_105 wI_X7_looks wN_X7 wC_X7_looks wV_X7_looks hd_X7_looks ⟨Nat.le_of_ble_eq_true rfl, Nat.le_of_ble_eq_true rfl⟩ rfl (mW_o _ _ _ _ _) rfl rfl (Nat.le_of_ble_eq_true rfl) dX7_ranked_26 ⟨Nat.le_of_ble_eq_true rfl, Nat.le_of_ble_eq_true rfl⟩ (fun rv n2 σ2 hp => ?_)
  obtain ⟨rfl, rfl, fL, gL, rfl, hzL, hbL⟩ := hp
  refine V.eq (σ2 := (mW G σ m0 [xstates, xtyped, xat, xreason, xdone, nI kd, nI N, nI sr] [fs, fwas, fbegun, faside, ftext, fL, gL, fnext, ffar, fthen, fqueue, frankAt, fturnAt])) (n2 := n) (st2 := []) rfl rfl rfl rfl ?_
  refine r_iload_n C dX7_ranked_29 rfl 2 rfl ?_
  refine r_aload_n C dX7_ranked_30 rfl 0 rfl ?_
  refine r_callV (As := []) C (c_X7_all (kd := kd) (N := N) (hv.1.N) (hv.1.1)) wM_X7_136 wI_X7_all wN_X7 wC_X7_all wV_X7_all hd_X7_all ⟨Nat.le_of_ble_eq_true rfl, Nat.le_of_ble_eq_true rfl⟩ rfl (mW_o _ _ _ _ _) rfl rfl (Nat.le_of_ble_eq_true rfl) dX7_ranked_31 ⟨Nat.le_of_ble_eq_true rfl, Nat.le_of_ble_eq_true rfl⟩ (fun rv n2 σ2 hp => ?_)
  obtain ⟨rfl, rfl, rfl⟩ := hp
  refine V.eq (σ2 := (mW G σ m0 [xstates, xtyped, xat, xreason, xdone, nI kd, nI N, nI sr] [fs, fwas, fbegun, faside, ftext, fL, gL, fnext, ffar, fthen, fqueue, frankAt, fturnAt])) (n2 := n) (st2 := [.int (nI (fac N * sm (sid kd) N)), .int (nI (rk (sid kd) N o2 sd2))]) rfl rfl rfl rfl ?_
  have hfs := fs_le (sid kd) hN6
  refine r_icmp_ltN (tgt := 40) C dX7_ranked_34 (by decide) (by omega) (by omega) (fun c34 => ?_) (fun c34 => ?_)
  · refine r_aload_n C dX7_ranked_40 rfl 0 rfl ?_
    refine r_iload_n C dX7_ranked_41 rfl 2 rfl ?_
    refine r_callV (As := [.int (nI (rk (sid kd) N o2 sd2))]) C (c_X7_unranks (kd := kd) (N := N) (o := o2) (sd := sd2) (r := rk (sid kd) N o2 sd2) (hv.1.N) (hv.1.2.1) (ho2) (hv.1.1) (hs2) (rfl)) wM_X7_139 wI_X7_unranks wN_X7 wC_X7_unranks wV_X7_unranks hd_X7_unranks ⟨Nat.le_of_ble_eq_true rfl, Nat.le_of_ble_eq_true rfl⟩ rfl (mW_o _ _ _ _ _) rfl rfl (Nat.le_of_ble_eq_true rfl) dX7_ranked_42 ⟨Nat.le_of_ble_eq_true rfl, Nat.le_of_ble_eq_true rfl⟩ (fun rv n2 σ2 hp => ?_)
    obtain ⟨rfl, rfl, fR, gR, rfl, hzR, hbR⟩ := hp
    refine V.eq (σ2 := (mW G σ m0 [xstates, xtyped, xat, xreason, xdone, nI kd, nI N, nI sr] [fs, fwas, fbegun, faside, ftext, fR, gR, fnext, ffar, fthen, fqueue, frankAt, fturnAt])) (n2 := n) (st2 := []) rfl rfl rfl rfl ?_
    refine r_iload_n C dX7_ranked_45 rfl 3 rfl ?_
    refine r_if_neN (tgt := 56) C dX7_ranked_46 (by decide) (by omega) (fun c46 => ?_) (fun c46 => ?_)
    · refine r_aload_n C dX7_ranked_56 rfl 0 rfl ?_
      refine r_callV (As := []) C (c_X7_sides (N := N) (sd := sd2) (hv.1.N) (sm_two hs2) (hbR)) wM_X7_87 wI_X7_sides wN_X7 wC_X7_sides wV_X7_sides hd_X7_sides ⟨Nat.le_of_ble_eq_true rfl, Nat.le_of_ble_eq_true rfl⟩ rfl (mW_o _ _ _ _ _) rfl rfl (Nat.le_of_ble_eq_true rfl) dX7_ranked_57 ⟨Nat.le_of_ble_eq_true rfl, Nat.le_of_ble_eq_true rfl⟩ (fun rv n2 σ2 hp => ?_)
      obtain ⟨rfl, rfl, rfl⟩ := hp
      refine V.eq (σ2 := (mW G σ m0 [xstates, xtyped, xat, xreason, xdone, nI kd, nI N, nI sr] [fs, fwas, fbegun, faside, ftext, fR, gR, fnext, ffar, fthen, fqueue, frankAt, fturnAt])) (n2 := n) (st2 := [.int (nI sd2)]) rfl rfl rfl rfl ?_
      exact r_iret C hr hlocks (Nat.le_of_ble_eq_true rfl) (Nat.le_of_ble_eq_true rfl) dX7_ranked_60 (hpo _ _ _ ⟨by first | (rw [if_pos c46]; done) | (rw [if_neg c46]; done), rfl, fR, gR, rfl⟩)
    · refine r_aload_n C dX7_ranked_49 rfl 0 rfl ?_
      refine r_callV (As := []) C (c_X7_code (N := N) (o := o2) (hv.1.N) (hv.1.2.1) (ho2) (hzR)) wM_X7_119 wI_X7_code wN_X7 wC_X7_code wV_X7_code hd_X7_code ⟨Nat.le_of_ble_eq_true rfl, Nat.le_of_ble_eq_true rfl⟩ rfl (mW_o _ _ _ _ _) rfl rfl (Nat.le_of_ble_eq_true rfl) dX7_ranked_50 ⟨Nat.le_of_ble_eq_true rfl, Nat.le_of_ble_eq_true rfl⟩ (fun rv n2 σ2 hp => ?_)
      obtain ⟨rfl, rfl, rfl⟩ := hp
      refine V.eq (σ2 := (mW G σ m0 [xstates, xtyped, xat, xreason, xdone, nI kd, nI N, nI sr] [fs, fwas, fbegun, faside, ftext, fR, gR, fnext, ffar, fthen, fqueue, frankAt, fturnAt])) (n2 := n) (st2 := [.int (nI (cd N o2))]) rfl rfl rfl rfl ?_
      refine r_goto (tgt := 60) C dX7_ranked_53 (by decide) ?_
      exact r_iret C hr hlocks (Nat.le_of_ble_eq_true rfl) (Nat.le_of_ble_eq_true rfl) dX7_ranked_60 (hpo _ _ _ ⟨by first | (rw [if_pos c46]; done) | (rw [if_neg c46]; done), rfl, fR, gR, rfl⟩)
  · exact absurd (rk_all ho2 hs2) (Nat.not_lt.mpr c34)

abbrev rm_X7_turn_y : Room := { frames := 4, cells := 0, slots := 0, locals := 87 }
set_option maxRecDepth 100000 in
set_option maxHeartbeats 4000000 in
theorem c_X7_turn_y {l : Launch} {G : gG} {n : Nat} {σ : gS} {m0 : Nat} {xtyped xat xreason xdone xkind xn xstrength : Int32} {fs fwas fbegun faside ftext fsize fburnt fnext ffar fthen fqueue frankAt fturnAt : Nat → Int32} {ns k kd N sr o sd : Nat} {sc h w : Nat} (hns : fs 0 = nI ns) (hns5 : ns ≤ 5) (hkn : k < ns) (hst : StkAt fs k kd N sr o sd) (hv : Vld kd N sr o sd) (hsc : sc ≤ 4) (hh : fs 1 = nI h) (hh3 : h < 3) (hw1 : 1 ≤ w ∧ w ≤ N) (hok : okT kd sr N o sd w = true) : GM l G yX7_turn cX7_turn 3 (some .int) rm_X7_turn_y n (mW G σ m0 [nI sc, xtyped, xat, xreason, xdone, xkind, xn, xstrength] [fs, fwas, fbegun, faside, ftext, fsize, fburnt, fnext, ffar, fthen, fqueue, frankAt, fturnAt]) [.ref m0, .int (nI k), .int (nI w)] (fun rv n2 σ2 => some (.int (nI (gp (sid kd) N (tnO N o w) (tnS (sid kd) sd w)))) = rv ∧ n = n2 ∧ ∃ (f2 : Nat → Int32) (g2 : Nat → Int32) (w2 : Nat → Int32) (s2 : Nat) (b2 : Nat → Int32), (mW G σ m0 [nI (s2 + 1), xtyped, xat, xreason, xdone, nI kd, nI N, nI sr] [(tnM fs k (cd N (tnO N o w)) (tnS (sid kd) sd w) w h), w2, b2, faside, ftext, f2, g2, fnext, ffar, fthen, fqueue, frankAt, fturnAt]) = σ2 ∧ (s2 ≤ 3) ∧ (∀ j, j < 38 → w2 (38 * s2 + j) = fs j) ∧ ((sc < 4 ∧ s2 = sc ∧ ∀ j, j < 38 * s2 → w2 j = fwas j) ∨ (sc = 4 ∧ s2 = 3 ∧ ∀ j, j < 114 → w2 j = fwas (j + 38)))) := by
  refine GM.intro (by decide +kernel) (Nat.le_of_ble_eq_true rfl) (fun p e s m args below meth c C hr hlocks hname po hpo => ?_)
  have C : Cx p s m args c cX7_turn 3 RX7 G := C
  have hk : k < 5 := by omega
  have hN6 := hv.1.N
  have hN1 := hv.1.2.1
  refine r_aload_n C dX7_turn_0 rfl 0 rfl ?_
  refine r_iload_n C dX7_turn_1 rfl 1 rfl ?_
  refine r_callV (As := [.int (nI k)]) C (c_X7_isStack (x := nI k) (ns := ns) (by first | assumption | omega)) wM_X7_98 wI_X7_isStack wN_X7 wC_X7_isStack wV_X7_isStack hd_X7_isStack ⟨Nat.le_of_ble_eq_true rfl, Nat.le_of_ble_eq_true rfl⟩ rfl (mW_o _ _ _ _ _) rfl rfl (Nat.le_of_ble_eq_true rfl) dX7_turn_2 ⟨Nat.le_of_ble_eq_true rfl, Nat.le_of_ble_eq_true rfl⟩ (fun rv n2 σ2 hp => ?_)
  obtain ⟨rfl, rfl, rfl⟩ := hp
  refine V.eq (σ2 := (mW G σ m0 [nI sc, xtyped, xat, xreason, xdone, xkind, xn, xstrength] [fs, fwas, fbegun, faside, ftext, fsize, fburnt, fnext, ffar, fthen, fqueue, frankAt, fturnAt])) (n2 := n) (st2 := [.int (bI (isS (nI k) ns))]) rfl rfl rfl rfl ?_
  refine V.top (y := bI true) (congrArg bI (isS_t ns (by omega) k hkn)) ?_
  refine r_if_eqB (tgt := 22) C dX7_turn_5 (by decide) (fun z => absurd z (by decide)) (fun _ => ?_)
  refine r_iload_n C dX7_turn_8 rfl 2 rfl ?_
  refine r_iconst (v := nI 1) C dX7_turn_9 (by decide) ?_
  refine r_aload_n C dX7_turn_10 rfl 0 rfl ?_
  refine r_iload_n C dX7_turn_11 rfl 1 rfl ?_
  refine r_iconst (v := nI 1) C dX7_turn_12 (by decide) ?_
  refine r_callV (As := [.int (nI k), .int (nI 1)]) C (c_X7_st (k := k) (w := 1) (by first | assumption | omega)) wM_X7_62 wI_X7_st wN_X7 wC_X7_st wV_X7_st hd_X7_st ⟨Nat.le_of_ble_eq_true rfl, Nat.le_of_ble_eq_true rfl⟩ rfl (mW_o _ _ _ _ _) rfl rfl (Nat.le_of_ble_eq_true rfl) dX7_turn_13 ⟨Nat.le_of_ble_eq_true rfl, Nat.le_of_ble_eq_true rfl⟩ (fun rv n2 σ2 hp => ?_)
  obtain ⟨rfl, rfl, rfl⟩ := hp
  refine V.eq (σ2 := (mW G σ m0 [nI sc, xtyped, xat, xreason, xdone, xkind, xn, xstrength] [fs, fwas, fbegun, faside, ftext, fsize, fburnt, fnext, ffar, fthen, fqueue, frankAt, fturnAt])) (n2 := n) (st2 := [.int (fs (8 + 6 * k + 1)), .int (nI 1), .int (nI w)]) rfl rfl rfl rfl ?_
  refine V.top (y := nI N) (hst.2.1) ?_
  refine r_callS (As := [.int (nI w), .int (nI 1), .int (nI N)]) C (c_X7_in (v := nI w) (low := nI 1) (high := nI N) ) wM_X7_50 wS_X7_in wN_X7 wC_X7_in hd_X7_in ⟨Nat.le_of_ble_eq_true rfl, Nat.le_of_ble_eq_true rfl⟩ rfl rfl (Nat.le_of_ble_eq_true rfl) dX7_turn_16 ⟨Nat.le_of_ble_eq_true rfl, Nat.le_of_ble_eq_true rfl⟩ (fun rv n2 σ2 hp => ?_)
  obtain ⟨rfl, rfl, rfl⟩ := hp
  refine V.eq (σ2 := (mW G σ m0 [nI sc, xtyped, xat, xreason, xdone, xkind, xn, xstrength] [fs, fwas, fbegun, faside, ftext, fsize, fburnt, fnext, ffar, fthen, fqueue, frankAt, fturnAt])) (n2 := n) (st2 := [.int (bI (decide ((nI 1) ≤ (nI w) ∧ (nI w) ≤ (nI N))))]) rfl rfl rfl rfl ?_
  refine V.top (y := bI true) (congrArg bI (in_N (by omega) (by omega) (by omega))) ?_
  refine r_if_neB (tgt := 25) C dX7_turn_19 (by decide) (fun _ => ?_) (fun z => absurd z (by decide))
  refine r_aload_n C dX7_turn_25 rfl 0 rfl ?_
  refine r_callV (As := []) C (c_X7_keeps  ) wM_X7_92 wI_X7_keeps wN_X7 wC_X7_keeps wV_X7_keeps hd_X7_keeps ⟨Nat.le_of_ble_eq_true rfl, Nat.le_of_ble_eq_true rfl⟩ rfl (mW_o _ _ _ _ _) rfl rfl (Nat.le_of_ble_eq_true rfl) dX7_turn_26 ⟨Nat.le_of_ble_eq_true rfl, Nat.le_of_ble_eq_true rfl⟩ (fun rv n2 σ2 hp => ?_)
  obtain ⟨rfl, rfl, gK, rfl, hbK⟩ := hp
  refine V.eq (σ2 := (mW G σ m0 [nI sc, xtyped, xat, xreason, xdone, xkind, xn, xstrength] [fs, fwas, gK, faside, ftext, fsize, fburnt, fnext, ffar, fthen, fqueue, frankAt, fturnAt])) (n2 := n) (st2 := []) rfl rfl rfl rfl ?_
  refine r_aload_n C dX7_turn_29 rfl 0 rfl ?_
  refine r_aload_n C dX7_turn_30 rfl 0 rfl ?_
  refine r_iload_n C dX7_turn_31 rfl 1 rfl ?_
  refine r_iload_n C dX7_turn_32 rfl 2 rfl ?_
  refine r_callV (As := [.int (nI k), .int (nI w)]) C (c_X7_turnsOne (k := k) (kd := kd) (N := N) (sr := sr) (o := o) (sd := sd) (h := h) (w := w) (by first | assumption | omega) (by first | assumption | omega) (by first | assumption | omega) (by first | assumption | omega) (by first | assumption | omega) (by first | assumption | omega)) wM_X7_122 wI_X7_turnsOne wN_X7 wC_X7_turnsOne wV_X7_turnsOne hd_X7_turnsOne ⟨Nat.le_of_ble_eq_true rfl, Nat.le_of_ble_eq_true rfl⟩ rfl (mW_o _ _ _ _ _) rfl rfl (Nat.le_of_ble_eq_true rfl) dX7_turn_33 ⟨Nat.le_of_ble_eq_true rfl, Nat.le_of_ble_eq_true rfl⟩ (fun rv n2 σ2 hp => ?_)
  obtain ⟨rfl, rfl, f2_1, g2_2, rfl⟩ := hp
  refine V.eq (σ2 := (mW G σ m0 [nI sc, xtyped, xat, xreason, xdone, nI kd, nI N, nI sr] [(ts1 fs k kd sr N o sd w h), fwas, gK, faside, ftext, f2_1, g2_2, fnext, ffar, fthen, fqueue, frankAt, fturnAt])) (n2 := n) (st2 := [.int (tr1 kd sr N o sd w), .ref m0]) rfl rfl rfl rfl ?_
  refine V.top (y := nI (gp (sid kd) N (tnO N o w) (tnS (sid kd) sd w))) (by rw [tr1, hok]; rfl) ?_
  have hg9 := gp_lt (sid kd) hN6 (tnO N o w) (tnS (sid kd) sd w)
  refine V.hp (σ2 := (mW G σ m0 [nI sc, xtyped, xat, xreason, xdone, nI kd, nI N, nI sr] [(tnM fs k (cd N (tnO N o w)) (tnS (sid kd) sd w) w h), fwas, gK, faside, ftext, f2_1, g2_2, fnext, ffar, fthen, fqueue, frankAt, fturnAt])) (by rw [(show (ts1 fs k kd sr N o sd w h) = (tnM fs k (cd N (tnO N o w)) (tnS (sid kd) sd w) w h) from by rw [ts1, hok]; rfl)]) ?_
  refine r_callV (As := [.int (nI (gp (sid kd) N (tnO N o w) (tnS (sid kd) sd w)))]) C (c_X7_acted_y (v := gp (sid kd) N (tnO N o w) (tnS (sid kd) sd w)) (sc := sc) (by first | assumption | omega) (by first | assumption | omega)) wM_X7_95 wI_X7_acted wN_X7 wC_X7_acted wV_X7_acted hd_X7_acted ⟨Nat.le_of_ble_eq_true rfl, Nat.le_of_ble_eq_true rfl⟩ rfl (mW_o _ _ _ _ _) rfl rfl (Nat.le_of_ble_eq_true rfl) dX7_turn_36 ⟨Nat.le_of_ble_eq_true rfl, Nat.le_of_ble_eq_true rfl⟩ (fun rv n2 σ2 hp => ?_)
  obtain ⟨rfl, rfl, wA, sA, rfl, hA1, hA2, hA3⟩ := hp
  refine V.eq (σ2 := (mW G σ m0 [nI (sA + 1), xtyped, xat, xreason, xdone, nI kd, nI N, nI sr] [(tnM fs k (cd N (tnO N o w)) (tnS (sid kd) sd w) w h), wA, gK, faside, ftext, f2_1, g2_2, fnext, ffar, fthen, fqueue, frankAt, fturnAt])) (n2 := n) (st2 := [.int (nI (gp (sid kd) N (tnO N o w) (tnS (sid kd) sd w)))]) rfl rfl rfl rfl ?_
  exact r_iret C hr hlocks (Nat.le_of_ble_eq_true rfl) (Nat.le_of_ble_eq_true rfl) dX7_turn_39 (hpo _ _ _ ⟨rfl, rfl, f2_1, g2_2, wA, sA, gK, rfl, hA1, fun j hj => (hA2 j hj).trans (hbK j hj), hA3⟩)

abbrev rm_X7_turn_n : Room := { frames := 4, cells := 0, slots := 0, locals := 87 }
set_option maxRecDepth 100000 in
set_option maxHeartbeats 4000000 in
theorem c_X7_turn_n {l : Launch} {G : gG} {n : Nat} {σ : gS} {m0 : Nat} {xstates xtyped xat xreason xdone xkind xn xstrength : Int32} {fs fwas fbegun faside ftext fsize fburnt fnext ffar fthen fqueue frankAt fturnAt : Nat → Int32} {ns k kd N sr o sd : Nat} {h w : Nat} (hns : fs 0 = nI ns) (hns5 : ns ≤ 5) (hkn : k < ns) (hst : StkAt fs k kd N sr o sd) (hv : Vld kd N sr o sd) (hh : fs 1 = nI h) (hh3 : h < 3) (hw1 : 1 ≤ w ∧ w ≤ N) (hok : okT kd sr N o sd w = false) : GM l G yX7_turn cX7_turn 3 (some .int) rm_X7_turn_n n (mW G σ m0 [xstates, xtyped, xat, xreason, xdone, xkind, xn, xstrength] [fs, fwas, fbegun, faside, ftext, fsize, fburnt, fnext, ffar, fthen, fqueue, frankAt, fturnAt]) [.ref m0, .int (nI k), .int (nI w)] (fun rv n2 σ2 => some (.int (-1000002)) = rv ∧ n = n2 ∧ ∃ (f2 : Nat → Int32) (g2 : Nat → Int32) (b2 : Nat → Int32), (mW G σ m0 [xstates, xtyped, xat, xreason, xdone, nI kd, nI N, nI sr] [fs, fwas, b2, faside, ftext, f2, g2, fnext, ffar, fthen, fqueue, frankAt, fturnAt]) = σ2) := by
  refine GM.intro (by decide +kernel) (Nat.le_of_ble_eq_true rfl) (fun p e s m args below meth c C hr hlocks hname po hpo => ?_)
  have C : Cx p s m args c cX7_turn 3 RX7 G := C
  have hk : k < 5 := by omega
  have hN6 := hv.1.N
  have hN1 := hv.1.2.1
  refine r_aload_n C dX7_turn_0 rfl 0 rfl ?_
  refine r_iload_n C dX7_turn_1 rfl 1 rfl ?_
  refine r_callV (As := [.int (nI k)]) C (c_X7_isStack (x := nI k) (ns := ns) (by first | assumption | omega)) wM_X7_98 wI_X7_isStack wN_X7 wC_X7_isStack wV_X7_isStack hd_X7_isStack ⟨Nat.le_of_ble_eq_true rfl, Nat.le_of_ble_eq_true rfl⟩ rfl (mW_o _ _ _ _ _) rfl rfl (Nat.le_of_ble_eq_true rfl) dX7_turn_2 ⟨Nat.le_of_ble_eq_true rfl, Nat.le_of_ble_eq_true rfl⟩ (fun rv n2 σ2 hp => ?_)
  obtain ⟨rfl, rfl, rfl⟩ := hp
  refine V.eq (σ2 := (mW G σ m0 [xstates, xtyped, xat, xreason, xdone, xkind, xn, xstrength] [fs, fwas, fbegun, faside, ftext, fsize, fburnt, fnext, ffar, fthen, fqueue, frankAt, fturnAt])) (n2 := n) (st2 := [.int (bI (isS (nI k) ns))]) rfl rfl rfl rfl ?_
  refine V.top (y := bI true) (congrArg bI (isS_t ns (by omega) k hkn)) ?_
  refine r_if_eqB (tgt := 22) C dX7_turn_5 (by decide) (fun z => absurd z (by decide)) (fun _ => ?_)
  refine r_iload_n C dX7_turn_8 rfl 2 rfl ?_
  refine r_iconst (v := nI 1) C dX7_turn_9 (by decide) ?_
  refine r_aload_n C dX7_turn_10 rfl 0 rfl ?_
  refine r_iload_n C dX7_turn_11 rfl 1 rfl ?_
  refine r_iconst (v := nI 1) C dX7_turn_12 (by decide) ?_
  refine r_callV (As := [.int (nI k), .int (nI 1)]) C (c_X7_st (k := k) (w := 1) (by first | assumption | omega)) wM_X7_62 wI_X7_st wN_X7 wC_X7_st wV_X7_st hd_X7_st ⟨Nat.le_of_ble_eq_true rfl, Nat.le_of_ble_eq_true rfl⟩ rfl (mW_o _ _ _ _ _) rfl rfl (Nat.le_of_ble_eq_true rfl) dX7_turn_13 ⟨Nat.le_of_ble_eq_true rfl, Nat.le_of_ble_eq_true rfl⟩ (fun rv n2 σ2 hp => ?_)
  obtain ⟨rfl, rfl, rfl⟩ := hp
  refine V.eq (σ2 := (mW G σ m0 [xstates, xtyped, xat, xreason, xdone, xkind, xn, xstrength] [fs, fwas, fbegun, faside, ftext, fsize, fburnt, fnext, ffar, fthen, fqueue, frankAt, fturnAt])) (n2 := n) (st2 := [.int (fs (8 + 6 * k + 1)), .int (nI 1), .int (nI w)]) rfl rfl rfl rfl ?_
  refine V.top (y := nI N) (hst.2.1) ?_
  refine r_callS (As := [.int (nI w), .int (nI 1), .int (nI N)]) C (c_X7_in (v := nI w) (low := nI 1) (high := nI N) ) wM_X7_50 wS_X7_in wN_X7 wC_X7_in hd_X7_in ⟨Nat.le_of_ble_eq_true rfl, Nat.le_of_ble_eq_true rfl⟩ rfl rfl (Nat.le_of_ble_eq_true rfl) dX7_turn_16 ⟨Nat.le_of_ble_eq_true rfl, Nat.le_of_ble_eq_true rfl⟩ (fun rv n2 σ2 hp => ?_)
  obtain ⟨rfl, rfl, rfl⟩ := hp
  refine V.eq (σ2 := (mW G σ m0 [xstates, xtyped, xat, xreason, xdone, xkind, xn, xstrength] [fs, fwas, fbegun, faside, ftext, fsize, fburnt, fnext, ffar, fthen, fqueue, frankAt, fturnAt])) (n2 := n) (st2 := [.int (bI (decide ((nI 1) ≤ (nI w) ∧ (nI w) ≤ (nI N))))]) rfl rfl rfl rfl ?_
  refine V.top (y := bI true) (congrArg bI (in_N (by omega) (by omega) (by omega))) ?_
  refine r_if_neB (tgt := 25) C dX7_turn_19 (by decide) (fun _ => ?_) (fun z => absurd z (by decide))
  refine r_aload_n C dX7_turn_25 rfl 0 rfl ?_
  refine r_callV (As := []) C (c_X7_keeps  ) wM_X7_92 wI_X7_keeps wN_X7 wC_X7_keeps wV_X7_keeps hd_X7_keeps ⟨Nat.le_of_ble_eq_true rfl, Nat.le_of_ble_eq_true rfl⟩ rfl (mW_o _ _ _ _ _) rfl rfl (Nat.le_of_ble_eq_true rfl) dX7_turn_26 ⟨Nat.le_of_ble_eq_true rfl, Nat.le_of_ble_eq_true rfl⟩ (fun rv n2 σ2 hp => ?_)
  obtain ⟨rfl, rfl, gK, rfl, hbK⟩ := hp
  refine V.eq (σ2 := (mW G σ m0 [xstates, xtyped, xat, xreason, xdone, xkind, xn, xstrength] [fs, fwas, gK, faside, ftext, fsize, fburnt, fnext, ffar, fthen, fqueue, frankAt, fturnAt])) (n2 := n) (st2 := []) rfl rfl rfl rfl ?_
  refine r_aload_n C dX7_turn_29 rfl 0 rfl ?_
  refine r_aload_n C dX7_turn_30 rfl 0 rfl ?_
  refine r_iload_n C dX7_turn_31 rfl 1 rfl ?_
  refine r_iload_n C dX7_turn_32 rfl 2 rfl ?_
  refine r_callV (As := [.int (nI k), .int (nI w)]) C (c_X7_turnsOne (k := k) (kd := kd) (N := N) (sr := sr) (o := o) (sd := sd) (h := h) (w := w) (by first | assumption | omega) (by first | assumption | omega) (by first | assumption | omega) (by first | assumption | omega) (by first | assumption | omega) (by first | assumption | omega)) wM_X7_122 wI_X7_turnsOne wN_X7 wC_X7_turnsOne wV_X7_turnsOne hd_X7_turnsOne ⟨Nat.le_of_ble_eq_true rfl, Nat.le_of_ble_eq_true rfl⟩ rfl (mW_o _ _ _ _ _) rfl rfl (Nat.le_of_ble_eq_true rfl) dX7_turn_33 ⟨Nat.le_of_ble_eq_true rfl, Nat.le_of_ble_eq_true rfl⟩ (fun rv n2 σ2 hp => ?_)
  obtain ⟨rfl, rfl, f2_1, g2_2, rfl⟩ := hp
  refine V.eq (σ2 := (mW G σ m0 [xstates, xtyped, xat, xreason, xdone, nI kd, nI N, nI sr] [(ts1 fs k kd sr N o sd w h), fwas, gK, faside, ftext, f2_1, g2_2, fnext, ffar, fthen, fqueue, frankAt, fturnAt])) (n2 := n) (st2 := [.int (tr1 kd sr N o sd w), .ref m0]) rfl rfl rfl rfl ?_
  refine V.top (y := (-1000002)) (by rw [tr1, hok]; rfl) ?_
  refine V.hp (σ2 := (mW G σ m0 [xstates, xtyped, xat, xreason, xdone, nI kd, nI N, nI sr] [fs, fwas, gK, faside, ftext, f2_1, g2_2, fnext, ffar, fthen, fqueue, frankAt, fturnAt])) (by rw [(show (ts1 fs k kd sr N o sd w h) = fs from by rw [ts1, hok]; rfl)]) ?_
  refine r_callV (As := [.int (-1000002)]) C (c_X7_acted_n (x := (-1000002)) (by decide)) wM_X7_95 wI_X7_acted wN_X7 wC_X7_acted wV_X7_acted hd_X7_acted ⟨Nat.le_of_ble_eq_true rfl, Nat.le_of_ble_eq_true rfl⟩ rfl (mW_o _ _ _ _ _) rfl rfl (Nat.le_of_ble_eq_true rfl) dX7_turn_36 ⟨Nat.le_of_ble_eq_true rfl, Nat.le_of_ble_eq_true rfl⟩ (fun rv n2 σ2 hp => ?_)
  obtain ⟨rfl, rfl, rfl⟩ := hp
  refine V.eq (σ2 := (mW G σ m0 [xstates, xtyped, xat, xreason, xdone, nI kd, nI N, nI sr] [fs, fwas, gK, faside, ftext, f2_1, g2_2, fnext, ffar, fthen, fqueue, frankAt, fturnAt])) (n2 := n) (st2 := [.int (-1000002)]) rfl rfl rfl rfl ?_
  exact r_iret C hr hlocks (Nat.le_of_ble_eq_true rfl) (Nat.le_of_ble_eq_true rfl) dX7_turn_39 (hpo _ _ _ ⟨rfl, rfl, f2_1, g2_2, gK, rfl⟩)

abbrev rm_X7_lay_y : Room := { frames := 3, cells := 0, slots := 0, locals := 64 }
set_option maxRecDepth 100000 in
set_option maxHeartbeats 4000000 in
theorem c_X7_lay_y {l : Launch} {G : gG} {n : Nat} {σ : gS} {m0 : Nat} {xtyped xat xreason xdone xkind xn xstrength : Int32} {fs fwas fbegun faside ftext fsize fburnt fnext ffar fthen fqueue frankAt fturnAt : Nat → Int32} {ns k kd N sr o sd : Nat} {sc o2 sd2 : Nat} (hns : fs 0 = nI ns) (hns5 : ns ≤ 5) (hkn : k < ns) (hst : StkAt fs k kd N sr o sd) (hv : Vld kd N sr o sd) (hsc : sc ≤ 4) (ho2 : o2 < fac N) (hs2 : sd2 < sm (sid kd) N) : GM l G yX7_lay cX7_lay 4 (some .int) rm_X7_lay_y n (mW G σ m0 [nI sc, xtyped, xat, xreason, xdone, xkind, xn, xstrength] [fs, fwas, fbegun, faside, ftext, fsize, fburnt, fnext, ffar, fthen, fqueue, frankAt, fturnAt]) [.ref m0, .int (nI k), .int (nI (cd N o2)), .int (nI sd2)] (fun rv n2 σ2 => some (.int (nI (gp (sid kd) N o2 sd2))) = rv ∧ n = n2 ∧ ∃ (f2 : Nat → Int32) (g2 : Nat → Int32) (w2 : Nat → Int32) (s2 : Nat) (b2 : Nat → Int32), (mW G σ m0 [nI (s2 + 1), xtyped, xat, xreason, xdone, nI kd, nI N, nI sr] [(upd (upd fs (8 + 6 * k + 3) (nI (cd N o2))) (8 + 6 * k + 4) (nI sd2)), w2, b2, faside, ftext, f2, g2, fnext, ffar, fthen, fqueue, frankAt, fturnAt]) = σ2 ∧ (s2 ≤ 3) ∧ (∀ j, j < 38 → w2 (38 * s2 + j) = fs j) ∧ ((sc < 4 ∧ s2 = sc ∧ ∀ j, j < 38 * s2 → w2 j = fwas j) ∨ (sc = 4 ∧ s2 = 3 ∧ ∀ j, j < 114 → w2 j = fwas (j + 38)))) := by
  refine GM.intro (by decide +kernel) (Nat.le_of_ble_eq_true rfl) (fun p e s m args below meth c C hr hlocks hname po hpo => ?_)
  have C : Cx p s m args c cX7_lay 4 RX7 G := C
  have hk : k < 5 := by omega
  have hN6 := hv.1.N
  have hN1 := hv.1.2.1
  have hcl := cd_lt hN6 ho2
  have hsl := sm_le (sb := sid kd) hN6
  refine r_aload_n C dX7_lay_0 rfl 0 rfl ?_
  refine r_iload_n C dX7_lay_1 rfl 1 rfl ?_
  refine r_callV (As := [.int (nI k)]) C (c_X7_isStack (x := nI k) (ns := ns) (by first | assumption | omega)) wM_X7_98 wI_X7_isStack wN_X7 wC_X7_isStack wV_X7_isStack hd_X7_isStack ⟨Nat.le_of_ble_eq_true rfl, Nat.le_of_ble_eq_true rfl⟩ rfl (mW_o _ _ _ _ _) rfl rfl (Nat.le_of_ble_eq_true rfl) dX7_lay_2 ⟨Nat.le_of_ble_eq_true rfl, Nat.le_of_ble_eq_true rfl⟩ (fun rv n2 σ2 hp => ?_)
  obtain ⟨rfl, rfl, rfl⟩ := hp
  refine V.eq (σ2 := (mW G σ m0 [nI sc, xtyped, xat, xreason, xdone, xkind, xn, xstrength] [fs, fwas, fbegun, faside, ftext, fsize, fburnt, fnext, ffar, fthen, fqueue, frankAt, fturnAt])) (n2 := n) (st2 := [.int (bI (isS (nI k) ns))]) rfl rfl rfl rfl ?_
  refine V.top (y := bI true) (congrArg bI (isS_t ns (by omega) k hkn)) ?_
  refine r_if_eqB (tgt := 55) C dX7_lay_5 (by decide) (fun z => absurd z (by decide)) (fun _ => ?_)
  refine r_iload_n C dX7_lay_8 rfl 2 rfl ?_
  refine r_aload_n C dX7_lay_9 rfl 0 rfl ?_
  refine r_iload_n C dX7_lay_10 rfl 1 rfl ?_
  refine r_iconst (v := nI 1) C dX7_lay_11 (by decide) ?_
  refine r_callV (As := [.int (nI k), .int (nI 1)]) C (c_X7_st (k := k) (w := 1) (by first | assumption | omega)) wM_X7_62 wI_X7_st wN_X7 wC_X7_st wV_X7_st hd_X7_st ⟨Nat.le_of_ble_eq_true rfl, Nat.le_of_ble_eq_true rfl⟩ rfl (mW_o _ _ _ _ _) rfl rfl (Nat.le_of_ble_eq_true rfl) dX7_lay_12 ⟨Nat.le_of_ble_eq_true rfl, Nat.le_of_ble_eq_true rfl⟩ (fun rv n2 σ2 hp => ?_)
  obtain ⟨rfl, rfl, rfl⟩ := hp
  refine V.eq (σ2 := (mW G σ m0 [nI sc, xtyped, xat, xreason, xdone, xkind, xn, xstrength] [fs, fwas, fbegun, faside, ftext, fsize, fburnt, fnext, ffar, fthen, fqueue, frankAt, fturnAt])) (n2 := n) (st2 := [.int (fs (8 + 6 * k + 1)), .int (nI (cd N o2))]) rfl rfl rfl rfl ?_
  refine V.top (y := nI N) (hst.2.1) ?_
  refine r_callS (As := [.int (nI (cd N o2)), .int (nI N)]) C (c_X7_isCode_p (cw := cd N o2) (N := N) (by omega) (hN6) (by first | assumption | omega)) wM_X7_101 wS_X7_isCode wN_X7 wC_X7_isCode hd_X7_isCode ⟨Nat.le_of_ble_eq_true rfl, Nat.le_of_ble_eq_true rfl⟩ rfl rfl (Nat.le_of_ble_eq_true rfl) dX7_lay_15 ⟨Nat.le_of_ble_eq_true rfl, Nat.le_of_ble_eq_true rfl⟩ (fun rv n2 σ2 hp => ?_)
  obtain ⟨rfl, rfl, rfl⟩ := hp
  refine V.eq (σ2 := (mW G σ m0 [nI sc, xtyped, xat, xreason, xdone, xkind, xn, xstrength] [fs, fwas, fbegun, faside, ftext, fsize, fburnt, fnext, ffar, fthen, fqueue, frankAt, fturnAt])) (n2 := n) (st2 := [.int (bI (isC N (cd N o2)))]) rfl rfl rfl rfl ?_
  refine V.top (y := bI true) (congrArg bI (isC_iff.mpr ⟨o2, ho2, rfl⟩)) ?_
  refine r_if_eqB (tgt := 55) C dX7_lay_18 (by decide) (fun z => absurd z (by decide)) (fun _ => ?_)
  refine r_iload_n C dX7_lay_21 rfl 3 rfl ?_
  refine r_iconst (v := nI 0) C dX7_lay_22 (by decide) ?_
  refine r_aload_n C dX7_lay_23 rfl 0 rfl ?_
  refine r_iload_n C dX7_lay_24 rfl 1 rfl ?_
  refine r_iconst (v := nI 0) C dX7_lay_25 (by decide) ?_
  refine r_callV (As := [.int (nI k), .int (nI 0)]) C (c_X7_st (k := k) (w := 0) (by first | assumption | omega)) wM_X7_62 wI_X7_st wN_X7 wC_X7_st wV_X7_st hd_X7_st ⟨Nat.le_of_ble_eq_true rfl, Nat.le_of_ble_eq_true rfl⟩ rfl (mW_o _ _ _ _ _) rfl rfl (Nat.le_of_ble_eq_true rfl) dX7_lay_26 ⟨Nat.le_of_ble_eq_true rfl, Nat.le_of_ble_eq_true rfl⟩ (fun rv n2 σ2 hp => ?_)
  obtain ⟨rfl, rfl, rfl⟩ := hp
  refine V.eq (σ2 := (mW G σ m0 [nI sc, xtyped, xat, xreason, xdone, xkind, xn, xstrength] [fs, fwas, fbegun, faside, ftext, fsize, fburnt, fnext, ffar, fthen, fqueue, frankAt, fturnAt])) (n2 := n) (st2 := [.int (fs (8 + 6 * k + 0)), .int (nI 0), .int (nI sd2)]) rfl rfl rfl rfl ?_
  refine V.top (y := nI kd) (hst.1) ?_
  refine r_callS (As := [.int (nI kd)]) C (c_X7_hasSides (kd := kd) (hv.1.1)) wM_X7_76 wS_X7_hasSides wN_X7 wC_X7_hasSides hd_X7_hasSides ⟨Nat.le_of_ble_eq_true rfl, Nat.le_of_ble_eq_true rfl⟩ rfl rfl (Nat.le_of_ble_eq_true rfl) dX7_lay_29 ⟨Nat.le_of_ble_eq_true rfl, Nat.le_of_ble_eq_true rfl⟩ (fun rv n2 σ2 hp => ?_)
  obtain ⟨rfl, rfl, rfl⟩ := hp
  refine V.eq (σ2 := (mW G σ m0 [nI sc, xtyped, xat, xreason, xdone, xkind, xn, xstrength] [fs, fwas, fbegun, faside, ftext, fsize, fburnt, fnext, ffar, fthen, fqueue, frankAt, fturnAt])) (n2 := n) (st2 := [.int (bI (sid kd)), .int (nI 0), .int (nI sd2)]) rfl rfl rfl rfl ?_
  have L49 : ∀ (hi : Nat), (hi + 1 = sm (sid kd) N) → V p l e rm_X7_lay_y s m args below meth c G 4 (MQ below (gQ G po) args s rm_X7_lay_y.cells rm_X7_lay_y.slots (gF G)) 0 0 n (mW G σ m0 [nI sc, xtyped, xat, xreason, xdone, xkind, xn, xstrength] [fs, fwas, fbegun, faside, ftext, fsize, fburnt, fnext, ffar, fthen, fqueue, frankAt, fturnAt]) 49 [(0, .ref m0), (1, .int (nI k)), (2, .int (nI (cd N o2))), (3, .int (nI sd2))] [.int (nI hi), .int (nI 0), .int (nI sd2)] := by
    intro hi hhi
    refine r_callS (As := [.int (nI sd2), .int (nI 0), .int (nI hi)]) C (c_X7_in (v := nI sd2) (low := nI 0) (high := nI hi) ) wM_X7_50 wS_X7_in wN_X7 wC_X7_in hd_X7_in ⟨Nat.le_of_ble_eq_true rfl, Nat.le_of_ble_eq_true rfl⟩ rfl rfl (Nat.le_of_ble_eq_true rfl) dX7_lay_49 ⟨Nat.le_of_ble_eq_true rfl, Nat.le_of_ble_eq_true rfl⟩ (fun rv n2 σ2 hp => ?_)
    obtain ⟨rfl, rfl, rfl⟩ := hp
    refine V.eq (σ2 := (mW G σ m0 [nI sc, xtyped, xat, xreason, xdone, xkind, xn, xstrength] [fs, fwas, fbegun, faside, ftext, fsize, fburnt, fnext, ffar, fthen, fqueue, frankAt, fturnAt])) (n2 := n) (st2 := [.int (bI (decide ((nI 0) ≤ (nI sd2) ∧ (nI sd2) ≤ (nI hi))))]) rfl rfl rfl rfl ?_
    refine V.top (y := bI true) (congrArg bI (in_N (by omega) (by omega) (by omega))) ?_
    refine r_if_neB (tgt := 58) C dX7_lay_52 (by decide) (fun _ => ?_) (fun z => absurd z (by decide))
    refine r_aload_n C dX7_lay_58 rfl 0 rfl ?_
    refine r_callV (As := []) C (c_X7_keeps  ) wM_X7_92 wI_X7_keeps wN_X7 wC_X7_keeps wV_X7_keeps hd_X7_keeps ⟨Nat.le_of_ble_eq_true rfl, Nat.le_of_ble_eq_true rfl⟩ rfl (mW_o _ _ _ _ _) rfl rfl (Nat.le_of_ble_eq_true rfl) dX7_lay_59 ⟨Nat.le_of_ble_eq_true rfl, Nat.le_of_ble_eq_true rfl⟩ (fun rv n2 σ2 hp => ?_)
    obtain ⟨rfl, rfl, gK, rfl, hbK⟩ := hp
    refine V.eq (σ2 := (mW G σ m0 [nI sc, xtyped, xat, xreason, xdone, xkind, xn, xstrength] [fs, fwas, gK, faside, ftext, fsize, fburnt, fnext, ffar, fthen, fqueue, frankAt, fturnAt])) (n2 := n) (st2 := []) rfl rfl rfl rfl ?_
    refine r_aload_n C dX7_lay_62 rfl 0 rfl ?_
    refine rm_get (v := .ref (m0 + 1)) C 0 (by decide) wF_X7_7 rfl dX7_lay_63 ?_
    refine r_bipush (v := nI 8) C dX7_lay_66 (by decide) ?_
    refine r_bipush (v := nI 6) C dX7_lay_68 (by decide) ?_
    refine r_iload_n C dX7_lay_70 rfl 1 rfl ?_
    refine r_imulN C dX7_lay_71 ?_
    refine r_iaddN C dX7_lay_72 ?_
    refine r_iconst (v := nI 3) C dX7_lay_73 (by decide) ?_
    refine r_iaddN C dX7_lay_74 ?_
    refine r_iload_n C dX7_lay_75 rfl 2 rfl ?_
    refine rm_ast (f := fs) (len := 38) (A2 := [(upd fs ((8 + (6 * k)) + 3) (nI (cd N o2))), fwas, gK, faside, ftext, fsize, fburnt, fnext, ffar, fthen, fqueue, frankAt, fturnAt]) C 0 rfl rfl (by decide) (by omega) rfl rfl dX7_lay_76 ?_
    refine r_aload_n C dX7_lay_77 rfl 0 rfl ?_
    refine rm_get (v := .ref (m0 + 1)) C 0 (by decide) wF_X7_7 rfl dX7_lay_78 ?_
    refine r_bipush (v := nI 8) C dX7_lay_81 (by decide) ?_
    refine r_bipush (v := nI 6) C dX7_lay_83 (by decide) ?_
    refine r_iload_n C dX7_lay_85 rfl 1 rfl ?_
    refine r_imulN C dX7_lay_86 ?_
    refine r_iaddN C dX7_lay_87 ?_
    refine r_iconst (v := nI 4) C dX7_lay_88 (by decide) ?_
    refine r_iaddN C dX7_lay_89 ?_
    refine r_iload_n C dX7_lay_90 rfl 3 rfl ?_
    refine rm_ast (f := (upd fs ((8 + (6 * k)) + 3) (nI (cd N o2)))) (len := 38) (A2 := [(upd (upd fs ((8 + (6 * k)) + 3) (nI (cd N o2))) ((8 + (6 * k)) + 4) (nI sd2)), fwas, gK, faside, ftext, fsize, fburnt, fnext, ffar, fthen, fqueue, frankAt, fturnAt]) C 0 rfl rfl (by decide) (by omega) rfl rfl dX7_lay_91 ?_
    refine r_aload_n C dX7_lay_92 rfl 0 rfl ?_
    refine r_iload_n C dX7_lay_93 rfl 1 rfl ?_
    refine r_callV (As := [.int (nI k)]) C (c_X7_looks (k := k) (kd := kd) (N := N) (sr := sr) (o := o2) (sd := sd2) (by first | assumption | omega) (lay_st hst) (⟨hv.1, ho2, hs2⟩)) wM_X7_105 wI_X7_looks wN_X7 wC_X7_looks wV_X7_looks hd_X7_looks ⟨Nat.le_of_ble_eq_true rfl, Nat.le_of_ble_eq_true rfl⟩ rfl (mW_o _ _ _ _ _) rfl rfl (Nat.le_of_ble_eq_true rfl) dX7_lay_94 ⟨Nat.le_of_ble_eq_true rfl, Nat.le_of_ble_eq_true rfl⟩ (fun rv n2 σ2 hp => ?_)
    obtain ⟨rfl, rfl, fL, gL, rfl, hzL, hbL⟩ := hp
    refine V.eq (σ2 := (mW G σ m0 [nI sc, xtyped, xat, xreason, xdone, nI kd, nI N, nI sr] [(upd (upd fs ((8 + (6 * k)) + 3) (nI (cd N o2))) ((8 + (6 * k)) + 4) (nI sd2)), fwas, gK, faside, ftext, fL, gL, fnext, ffar, fthen, fqueue, frankAt, fturnAt])) (n2 := n) (st2 := []) rfl rfl rfl rfl ?_
    refine r_aload_n C dX7_lay_97 rfl 0 rfl ?_
    refine r_aload_n C dX7_lay_98 rfl 0 rfl ?_
    refine r_callV (As := []) C (c_X7_gaps (kd := kd) (N := N) (o := o2) (sd := sd2) (hv.1.N) (hv.1.2.1) (ho2) (hzL) (hbL) (hv.1.1)) wM_X7_109 wI_X7_gaps wN_X7 wC_X7_gaps wV_X7_gaps hd_X7_gaps ⟨Nat.le_of_ble_eq_true rfl, Nat.le_of_ble_eq_true rfl⟩ rfl (mW_o _ _ _ _ _) rfl rfl (Nat.le_of_ble_eq_true rfl) dX7_lay_99 ⟨Nat.le_of_ble_eq_true rfl, Nat.le_of_ble_eq_true rfl⟩ (fun rv n2 σ2 hp => ?_)
    obtain ⟨rfl, rfl, rfl⟩ := hp
    refine V.eq (σ2 := (mW G σ m0 [nI sc, xtyped, xat, xreason, xdone, nI kd, nI N, nI sr] [(upd (upd fs ((8 + (6 * k)) + 3) (nI (cd N o2))) ((8 + (6 * k)) + 4) (nI sd2)), fwas, gK, faside, ftext, fL, gL, fnext, ffar, fthen, fqueue, frankAt, fturnAt])) (n2 := n) (st2 := [.int (nI (gp (sid kd) N o2 sd2)), .ref m0]) rfl rfl rfl rfl ?_
    have hg9 := gp_lt (sid kd) hN6 o2 sd2
    refine r_callV (As := [.int (nI (gp (sid kd) N o2 sd2))]) C (c_X7_acted_y (v := gp (sid kd) N o2 sd2) (sc := sc) (by first | assumption | omega) (by first | assumption | omega)) wM_X7_95 wI_X7_acted wN_X7 wC_X7_acted wV_X7_acted hd_X7_acted ⟨Nat.le_of_ble_eq_true rfl, Nat.le_of_ble_eq_true rfl⟩ rfl (mW_o _ _ _ _ _) rfl rfl (Nat.le_of_ble_eq_true rfl) dX7_lay_102 ⟨Nat.le_of_ble_eq_true rfl, Nat.le_of_ble_eq_true rfl⟩ (fun rv n2 σ2 hp => ?_)
    obtain ⟨rfl, rfl, wA, sA, rfl, hA1, hA2, hA3⟩ := hp
    refine V.eq (σ2 := (mW G σ m0 [nI (sA + 1), xtyped, xat, xreason, xdone, nI kd, nI N, nI sr] [(upd (upd fs ((8 + (6 * k)) + 3) (nI (cd N o2))) ((8 + (6 * k)) + 4) (nI sd2)), wA, gK, faside, ftext, fL, gL, fnext, ffar, fthen, fqueue, frankAt, fturnAt])) (n2 := n) (st2 := [.int (nI (gp (sid kd) N o2 sd2))]) rfl rfl rfl rfl ?_
    exact r_iret C hr hlocks (Nat.le_of_ble_eq_true rfl) (Nat.le_of_ble_eq_true rfl) dX7_lay_105 (hpo _ _ _ ⟨rfl, rfl, fL, gL, wA, sA, gK, rfl, hA1, fun j hj => (hA2 j hj).trans (hbK j hj), hA3⟩)
  refine r_if_eqB (tgt := 48) C dX7_lay_32 (by decide) (fun c32 => ?_) (fun c32 => ?_)
  · refine r_iconst (v := nI 0) C dX7_lay_48 (by decide) ?_
    exact L49 0 (by have := Nat.one_le_two_pow (n := N); simp [sm, c32]; try omega)
  · refine r_iconst (v := nI 1) C dX7_lay_35 (by decide) ?_
    refine r_aload_n C dX7_lay_36 rfl 0 rfl ?_
    refine r_iload_n C dX7_lay_37 rfl 1 rfl ?_
    refine r_iconst (v := nI 1) C dX7_lay_38 (by decide) ?_
    refine r_callV (As := [.int (nI k), .int (nI 1)]) C (c_X7_st (k := k) (w := 1) (by first | assumption | omega)) wM_X7_62 wI_X7_st wN_X7 wC_X7_st wV_X7_st hd_X7_st ⟨Nat.le_of_ble_eq_true rfl, Nat.le_of_ble_eq_true rfl⟩ rfl (mW_o _ _ _ _ _) rfl rfl (Nat.le_of_ble_eq_true rfl) dX7_lay_39 ⟨Nat.le_of_ble_eq_true rfl, Nat.le_of_ble_eq_true rfl⟩ (fun rv n2 σ2 hp => ?_)
    obtain ⟨rfl, rfl, rfl⟩ := hp
    refine V.eq (σ2 := (mW G σ m0 [nI sc, xtyped, xat, xreason, xdone, xkind, xn, xstrength] [fs, fwas, fbegun, faside, ftext, fsize, fburnt, fnext, ffar, fthen, fqueue, frankAt, fturnAt])) (n2 := n) (st2 := [.int (fs (8 + 6 * k + 1)), .int (nI 1), .int (nI 0), .int (nI sd2)]) rfl rfl rfl rfl ?_
    refine V.top (y := nI N) (hst.2.1) ?_
    refine r_ishlN C dX7_lay_42 (by omega) ?_
    refine r_iconst (v := nI 1) C dX7_lay_43 (by decide) ?_
    refine r_isubN C dX7_lay_44 (by have := Nat.one_le_two_pow (n := N); omega) ?_
    refine r_goto (tgt := 49) C dX7_lay_45 (by decide) ?_
    exact L49 ((1 * 2 ^ N) - 1) (by have := Nat.one_le_two_pow (n := N); simp [sm, c32]; try omega)

abbrev rm_X7_lay_n : Room := { frames := 2, cells := 0, slots := 0, locals := 43 }
set_option maxRecDepth 100000 in
set_option maxHeartbeats 4000000 in
theorem c_X7_lay_n {l : Launch} {G : gG} {n : Nat} {σ : gS} {m0 : Nat} {xstates xtyped xat xreason xdone xkind xn xstrength : Int32} {fs fwas fbegun faside ftext fsize fburnt fnext ffar fthen fqueue frankAt fturnAt : Nat → Int32} {ns k kd N sr o sd : Nat} {y z : Int32} (hns : fs 0 = nI ns) (hns5 : ns ≤ 5) (hkn : k < ns) (hst : StkAt fs k kd N sr o sd) (hv : Vld kd N sr o sd) (hy : y < 0) : GM l G yX7_lay cX7_lay 4 (some .int) rm_X7_lay_n n (mW G σ m0 [xstates, xtyped, xat, xreason, xdone, xkind, xn, xstrength] [fs, fwas, fbegun, faside, ftext, fsize, fburnt, fnext, ffar, fthen, fqueue, frankAt, fturnAt]) [.ref m0, .int (nI k), .int y, .int z] (fun rv n2 σ2 => some (.int (-1000001)) = rv ∧ n = n2 ∧ (mW G σ m0 [xstates, xtyped, xat, xreason, xdone, xkind, xn, xstrength] [fs, fwas, fbegun, faside, ftext, fsize, fburnt, fnext, ffar, fthen, fqueue, frankAt, fturnAt]) = σ2) := by
  refine GM.intro (by decide +kernel) (Nat.le_of_ble_eq_true rfl) (fun p e s m args below meth c C hr hlocks hname po hpo => ?_)
  have C : Cx p s m args c cX7_lay 4 RX7 G := C
  have hk : k < 5 := by omega
  have hN6 := hv.1.N
  have hN1 := hv.1.2.1
  refine r_aload_n C dX7_lay_0 rfl 0 rfl ?_
  refine r_iload_n C dX7_lay_1 rfl 1 rfl ?_
  refine r_callV (As := [.int (nI k)]) C (c_X7_isStack (x := nI k) (ns := ns) (by first | assumption | omega)) wM_X7_98 wI_X7_isStack wN_X7 wC_X7_isStack wV_X7_isStack hd_X7_isStack ⟨Nat.le_of_ble_eq_true rfl, Nat.le_of_ble_eq_true rfl⟩ rfl (mW_o _ _ _ _ _) rfl rfl (Nat.le_of_ble_eq_true rfl) dX7_lay_2 ⟨Nat.le_of_ble_eq_true rfl, Nat.le_of_ble_eq_true rfl⟩ (fun rv n2 σ2 hp => ?_)
  obtain ⟨rfl, rfl, rfl⟩ := hp
  refine V.eq (σ2 := (mW G σ m0 [xstates, xtyped, xat, xreason, xdone, xkind, xn, xstrength] [fs, fwas, fbegun, faside, ftext, fsize, fburnt, fnext, ffar, fthen, fqueue, frankAt, fturnAt])) (n2 := n) (st2 := [.int (bI (isS (nI k) ns))]) rfl rfl rfl rfl ?_
  refine V.top (y := bI true) (congrArg bI (isS_t ns (by omega) k hkn)) ?_
  refine r_if_eqB (tgt := 55) C dX7_lay_5 (by decide) (fun z => absurd z (by decide)) (fun _ => ?_)
  refine r_iload_n C dX7_lay_8 rfl 2 rfl ?_
  refine r_aload_n C dX7_lay_9 rfl 0 rfl ?_
  refine r_iload_n C dX7_lay_10 rfl 1 rfl ?_
  refine r_iconst (v := nI 1) C dX7_lay_11 (by decide) ?_
  refine r_callV (As := [.int (nI k), .int (nI 1)]) C (c_X7_st (k := k) (w := 1) (by first | assumption | omega)) wM_X7_62 wI_X7_st wN_X7 wC_X7_st wV_X7_st hd_X7_st ⟨Nat.le_of_ble_eq_true rfl, Nat.le_of_ble_eq_true rfl⟩ rfl (mW_o _ _ _ _ _) rfl rfl (Nat.le_of_ble_eq_true rfl) dX7_lay_12 ⟨Nat.le_of_ble_eq_true rfl, Nat.le_of_ble_eq_true rfl⟩ (fun rv n2 σ2 hp => ?_)
  obtain ⟨rfl, rfl, rfl⟩ := hp
  refine V.eq (σ2 := (mW G σ m0 [xstates, xtyped, xat, xreason, xdone, xkind, xn, xstrength] [fs, fwas, fbegun, faside, ftext, fsize, fburnt, fnext, ffar, fthen, fqueue, frankAt, fturnAt])) (n2 := n) (st2 := [.int (fs (8 + 6 * k + 1)), .int y]) rfl rfl rfl rfl ?_
  refine V.top (y := nI N) (hst.2.1) ?_
  refine r_callS (As := [.int y, .int (nI N)]) C (c_X7_isCode_n (x := y) (N := N) (by first | assumption | omega) (hN6) (by first | assumption | omega)) wM_X7_101 wS_X7_isCode wN_X7 wC_X7_isCode hd_X7_isCode ⟨Nat.le_of_ble_eq_true rfl, Nat.le_of_ble_eq_true rfl⟩ rfl rfl (Nat.le_of_ble_eq_true rfl) dX7_lay_15 ⟨Nat.le_of_ble_eq_true rfl, Nat.le_of_ble_eq_true rfl⟩ (fun rv n2 σ2 hp => ?_)
  obtain ⟨rfl, rfl, rfl⟩ := hp
  refine V.eq (σ2 := (mW G σ m0 [xstates, xtyped, xat, xreason, xdone, xkind, xn, xstrength] [fs, fwas, fbegun, faside, ftext, fsize, fburnt, fnext, ffar, fthen, fqueue, frankAt, fturnAt])) (n2 := n) (st2 := [.int (bI false)]) rfl rfl rfl rfl ?_
  refine r_if_eqB (tgt := 55) C dX7_lay_18 (by decide) (fun _ => ?_) (fun z => absurd z (by decide))
  refine r_ldc C wQ_X7_54 dX7_lay_55 ?_
  exact r_iret C hr hlocks (Nat.le_of_ble_eq_true rfl) (Nat.le_of_ble_eq_true rfl) dX7_lay_57 (hpo _ _ _ ⟨rfl, rfl, rfl⟩)

abbrev rm_X7_lay_c : Room := { frames := 2, cells := 0, slots := 0, locals := 43 }
set_option maxRecDepth 100000 in
set_option maxHeartbeats 4000000 in
theorem c_X7_lay_c {l : Launch} {G : gG} {n : Nat} {σ : gS} {m0 : Nat} {xstates xtyped xat xreason xdone xkind xn xstrength : Int32} {fs fwas fbegun faside ftext fsize fburnt fnext ffar fthen fqueue frankAt fturnAt : Nat → Int32} {ns k kd N sr o sd : Nat} {cw : Nat} {z : Int32} (hns : fs 0 = nI ns) (hns5 : ns ≤ 5) (hkn : k < ns) (hst : StkAt fs k kd N sr o sd) (hv : Vld kd N sr o sd) (hcw : cw < 2 ^ 31) (hbad : isC N cw = false) : GM l G yX7_lay cX7_lay 4 (some .int) rm_X7_lay_c n (mW G σ m0 [xstates, xtyped, xat, xreason, xdone, xkind, xn, xstrength] [fs, fwas, fbegun, faside, ftext, fsize, fburnt, fnext, ffar, fthen, fqueue, frankAt, fturnAt]) [.ref m0, .int (nI k), .int (nI cw), .int z] (fun rv n2 σ2 => some (.int (-1000001)) = rv ∧ n = n2 ∧ (mW G σ m0 [xstates, xtyped, xat, xreason, xdone, xkind, xn, xstrength] [fs, fwas, fbegun, faside, ftext, fsize, fburnt, fnext, ffar, fthen, fqueue, frankAt, fturnAt]) = σ2) := by
  refine GM.intro (by decide +kernel) (Nat.le_of_ble_eq_true rfl) (fun p e s m args below meth c C hr hlocks hname po hpo => ?_)
  have C : Cx p s m args c cX7_lay 4 RX7 G := C
  have hk : k < 5 := by omega
  have hN6 := hv.1.N
  have hN1 := hv.1.2.1
  refine r_aload_n C dX7_lay_0 rfl 0 rfl ?_
  refine r_iload_n C dX7_lay_1 rfl 1 rfl ?_
  refine r_callV (As := [.int (nI k)]) C (c_X7_isStack (x := nI k) (ns := ns) (by first | assumption | omega)) wM_X7_98 wI_X7_isStack wN_X7 wC_X7_isStack wV_X7_isStack hd_X7_isStack ⟨Nat.le_of_ble_eq_true rfl, Nat.le_of_ble_eq_true rfl⟩ rfl (mW_o _ _ _ _ _) rfl rfl (Nat.le_of_ble_eq_true rfl) dX7_lay_2 ⟨Nat.le_of_ble_eq_true rfl, Nat.le_of_ble_eq_true rfl⟩ (fun rv n2 σ2 hp => ?_)
  obtain ⟨rfl, rfl, rfl⟩ := hp
  refine V.eq (σ2 := (mW G σ m0 [xstates, xtyped, xat, xreason, xdone, xkind, xn, xstrength] [fs, fwas, fbegun, faside, ftext, fsize, fburnt, fnext, ffar, fthen, fqueue, frankAt, fturnAt])) (n2 := n) (st2 := [.int (bI (isS (nI k) ns))]) rfl rfl rfl rfl ?_
  refine V.top (y := bI true) (congrArg bI (isS_t ns (by omega) k hkn)) ?_
  refine r_if_eqB (tgt := 55) C dX7_lay_5 (by decide) (fun z => absurd z (by decide)) (fun _ => ?_)
  refine r_iload_n C dX7_lay_8 rfl 2 rfl ?_
  refine r_aload_n C dX7_lay_9 rfl 0 rfl ?_
  refine r_iload_n C dX7_lay_10 rfl 1 rfl ?_
  refine r_iconst (v := nI 1) C dX7_lay_11 (by decide) ?_
  refine r_callV (As := [.int (nI k), .int (nI 1)]) C (c_X7_st (k := k) (w := 1) (by first | assumption | omega)) wM_X7_62 wI_X7_st wN_X7 wC_X7_st wV_X7_st hd_X7_st ⟨Nat.le_of_ble_eq_true rfl, Nat.le_of_ble_eq_true rfl⟩ rfl (mW_o _ _ _ _ _) rfl rfl (Nat.le_of_ble_eq_true rfl) dX7_lay_12 ⟨Nat.le_of_ble_eq_true rfl, Nat.le_of_ble_eq_true rfl⟩ (fun rv n2 σ2 hp => ?_)
  obtain ⟨rfl, rfl, rfl⟩ := hp
  refine V.eq (σ2 := (mW G σ m0 [xstates, xtyped, xat, xreason, xdone, xkind, xn, xstrength] [fs, fwas, fbegun, faside, ftext, fsize, fburnt, fnext, ffar, fthen, fqueue, frankAt, fturnAt])) (n2 := n) (st2 := [.int (fs (8 + 6 * k + 1)), .int (nI cw)]) rfl rfl rfl rfl ?_
  refine V.top (y := nI N) (hst.2.1) ?_
  refine r_callS (As := [.int (nI cw), .int (nI N)]) C (c_X7_isCode_p (cw := cw) (N := N) (by first | assumption | omega) (hN6) (by first | assumption | omega)) wM_X7_101 wS_X7_isCode wN_X7 wC_X7_isCode hd_X7_isCode ⟨Nat.le_of_ble_eq_true rfl, Nat.le_of_ble_eq_true rfl⟩ rfl rfl (Nat.le_of_ble_eq_true rfl) dX7_lay_15 ⟨Nat.le_of_ble_eq_true rfl, Nat.le_of_ble_eq_true rfl⟩ (fun rv n2 σ2 hp => ?_)
  obtain ⟨rfl, rfl, rfl⟩ := hp
  refine V.eq (σ2 := (mW G σ m0 [xstates, xtyped, xat, xreason, xdone, xkind, xn, xstrength] [fs, fwas, fbegun, faside, ftext, fsize, fburnt, fnext, ffar, fthen, fqueue, frankAt, fturnAt])) (n2 := n) (st2 := [.int (bI (isC N cw))]) rfl rfl rfl rfl ?_
  refine V.top (y := bI false) (congrArg bI (hbad)) ?_
  refine r_if_eqB (tgt := 55) C dX7_lay_18 (by decide) (fun _ => ?_) (fun z => absurd z (by decide))
  refine r_ldc C wQ_X7_54 dX7_lay_55 ?_
  exact r_iret C hr hlocks (Nat.le_of_ble_eq_true rfl) (Nat.le_of_ble_eq_true rfl) dX7_lay_57 (hpo _ _ _ ⟨rfl, rfl, rfl⟩)

abbrev rm_X7_lay_s : Room := { frames := 2, cells := 0, slots := 0, locals := 43 }
set_option maxRecDepth 100000 in
set_option maxHeartbeats 4000000 in
theorem c_X7_lay_s {l : Launch} {G : gG} {n : Nat} {σ : gS} {m0 : Nat} {xstates xtyped xat xreason xdone xkind xn xstrength : Int32} {fs fwas fbegun faside ftext fsize fburnt fnext ffar fthen fqueue frankAt fturnAt : Nat → Int32} {ns k kd N sr o sd : Nat} {o2 : Nat} {z : Int32} (hns : fs 0 = nI ns) (hns5 : ns ≤ 5) (hkn : k < ns) (hst : StkAt fs k kd N sr o sd) (hv : Vld kd N sr o sd) (ho2 : o2 < fac N) (hbad : decide (nI 0 ≤ z ∧ z ≤ nI (sm (sid kd) N - 1)) = false) : GM l G yX7_lay cX7_lay 4 (some .int) rm_X7_lay_s n (mW G σ m0 [xstates, xtyped, xat, xreason, xdone, xkind, xn, xstrength] [fs, fwas, fbegun, faside, ftext, fsize, fburnt, fnext, ffar, fthen, fqueue, frankAt, fturnAt]) [.ref m0, .int (nI k), .int (nI (cd N o2)), .int z] (fun rv n2 σ2 => some (.int (-1000001)) = rv ∧ n = n2 ∧ (mW G σ m0 [xstates, xtyped, xat, xreason, xdone, xkind, xn, xstrength] [fs, fwas, fbegun, faside, ftext, fsize, fburnt, fnext, ffar, fthen, fqueue, frankAt, fturnAt]) = σ2) := by
  refine GM.intro (by decide +kernel) (Nat.le_of_ble_eq_true rfl) (fun p e s m args below meth c C hr hlocks hname po hpo => ?_)
  have C : Cx p s m args c cX7_lay 4 RX7 G := C
  have hk : k < 5 := by omega
  have hN6 := hv.1.N
  have hN1 := hv.1.2.1
  have hcl := cd_lt hN6 ho2
  refine r_aload_n C dX7_lay_0 rfl 0 rfl ?_
  refine r_iload_n C dX7_lay_1 rfl 1 rfl ?_
  refine r_callV (As := [.int (nI k)]) C (c_X7_isStack (x := nI k) (ns := ns) (by first | assumption | omega)) wM_X7_98 wI_X7_isStack wN_X7 wC_X7_isStack wV_X7_isStack hd_X7_isStack ⟨Nat.le_of_ble_eq_true rfl, Nat.le_of_ble_eq_true rfl⟩ rfl (mW_o _ _ _ _ _) rfl rfl (Nat.le_of_ble_eq_true rfl) dX7_lay_2 ⟨Nat.le_of_ble_eq_true rfl, Nat.le_of_ble_eq_true rfl⟩ (fun rv n2 σ2 hp => ?_)
  obtain ⟨rfl, rfl, rfl⟩ := hp
  refine V.eq (σ2 := (mW G σ m0 [xstates, xtyped, xat, xreason, xdone, xkind, xn, xstrength] [fs, fwas, fbegun, faside, ftext, fsize, fburnt, fnext, ffar, fthen, fqueue, frankAt, fturnAt])) (n2 := n) (st2 := [.int (bI (isS (nI k) ns))]) rfl rfl rfl rfl ?_
  refine V.top (y := bI true) (congrArg bI (isS_t ns (by omega) k hkn)) ?_
  refine r_if_eqB (tgt := 55) C dX7_lay_5 (by decide) (fun z => absurd z (by decide)) (fun _ => ?_)
  refine r_iload_n C dX7_lay_8 rfl 2 rfl ?_
  refine r_aload_n C dX7_lay_9 rfl 0 rfl ?_
  refine r_iload_n C dX7_lay_10 rfl 1 rfl ?_
  refine r_iconst (v := nI 1) C dX7_lay_11 (by decide) ?_
  refine r_callV (As := [.int (nI k), .int (nI 1)]) C (c_X7_st (k := k) (w := 1) (by first | assumption | omega)) wM_X7_62 wI_X7_st wN_X7 wC_X7_st wV_X7_st hd_X7_st ⟨Nat.le_of_ble_eq_true rfl, Nat.le_of_ble_eq_true rfl⟩ rfl (mW_o _ _ _ _ _) rfl rfl (Nat.le_of_ble_eq_true rfl) dX7_lay_12 ⟨Nat.le_of_ble_eq_true rfl, Nat.le_of_ble_eq_true rfl⟩ (fun rv n2 σ2 hp => ?_)
  obtain ⟨rfl, rfl, rfl⟩ := hp
  refine V.eq (σ2 := (mW G σ m0 [xstates, xtyped, xat, xreason, xdone, xkind, xn, xstrength] [fs, fwas, fbegun, faside, ftext, fsize, fburnt, fnext, ffar, fthen, fqueue, frankAt, fturnAt])) (n2 := n) (st2 := [.int (fs (8 + 6 * k + 1)), .int (nI (cd N o2))]) rfl rfl rfl rfl ?_
  refine V.top (y := nI N) (hst.2.1) ?_
  refine r_callS (As := [.int (nI (cd N o2)), .int (nI N)]) C (c_X7_isCode_p (cw := cd N o2) (N := N) (by omega) (hN6) (by first | assumption | omega)) wM_X7_101 wS_X7_isCode wN_X7 wC_X7_isCode hd_X7_isCode ⟨Nat.le_of_ble_eq_true rfl, Nat.le_of_ble_eq_true rfl⟩ rfl rfl (Nat.le_of_ble_eq_true rfl) dX7_lay_15 ⟨Nat.le_of_ble_eq_true rfl, Nat.le_of_ble_eq_true rfl⟩ (fun rv n2 σ2 hp => ?_)
  obtain ⟨rfl, rfl, rfl⟩ := hp
  refine V.eq (σ2 := (mW G σ m0 [xstates, xtyped, xat, xreason, xdone, xkind, xn, xstrength] [fs, fwas, fbegun, faside, ftext, fsize, fburnt, fnext, ffar, fthen, fqueue, frankAt, fturnAt])) (n2 := n) (st2 := [.int (bI (isC N (cd N o2)))]) rfl rfl rfl rfl ?_
  refine V.top (y := bI true) (congrArg bI (isC_iff.mpr ⟨o2, ho2, rfl⟩)) ?_
  refine r_if_eqB (tgt := 55) C dX7_lay_18 (by decide) (fun z => absurd z (by decide)) (fun _ => ?_)
  refine r_iload_n C dX7_lay_21 rfl 3 rfl ?_
  refine r_iconst (v := nI 0) C dX7_lay_22 (by decide) ?_
  refine r_aload_n C dX7_lay_23 rfl 0 rfl ?_
  refine r_iload_n C dX7_lay_24 rfl 1 rfl ?_
  refine r_iconst (v := nI 0) C dX7_lay_25 (by decide) ?_
  refine r_callV (As := [.int (nI k), .int (nI 0)]) C (c_X7_st (k := k) (w := 0) (by first | assumption | omega)) wM_X7_62 wI_X7_st wN_X7 wC_X7_st wV_X7_st hd_X7_st ⟨Nat.le_of_ble_eq_true rfl, Nat.le_of_ble_eq_true rfl⟩ rfl (mW_o _ _ _ _ _) rfl rfl (Nat.le_of_ble_eq_true rfl) dX7_lay_26 ⟨Nat.le_of_ble_eq_true rfl, Nat.le_of_ble_eq_true rfl⟩ (fun rv n2 σ2 hp => ?_)
  obtain ⟨rfl, rfl, rfl⟩ := hp
  refine V.eq (σ2 := (mW G σ m0 [xstates, xtyped, xat, xreason, xdone, xkind, xn, xstrength] [fs, fwas, fbegun, faside, ftext, fsize, fburnt, fnext, ffar, fthen, fqueue, frankAt, fturnAt])) (n2 := n) (st2 := [.int (fs (8 + 6 * k + 0)), .int (nI 0), .int z]) rfl rfl rfl rfl ?_
  refine V.top (y := nI kd) (hst.1) ?_
  refine r_callS (As := [.int (nI kd)]) C (c_X7_hasSides (kd := kd) (hv.1.1)) wM_X7_76 wS_X7_hasSides wN_X7 wC_X7_hasSides hd_X7_hasSides ⟨Nat.le_of_ble_eq_true rfl, Nat.le_of_ble_eq_true rfl⟩ rfl rfl (Nat.le_of_ble_eq_true rfl) dX7_lay_29 ⟨Nat.le_of_ble_eq_true rfl, Nat.le_of_ble_eq_true rfl⟩ (fun rv n2 σ2 hp => ?_)
  obtain ⟨rfl, rfl, rfl⟩ := hp
  refine V.eq (σ2 := (mW G σ m0 [xstates, xtyped, xat, xreason, xdone, xkind, xn, xstrength] [fs, fwas, fbegun, faside, ftext, fsize, fburnt, fnext, ffar, fthen, fqueue, frankAt, fturnAt])) (n2 := n) (st2 := [.int (bI (sid kd)), .int (nI 0), .int z]) rfl rfl rfl rfl ?_
  have L49 : ∀ (hi : Nat), (hi + 1 = sm (sid kd) N) → V p l e rm_X7_lay_s s m args below meth c G 4 (MQ below (gQ G po) args s rm_X7_lay_s.cells rm_X7_lay_s.slots (gF G)) 0 0 n (mW G σ m0 [xstates, xtyped, xat, xreason, xdone, xkind, xn, xstrength] [fs, fwas, fbegun, faside, ftext, fsize, fburnt, fnext, ffar, fthen, fqueue, frankAt, fturnAt]) 49 [(0, .ref m0), (1, .int (nI k)), (2, .int (nI (cd N o2))), (3, .int z)] [.int (nI hi), .int (nI 0), .int z] := by
    intro hi hhi
    refine r_callS (As := [.int z, .int (nI 0), .int (nI hi)]) C (c_X7_in (v := z) (low := nI 0) (high := nI hi) ) wM_X7_50 wS_X7_in wN_X7 wC_X7_in hd_X7_in ⟨Nat.le_of_ble_eq_true rfl, Nat.le_of_ble_eq_true rfl⟩ rfl rfl (Nat.le_of_ble_eq_true rfl) dX7_lay_49 ⟨Nat.le_of_ble_eq_true rfl, Nat.le_of_ble_eq_true rfl⟩ (fun rv n2 σ2 hp => ?_)
    obtain ⟨rfl, rfl, rfl⟩ := hp
    refine V.eq (σ2 := (mW G σ m0 [xstates, xtyped, xat, xreason, xdone, xkind, xn, xstrength] [fs, fwas, fbegun, faside, ftext, fsize, fburnt, fnext, ffar, fthen, fqueue, frankAt, fturnAt])) (n2 := n) (st2 := [.int (bI (decide ((nI 0) ≤ z ∧ z ≤ (nI hi))))]) rfl rfl rfl rfl ?_
    refine V.top (y := bI false) (congrArg bI (by rw [show hi = sm (sid kd) N - 1 by omega]; exact hbad)) ?_
    refine r_if_neB (tgt := 58) C dX7_lay_52 (by decide) (fun z => absurd z (by decide)) (fun _ => ?_)
    refine r_ldc C wQ_X7_54 dX7_lay_55 ?_
    exact r_iret C hr hlocks (Nat.le_of_ble_eq_true rfl) (Nat.le_of_ble_eq_true rfl) dX7_lay_57 (hpo _ _ _ ⟨rfl, rfl, rfl⟩)
  refine r_if_eqB (tgt := 48) C dX7_lay_32 (by decide) (fun c32 => ?_) (fun c32 => ?_)
  · refine r_iconst (v := nI 0) C dX7_lay_48 (by decide) ?_
    exact L49 0 (by have := Nat.one_le_two_pow (n := N); simp [sm, c32]; try omega)
  · refine r_iconst (v := nI 1) C dX7_lay_35 (by decide) ?_
    refine r_aload_n C dX7_lay_36 rfl 0 rfl ?_
    refine r_iload_n C dX7_lay_37 rfl 1 rfl ?_
    refine r_iconst (v := nI 1) C dX7_lay_38 (by decide) ?_
    refine r_callV (As := [.int (nI k), .int (nI 1)]) C (c_X7_st (k := k) (w := 1) (by first | assumption | omega)) wM_X7_62 wI_X7_st wN_X7 wC_X7_st wV_X7_st hd_X7_st ⟨Nat.le_of_ble_eq_true rfl, Nat.le_of_ble_eq_true rfl⟩ rfl (mW_o _ _ _ _ _) rfl rfl (Nat.le_of_ble_eq_true rfl) dX7_lay_39 ⟨Nat.le_of_ble_eq_true rfl, Nat.le_of_ble_eq_true rfl⟩ (fun rv n2 σ2 hp => ?_)
    obtain ⟨rfl, rfl, rfl⟩ := hp
    refine V.eq (σ2 := (mW G σ m0 [xstates, xtyped, xat, xreason, xdone, xkind, xn, xstrength] [fs, fwas, fbegun, faside, ftext, fsize, fburnt, fnext, ffar, fthen, fqueue, frankAt, fturnAt])) (n2 := n) (st2 := [.int (fs (8 + 6 * k + 1)), .int (nI 1), .int (nI 0), .int z]) rfl rfl rfl rfl ?_
    refine V.top (y := nI N) (hst.2.1) ?_
    refine r_ishlN C dX7_lay_42 (by omega) ?_
    refine r_iconst (v := nI 1) C dX7_lay_43 (by decide) ?_
    refine r_isubN C dX7_lay_44 (by have := Nat.one_le_two_pow (n := N); omega) ?_
    refine r_goto (tgt := 49) C dX7_lay_45 (by decide) ?_
    exact L49 ((1 * 2 ^ N) - 1) (by have := Nat.one_le_two_pow (n := N); simp [sm, c32]; try omega)

abbrev rm_X7_stack_y : Room := { frames := 1, cells := 0, slots := 0, locals := 22 }
set_option maxRecDepth 100000 in
set_option maxHeartbeats 4000000 in
theorem c_X7_stack_y {l : Launch} {G : gG} {n : Nat} {σ : gS} {m0 : Nat} {xtyped xat xreason xdone xkind xn xstrength : Int32} {fs fwas fbegun faside ftext fsize fburnt fnext ffar fthen fqueue frankAt fturnAt : Nat → Int32} {ns kd N sr sc : Nat} (hns : fs 0 = nI ns) (hns5 : ns ≤ 5) (hsh : shOK kd N sr) (hsc : sc ≤ 4) (hlt : ns < 5) : GM l G yX7_stack cX7_stack 6 (some .int) rm_X7_stack_y n (mW G σ m0 [nI sc, xtyped, xat, xreason, xdone, xkind, xn, xstrength] [fs, fwas, fbegun, faside, ftext, fsize, fburnt, fnext, ffar, fthen, fqueue, frankAt, fturnAt]) [.ref m0, .int (nI kd), .int (nI N), .int (nI sr)] (fun rv n2 σ2 => some (.int (nI ns)) = rv ∧ n = n2 ∧ ∃ (w2 : Nat → Int32) (s2 : Nat) (b2 : Nat → Int32), (mW G σ m0 [nI (s2 + 1), xtyped, xat, xreason, xdone, xkind, xn, xstrength] [(stkM fs ns kd N sr), w2, b2, faside, ftext, fsize, fburnt, fnext, ffar, fthen, fqueue, frankAt, fturnAt]) = σ2 ∧ (s2 ≤ 3) ∧ (∀ j, j < 38 → w2 (38 * s2 + j) = fs j) ∧ ((sc < 4 ∧ s2 = sc ∧ ∀ j, j < 38 * s2 → w2 j = fwas j) ∨ (sc = 4 ∧ s2 = 3 ∧ ∀ j, j < 114 → w2 j = fwas (j + 38)))) := by
  refine GM.intro (by decide +kernel) (Nat.le_of_ble_eq_true rfl) (fun p e s m args below meth c C hr hlocks hname po hpo => ?_)
  have C : Cx p s m args c cX7_stack 6 RX7 G := C
  have hN6 := hsh.N
  have hN1 := hsh.2.1
  have hkd := hsh.1
  have hsr := hsh.sr
  refine r_iload_n C dX7_stack_0 rfl 1 rfl ?_
  refine r_iconst (v := nI 0) C dX7_stack_1 (by decide) ?_
  refine r_iconst (v := nI 3) C dX7_stack_2 (by decide) ?_
  refine r_callS (As := [.int (nI kd), .int (nI 0), .int (nI 3)]) C (c_X7_in (v := nI kd) (low := nI 0) (high := nI 3) ) wM_X7_50 wS_X7_in wN_X7 wC_X7_in hd_X7_in ⟨Nat.le_of_ble_eq_true rfl, Nat.le_of_ble_eq_true rfl⟩ rfl rfl (Nat.le_of_ble_eq_true rfl) dX7_stack_3 ⟨Nat.le_of_ble_eq_true rfl, Nat.le_of_ble_eq_true rfl⟩ (fun rv n2 σ2 hp => ?_)
  obtain ⟨rfl, rfl, rfl⟩ := hp
  refine V.eq (σ2 := (mW G σ m0 [nI sc, xtyped, xat, xreason, xdone, xkind, xn, xstrength] [fs, fwas, fbegun, faside, ftext, fsize, fburnt, fnext, ffar, fthen, fqueue, frankAt, fturnAt])) (n2 := n) (st2 := [.int (bI (decide ((nI 0) ≤ (nI kd) ∧ (nI kd) ≤ (nI 3))))]) rfl rfl rfl rfl ?_
  refine V.top (y := bI true) (congrArg bI (in_N (by omega) (by omega) (by omega))) ?_
  refine r_if_eqB (tgt := 58) C dX7_stack_6 (by decide) (fun z => absurd z (by decide)) (fun _ => ?_)
  refine r_iload_n C dX7_stack_9 rfl 2 rfl ?_
  refine r_iconst (v := nI 1) C dX7_stack_10 (by decide) ?_
  refine r_iload_n C dX7_stack_11 rfl 1 rfl ?_
  refine r_callS (As := [.int (nI kd)]) C (c_X7_hasSides (kd := kd) (by first | assumption | omega)) wM_X7_76 wS_X7_hasSides wN_X7 wC_X7_hasSides hd_X7_hasSides ⟨Nat.le_of_ble_eq_true rfl, Nat.le_of_ble_eq_true rfl⟩ rfl rfl (Nat.le_of_ble_eq_true rfl) dX7_stack_12 ⟨Nat.le_of_ble_eq_true rfl, Nat.le_of_ble_eq_true rfl⟩ (fun rv n2 σ2 hp => ?_)
  obtain ⟨rfl, rfl, rfl⟩ := hp
  refine V.eq (σ2 := (mW G σ m0 [nI sc, xtyped, xat, xreason, xdone, xkind, xn, xstrength] [fs, fwas, fbegun, faside, ftext, fsize, fburnt, fnext, ffar, fthen, fqueue, frankAt, fturnAt])) (n2 := n) (st2 := [.int (bI (sid kd)), .int (nI 1), .int (nI N)]) rfl rfl rfl rfl ?_
  have L24 : ∀ (mx : Nat), (mx = if sid kd then 5 else 6) → V p l e rm_X7_stack_y s m args below meth c G 6 (MQ below (gQ G po) args s rm_X7_stack_y.cells rm_X7_stack_y.slots (gF G)) 0 0 n (mW G σ m0 [nI sc, xtyped, xat, xreason, xdone, xkind, xn, xstrength] [fs, fwas, fbegun, faside, ftext, fsize, fburnt, fnext, ffar, fthen, fqueue, frankAt, fturnAt]) 24 [(0, .ref m0), (1, .int (nI kd)), (2, .int (nI N)), (3, .int (nI sr))] [.int (nI mx), .int (nI 1), .int (nI N)] := by
    intro mx hmx
    refine r_callS (As := [.int (nI N), .int (nI 1), .int (nI mx)]) C (c_X7_in (v := nI N) (low := nI 1) (high := nI mx) ) wM_X7_50 wS_X7_in wN_X7 wC_X7_in hd_X7_in ⟨Nat.le_of_ble_eq_true rfl, Nat.le_of_ble_eq_true rfl⟩ rfl rfl (Nat.le_of_ble_eq_true rfl) dX7_stack_24 ⟨Nat.le_of_ble_eq_true rfl, Nat.le_of_ble_eq_true rfl⟩ (fun rv n2 σ2 hp => ?_)
    obtain ⟨rfl, rfl, rfl⟩ := hp
    refine V.eq (σ2 := (mW G σ m0 [nI sc, xtyped, xat, xreason, xdone, xkind, xn, xstrength] [fs, fwas, fbegun, faside, ftext, fsize, fburnt, fnext, ffar, fthen, fqueue, frankAt, fturnAt])) (n2 := n) (st2 := [.int (bI (decide ((nI 1) ≤ (nI N) ∧ (nI N) ≤ (nI mx))))]) rfl rfl rfl rfl ?_
    refine V.top (y := bI true) (congrArg bI (in_N hN1 (by rw [hmx]; exact hsh.2.2.1) (by rw [hmx]; split <;> decide))) ?_
    refine r_if_eqB (tgt := 58) C dX7_stack_27 (by decide) (fun z => absurd z (by decide)) (fun _ => ?_)
    refine r_iload_n C dX7_stack_30 rfl 3 rfl ?_
    refine r_iload_n C dX7_stack_31 rfl 1 rfl ?_
    refine r_iconst (v := nI 3) C dX7_stack_32 (by decide) ?_
    have L41 : ∀ (lo : Nat), (lo = if kd = 3 then 1 else 0) → V p l e rm_X7_stack_y s m args below meth c G 6 (MQ below (gQ G po) args s rm_X7_stack_y.cells rm_X7_stack_y.slots (gF G)) 0 0 n (mW G σ m0 [nI sc, xtyped, xat, xreason, xdone, xkind, xn, xstrength] [fs, fwas, fbegun, faside, ftext, fsize, fburnt, fnext, ffar, fthen, fqueue, frankAt, fturnAt]) 41 [(0, .ref m0), (1, .int (nI kd)), (2, .int (nI N)), (3, .int (nI sr))] [.int (nI lo), .int (nI sr)] := by
      intro lo hlo
      refine r_iload_n C dX7_stack_41 rfl 1 rfl ?_
      refine r_iconst (v := nI 3) C dX7_stack_42 (by decide) ?_
      have L52 : ∀ (hi : Nat), (hi = if kd = 3 then 21 else 0) → V p l e rm_X7_stack_y s m args below meth c G 6 (MQ below (gQ G po) args s rm_X7_stack_y.cells rm_X7_stack_y.slots (gF G)) 0 0 n (mW G σ m0 [nI sc, xtyped, xat, xreason, xdone, xkind, xn, xstrength] [fs, fwas, fbegun, faside, ftext, fsize, fburnt, fnext, ffar, fthen, fqueue, frankAt, fturnAt]) 52 [(0, .ref m0), (1, .int (nI kd)), (2, .int (nI N)), (3, .int (nI sr))] [.int (nI hi), .int (nI lo), .int (nI sr)] := by
        intro hi hhi
        refine r_callS (As := [.int (nI sr), .int (nI lo), .int (nI hi)]) C (c_X7_in (v := nI sr) (low := nI lo) (high := nI hi) ) wM_X7_50 wS_X7_in wN_X7 wC_X7_in hd_X7_in ⟨Nat.le_of_ble_eq_true rfl, Nat.le_of_ble_eq_true rfl⟩ rfl rfl (Nat.le_of_ble_eq_true rfl) dX7_stack_52 ⟨Nat.le_of_ble_eq_true rfl, Nat.le_of_ble_eq_true rfl⟩ (fun rv n2 σ2 hp => ?_)
        obtain ⟨rfl, rfl, rfl⟩ := hp
        refine V.eq (σ2 := (mW G σ m0 [nI sc, xtyped, xat, xreason, xdone, xkind, xn, xstrength] [fs, fwas, fbegun, faside, ftext, fsize, fburnt, fnext, ffar, fthen, fqueue, frankAt, fturnAt])) (n2 := n) (st2 := [.int (bI (decide ((nI lo) ≤ (nI sr) ∧ (nI sr) ≤ (nI hi))))]) rfl rfl rfl rfl ?_
        refine V.top (y := bI true) (congrArg bI (sr_in hsh.2.2.2 hlo hhi)) ?_
        refine r_if_neB (tgt := 61) C dX7_stack_55 (by decide) (fun _ => ?_) (fun z => absurd z (by decide))
        refine r_aload_n C dX7_stack_61 rfl 0 rfl ?_
        refine rm_get (v := .ref (m0 + 1)) C 0 (by decide) wF_X7_7 rfl dX7_stack_62 ?_
        refine r_iconst (v := nI 0) C dX7_stack_65 (by decide) ?_
        refine rm_ald (f := fs) (len := 38) C 0 rfl rfl (by decide) (by decide) dX7_stack_66 ?_
        refine V.top (y := nI ns) (hns) ?_
        refine r_iconst (v := nI 5) C dX7_stack_67 (by decide) ?_
        refine r_icmp_neN (tgt := 74) C dX7_stack_68 (by decide) (by omega) (by decide) (fun c68 => ?_) (fun c68 => ?_)
        · refine r_aload_n C dX7_stack_74 rfl 0 rfl ?_
          refine r_callV (As := []) C (c_X7_keeps  ) wM_X7_92 wI_X7_keeps wN_X7 wC_X7_keeps wV_X7_keeps hd_X7_keeps ⟨Nat.le_of_ble_eq_true rfl, Nat.le_of_ble_eq_true rfl⟩ rfl (mW_o _ _ _ _ _) rfl rfl (Nat.le_of_ble_eq_true rfl) dX7_stack_75 ⟨Nat.le_of_ble_eq_true rfl, Nat.le_of_ble_eq_true rfl⟩ (fun rv n2 σ2 hp => ?_)
          obtain ⟨rfl, rfl, gK, rfl, hbK⟩ := hp
          refine V.eq (σ2 := (mW G σ m0 [nI sc, xtyped, xat, xreason, xdone, xkind, xn, xstrength] [fs, fwas, gK, faside, ftext, fsize, fburnt, fnext, ffar, fthen, fqueue, frankAt, fturnAt])) (n2 := n) (st2 := []) rfl rfl rfl rfl ?_
          refine r_iconst (v := nI 0) C dX7_stack_78 (by decide) ?_
          refine r_istore (lv2 := [(4, .int (nI 0)), (0, .ref m0), (1, .int (nI kd)), (2, .int (nI N)), (3, .int (nI sr))]) C dX7_stack_79 (by decide) rfl ?_
          refine r_iconst (v := nI 1) C dX7_stack_81 (by decide) ?_
          refine r_istore (lv2 := [(5, .int (nI 1)), (4, .int (nI 0)), (0, .ref m0), (1, .int (nI kd)), (2, .int (nI N)), (3, .int (nI sr))]) C dX7_stack_82 (by decide) rfl ?_
          have L84 : ∀ (fu : Nat) (i : Nat), (i ≤ N) → (N + 1 - i) < fu → V p l e rm_X7_stack_y s m args below meth c G 6 (MQ below (gQ G po) args s rm_X7_stack_y.cells rm_X7_stack_y.slots (gF G)) 0 0 n (mW G σ m0 [nI sc, xtyped, xat, xreason, xdone, xkind, xn, xstrength] [fs, fwas, gK, faside, ftext, fsize, fburnt, fnext, ffar, fthen, fqueue, frankAt, fturnAt]) 84 [(0, .ref m0), (1, .int (nI kd)), (2, .int (nI N)), (3, .int (nI sr)), (4, .int (nI (cdp N 0 i))), (5, .int (nI (i + 1)))] [] := by
            intro fu
            induction fu with
            | zero => intro i hi9 hm; exact absurd hm (Nat.not_lt_zero _)
            | succ fu ih84 =>
              intro i hi9 hm84
              refine r_iload C dX7_stack_84 5 rfl ?_
              refine r_iload_n C dX7_stack_86 rfl 2 rfl ?_
              refine r_icmp_gtN (tgt := 106) C dX7_stack_87 (by decide) (by omega) (by omega) (fun c87 => ?_) (fun c87 => ?_)
              · refine r_bipush (v := nI 8) C dX7_stack_106 (by decide) ?_
                refine r_bipush (v := nI 6) C dX7_stack_108 (by decide) ?_
                refine r_aload_n C dX7_stack_110 rfl 0 rfl ?_
                refine rm_get (v := .ref (m0 + 1)) C 0 (by decide) wF_X7_7 rfl dX7_stack_111 ?_
                refine r_iconst (v := nI 0) C dX7_stack_114 (by decide) ?_
                refine rm_ald (f := fs) (len := 38) C 0 rfl rfl (by decide) (by decide) dX7_stack_115 ?_
                refine V.top (y := nI ns) (hns) ?_
                refine r_imulN C dX7_stack_116 ?_
                refine r_iaddN C dX7_stack_117 ?_
                refine r_istore (lv2 := [(5, .int (nI (8 + (6 * ns)))), (0, .ref m0), (1, .int (nI kd)), (2, .int (nI N)), (3, .int (nI sr)), (4, .int (nI (cdp N 0 i)))]) C dX7_stack_118 (by decide) rfl ?_
                refine r_aload_n C dX7_stack_120 rfl 1 rfl ?_
                refine rm_get (v := .ref (m0 + 1)) C 0 (by decide) wF_X7_7 rfl dX7_stack_121 ?_
                refine r_iload C dX7_stack_124 0 rfl ?_
                refine r_iload_n C dX7_stack_126 rfl 2 rfl ?_
                refine rm_ast (f := fs) (len := 38) (A2 := [(upd fs (8 + (6 * ns)) (nI kd)), fwas, gK, faside, ftext, fsize, fburnt, fnext, ffar, fthen, fqueue, frankAt, fturnAt]) C 0 rfl rfl (by decide) (by omega) rfl rfl dX7_stack_127 ?_
                refine r_aload_n C dX7_stack_128 rfl 1 rfl ?_
                refine rm_get (v := .ref (m0 + 1)) C 0 (by decide) wF_X7_7 rfl dX7_stack_129 ?_
                refine r_iload C dX7_stack_132 0 rfl ?_
                refine r_iconst (v := nI 1) C dX7_stack_134 (by decide) ?_
                refine r_iaddN C dX7_stack_135 ?_
                refine r_iload_n C dX7_stack_136 rfl 3 rfl ?_
                refine rm_ast (f := (upd fs (8 + (6 * ns)) (nI kd))) (len := 38) (A2 := [(upd (upd fs (8 + (6 * ns)) (nI kd)) ((8 + (6 * ns)) + 1) (nI N)), fwas, gK, faside, ftext, fsize, fburnt, fnext, ffar, fthen, fqueue, frankAt, fturnAt]) C 0 rfl rfl (by decide) (by omega) rfl rfl dX7_stack_137 ?_
                refine r_aload_n C dX7_stack_138 rfl 1 rfl ?_
                refine rm_get (v := .ref (m0 + 1)) C 0 (by decide) wF_X7_7 rfl dX7_stack_139 ?_
                refine r_iload C dX7_stack_142 0 rfl ?_
                refine r_iconst (v := nI 2) C dX7_stack_144 (by decide) ?_
                refine r_iaddN C dX7_stack_145 ?_
                refine r_iload_n C dX7_stack_146 rfl 4 rfl ?_
                refine rm_ast (f := (upd (upd fs (8 + (6 * ns)) (nI kd)) ((8 + (6 * ns)) + 1) (nI N))) (len := 38) (A2 := [(upd (upd (upd fs (8 + (6 * ns)) (nI kd)) ((8 + (6 * ns)) + 1) (nI N)) ((8 + (6 * ns)) + 2) (nI sr)), fwas, gK, faside, ftext, fsize, fburnt, fnext, ffar, fthen, fqueue, frankAt, fturnAt]) C 0 rfl rfl (by decide) (by omega) rfl rfl dX7_stack_147 ?_
                refine r_aload_n C dX7_stack_148 rfl 1 rfl ?_
                refine rm_get (v := .ref (m0 + 1)) C 0 (by decide) wF_X7_7 rfl dX7_stack_149 ?_
                refine r_iload C dX7_stack_152 0 rfl ?_
                refine r_iconst (v := nI 3) C dX7_stack_154 (by decide) ?_
                refine r_iaddN C dX7_stack_155 ?_
                refine r_iload C dX7_stack_156 5 rfl ?_
                refine rm_ast (f := (upd (upd (upd fs (8 + (6 * ns)) (nI kd)) ((8 + (6 * ns)) + 1) (nI N)) ((8 + (6 * ns)) + 2) (nI sr))) (len := 38) (A2 := [(upd (upd (upd (upd fs (8 + (6 * ns)) (nI kd)) ((8 + (6 * ns)) + 1) (nI N)) ((8 + (6 * ns)) + 2) (nI sr)) ((8 + (6 * ns)) + 3) (nI (cdp N 0 i))), fwas, gK, faside, ftext, fsize, fburnt, fnext, ffar, fthen, fqueue, frankAt, fturnAt]) C 0 rfl rfl (by decide) (by omega) rfl rfl dX7_stack_158 ?_
                refine r_aload_n C dX7_stack_159 rfl 1 rfl ?_
                refine rm_get (v := .ref (m0 + 1)) C 0 (by decide) wF_X7_7 rfl dX7_stack_160 ?_
                refine r_iload C dX7_stack_163 0 rfl ?_
                refine r_iconst (v := nI 4) C dX7_stack_165 (by decide) ?_
                refine r_iaddN C dX7_stack_166 ?_
                refine r_iconst (v := nI 0) C dX7_stack_167 (by decide) ?_
                refine rm_ast (f := (upd (upd (upd (upd fs (8 + (6 * ns)) (nI kd)) ((8 + (6 * ns)) + 1) (nI N)) ((8 + (6 * ns)) + 2) (nI sr)) ((8 + (6 * ns)) + 3) (nI (cdp N 0 i)))) (len := 38) (A2 := [(upd (upd (upd (upd (upd fs (8 + (6 * ns)) (nI kd)) ((8 + (6 * ns)) + 1) (nI N)) ((8 + (6 * ns)) + 2) (nI sr)) ((8 + (6 * ns)) + 3) (nI (cdp N 0 i))) ((8 + (6 * ns)) + 4) (nI 0)), fwas, gK, faside, ftext, fsize, fburnt, fnext, ffar, fthen, fqueue, frankAt, fturnAt]) C 0 rfl rfl (by decide) (by omega) rfl rfl dX7_stack_168 ?_
                refine r_aload_n C dX7_stack_169 rfl 1 rfl ?_
                refine rm_get (v := .ref (m0 + 1)) C 0 (by decide) wF_X7_7 rfl dX7_stack_170 ?_
                refine r_iload C dX7_stack_173 0 rfl ?_
                refine r_iconst (v := nI 5) C dX7_stack_175 (by decide) ?_
                refine r_iaddN C dX7_stack_176 ?_
                refine r_iconst (v := nI 0) C dX7_stack_177 (by decide) ?_
                refine rm_ast (f := (upd (upd (upd (upd (upd fs (8 + (6 * ns)) (nI kd)) ((8 + (6 * ns)) + 1) (nI N)) ((8 + (6 * ns)) + 2) (nI sr)) ((8 + (6 * ns)) + 3) (nI (cdp N 0 i))) ((8 + (6 * ns)) + 4) (nI 0))) (len := 38) (A2 := [(upd (upd (upd (upd (upd (upd fs (8 + (6 * ns)) (nI kd)) ((8 + (6 * ns)) + 1) (nI N)) ((8 + (6 * ns)) + 2) (nI sr)) ((8 + (6 * ns)) + 3) (nI (cdp N 0 i))) ((8 + (6 * ns)) + 4) (nI 0)) ((8 + (6 * ns)) + 5) (nI 0)), fwas, gK, faside, ftext, fsize, fburnt, fnext, ffar, fthen, fqueue, frankAt, fturnAt]) C 0 rfl rfl (by decide) (by omega) rfl rfl dX7_stack_178 ?_
                refine r_aload_n C dX7_stack_179 rfl 1 rfl ?_
                refine rm_get (v := .ref (m0 + 1)) C 0 (by decide) wF_X7_7 rfl dX7_stack_180 ?_
                refine r_iconst (v := nI 0) C dX7_stack_183 (by decide) ?_
                refine r_dup2 C dX7_stack_184 rfl rfl ?_
                refine rm_ald (f := (upd (upd (upd (upd (upd (upd fs (8 + (6 * ns)) (nI kd)) ((8 + (6 * ns)) + 1) (nI N)) ((8 + (6 * ns)) + 2) (nI sr)) ((8 + (6 * ns)) + 3) (nI (cdp N 0 i))) ((8 + (6 * ns)) + 4) (nI 0)) ((8 + (6 * ns)) + 5) (nI 0))) (len := 38) C 0 rfl rfl (by decide) (by decide) dX7_stack_185 ?_
                refine V.top (y := nI ns) (by rw [pk_un (by omega), pk_un (by omega), pk_un (by omega), pk_un (by omega), pk_un (by omega), pk_un (by omega)]; exact hns) ?_
                refine r_iconst (v := nI 1) C dX7_stack_186 (by decide) ?_
                refine r_iaddN C dX7_stack_187 ?_
                refine rm_ast (f := (upd (upd (upd (upd (upd (upd fs (8 + (6 * ns)) (nI kd)) ((8 + (6 * ns)) + 1) (nI N)) ((8 + (6 * ns)) + 2) (nI sr)) ((8 + (6 * ns)) + 3) (nI (cdp N 0 i))) ((8 + (6 * ns)) + 4) (nI 0)) ((8 + (6 * ns)) + 5) (nI 0))) (len := 38) (A2 := [(upd (upd (upd (upd (upd (upd (upd fs (8 + (6 * ns)) (nI kd)) ((8 + (6 * ns)) + 1) (nI N)) ((8 + (6 * ns)) + 2) (nI sr)) ((8 + (6 * ns)) + 3) (nI (cdp N 0 i))) ((8 + (6 * ns)) + 4) (nI 0)) ((8 + (6 * ns)) + 5) (nI 0)) 0 (nI (ns + 1))), fwas, gK, faside, ftext, fsize, fburnt, fnext, ffar, fthen, fqueue, frankAt, fturnAt]) C 0 rfl rfl (by decide) (by decide) rfl rfl dX7_stack_188 ?_
                refine r_aload_n C dX7_stack_189 rfl 1 rfl ?_
                refine r_aload_n C dX7_stack_190 rfl 1 rfl ?_
                refine rm_get (v := .ref (m0 + 1)) C 0 (by decide) wF_X7_7 rfl dX7_stack_191 ?_
                refine r_iconst (v := nI 0) C dX7_stack_194 (by decide) ?_
                refine rm_ald (f := (upd (upd (upd (upd (upd (upd (upd fs (8 + (6 * ns)) (nI kd)) ((8 + (6 * ns)) + 1) (nI N)) ((8 + (6 * ns)) + 2) (nI sr)) ((8 + (6 * ns)) + 3) (nI (cdp N 0 i))) ((8 + (6 * ns)) + 4) (nI 0)) ((8 + (6 * ns)) + 5) (nI 0)) 0 (nI (ns + 1)))) (len := 38) C 0 rfl rfl (by decide) (by decide) dX7_stack_195 ?_
                refine V.top (y := nI (ns + 1)) (pk_us) ?_
                refine r_iconst (v := nI 1) C dX7_stack_196 (by decide) ?_
                refine r_isubN C dX7_stack_197 (by omega) ?_
                refine r_callV (As := [.int (nI ((ns + 1) - 1))]) C (c_X7_acted_y (v := (ns + 1) - 1) (sc := sc) (by first | assumption | omega) (by first | assumption | omega)) wM_X7_95 wI_X7_acted wN_X7 wC_X7_acted wV_X7_acted hd_X7_acted ⟨Nat.le_of_ble_eq_true rfl, Nat.le_of_ble_eq_true rfl⟩ rfl (mW_o _ _ _ _ _) rfl rfl (Nat.le_of_ble_eq_true rfl) dX7_stack_198 ⟨Nat.le_of_ble_eq_true rfl, Nat.le_of_ble_eq_true rfl⟩ (fun rv n2 σ2 hp => ?_)
                obtain ⟨rfl, rfl, wA, sA, rfl, hA1, hA2, hA3⟩ := hp
                refine V.eq (σ2 := (mW G σ m0 [nI (sA + 1), xtyped, xat, xreason, xdone, xkind, xn, xstrength] [(upd (upd (upd (upd (upd (upd (upd fs (8 + (6 * ns)) (nI kd)) ((8 + (6 * ns)) + 1) (nI N)) ((8 + (6 * ns)) + 2) (nI sr)) ((8 + (6 * ns)) + 3) (nI (cdp N 0 i))) ((8 + (6 * ns)) + 4) (nI 0)) ((8 + (6 * ns)) + 5) (nI 0)) 0 (nI (ns + 1))), wA, gK, faside, ftext, fsize, fburnt, fnext, ffar, fthen, fqueue, frankAt, fturnAt])) (n2 := n) (st2 := [.int (nI ((ns + 1) - 1))]) rfl rfl rfl rfl ?_
                exact r_iret C hr hlocks (Nat.le_of_ble_eq_true rfl) (Nat.le_of_ble_eq_true rfl) dX7_stack_201 (hpo _ _ _ ⟨congrArg (fun z => some (Value.int (nI z))) (show ns = ((ns + 1) - 1) by omega), rfl, wA, sA, gK, by rw [show i = N by omega]; rfl, hA1, fun j hj => (hA2 j hj).trans (hbK j hj), hA3⟩)
              · refine r_bipush (v := nI 10) C dX7_stack_90 (by decide) ?_
                refine r_iload C dX7_stack_92 4 rfl ?_
                refine r_imulN C dX7_stack_94 ?_
                refine r_iload C dX7_stack_95 5 rfl ?_
                refine r_iaddN C dX7_stack_97 ?_
                refine r_istore (lv2 := [(4, .int (nI ((10 * (cdp N 0 i)) + (i + 1)))), (0, .ref m0), (1, .int (nI kd)), (2, .int (nI N)), (3, .int (nI sr)), (5, .int (nI (i + 1)))]) C dX7_stack_98 (by decide) rfl ?_
                refine r_iinc (v := nI (i + 2)) (lv2 := [(5, .int (nI (i + 2))), (4, .int (nI ((10 * (cdp N 0 i)) + (i + 1)))), (0, .ref m0), (1, .int (nI kd)), (2, .int (nI N)), (3, .int (nI sr))]) C dX7_stack_100 (k := 5) rfl (nI_add _ 1) (by decide) rfl ?_
                refine r_goto (tgt := 84) C dX7_stack_103 (by decide) ?_
                refine V.sub (lv2 := [(0, .ref m0), (1, .int (nI kd)), (2, .int (nI N)), (3, .int (nI sr)), (4, .int (nI ((10 * (cdp N 0 i)) + (i + 1)))), (5, .int (nI (i + 2)))]) [2, 3, 4, 5, 1, 0] rfl ?_
                refine V.eq (σ2 := (mW G σ m0 [nI sc, xtyped, xat, xreason, xdone, xkind, xn, xstrength] [fs, fwas, gK, faside, ftext, fsize, fburnt, fnext, ffar, fthen, fqueue, frankAt, fturnAt])) (lv2 := [(0, .ref m0), (1, .int (nI kd)), (2, .int (nI N)), (3, .int (nI sr)), (4, .int (nI (cdp N 0 (i + 1)))), (5, .int (nI ((i + 1) + 1)))]) (st2 := []) rfl rfl (by rw [(show nI ((10 * (cdp N 0 i)) + (i + 1)) = nI (cdp N 0 (i + 1)) from by rw [cdp, sz_id hN6 (by omega)]), (show nI (i + 2) = nI ((i + 1) + 1) from congrArg nI (show i + 2 = (i + 1) + 1 by omega))]) rfl ?_
                exact ih84 (i + 1) (by omega) (by omega)
          refine V.sub (lv2 := [(0, .ref m0), (1, .int (nI kd)), (2, .int (nI N)), (3, .int (nI sr)), (4, .int (nI 0)), (5, .int (nI 1))]) [2, 3, 4, 5, 1, 0] rfl ?_
          refine V.eq (σ2 := (mW G σ m0 [nI sc, xtyped, xat, xreason, xdone, xkind, xn, xstrength] [fs, fwas, gK, faside, ftext, fsize, fburnt, fnext, ffar, fthen, fqueue, frankAt, fturnAt])) (lv2 := [(0, .ref m0), (1, .int (nI kd)), (2, .int (nI N)), (3, .int (nI sr)), (4, .int (nI (cdp N 0 0))), (5, .int (nI (0 + 1)))]) (st2 := []) rfl rfl (by rw [(show nI 0 = nI (cdp N 0 0) from rfl), (show nI 1 = nI (0 + 1) from congrArg nI (show 1 = 0 + 1 by omega))]) rfl ?_
          exact L84 _ 0 (by omega) (Nat.lt_succ_self _)
        · exact absurd c68 (by omega)
      refine r_icmp_neN (tgt := 51) C dX7_stack_43 (by decide) (by omega) (by decide) (fun c43 => ?_) (fun c43 => ?_)
      · refine r_iconst (v := nI 0) C dX7_stack_51 (by decide) ?_
        exact L52 0 (by first | (rw [if_pos c43]; done) | (rw [if_neg c43]; done))
      · refine r_bipush (v := nI 21) C dX7_stack_46 (by decide) ?_
        refine r_goto (tgt := 52) C dX7_stack_48 (by decide) ?_
        exact L52 21 (by first | (rw [if_pos c43]; done) | (rw [if_neg c43]; done))
    refine r_icmp_neN (tgt := 40) C dX7_stack_33 (by decide) (by omega) (by decide) (fun c33 => ?_) (fun c33 => ?_)
    · refine r_iconst (v := nI 0) C dX7_stack_40 (by decide) ?_
      exact L41 0 (by first | (rw [if_pos c33]; done) | (rw [if_neg c33]; done))
    · refine r_iconst (v := nI 1) C dX7_stack_36 (by decide) ?_
      refine r_goto (tgt := 41) C dX7_stack_37 (by decide) ?_
      exact L41 1 (by first | (rw [if_pos c33]; done) | (rw [if_neg c33]; done))
  refine r_if_eqB (tgt := 22) C dX7_stack_15 (by decide) (fun c15 => ?_) (fun c15 => ?_)
  · refine r_bipush (v := nI 6) C dX7_stack_22 (by decide) ?_
    exact L24 6 (by rw [c15]; rfl)
  · refine r_iconst (v := nI 5) C dX7_stack_18 (by decide) ?_
    refine r_goto (tgt := 24) C dX7_stack_19 (by decide) ?_
    exact L24 5 (by rw [c15]; rfl)

abbrev rm_X7_stack_f : Room := { frames := 1, cells := 0, slots := 0, locals := 22 }
set_option maxRecDepth 100000 in
set_option maxHeartbeats 4000000 in
theorem c_X7_stack_f {l : Launch} {G : gG} {n : Nat} {σ : gS} {m0 : Nat} {xstates xtyped xat xreason xdone xkind xn xstrength : Int32} {fs fwas fbegun faside ftext fsize fburnt fnext ffar fthen fqueue frankAt fturnAt : Nat → Int32} {ns kd N sr sc : Nat} (hns : fs 0 = nI 5) (hsh : shOK kd N sr) : GM l G yX7_stack cX7_stack 6 (some .int) rm_X7_stack_f n (mW G σ m0 [xstates, xtyped, xat, xreason, xdone, xkind, xn, xstrength] [fs, fwas, fbegun, faside, ftext, fsize, fburnt, fnext, ffar, fthen, fqueue, frankAt, fturnAt]) [.ref m0, .int (nI kd), .int (nI N), .int (nI sr)] (fun rv n2 σ2 => some (.int (-1000003)) = rv ∧ n = n2 ∧ (mW G σ m0 [xstates, xtyped, xat, xreason, xdone, xkind, xn, xstrength] [fs, fwas, fbegun, faside, ftext, fsize, fburnt, fnext, ffar, fthen, fqueue, frankAt, fturnAt]) = σ2) := by
  refine GM.intro (by decide +kernel) (Nat.le_of_ble_eq_true rfl) (fun p e s m args below meth c C hr hlocks hname po hpo => ?_)
  have C : Cx p s m args c cX7_stack 6 RX7 G := C
  have hN6 := hsh.N
  have hN1 := hsh.2.1
  have hkd := hsh.1
  have hsr := hsh.sr
  refine r_iload_n C dX7_stack_0 rfl 1 rfl ?_
  refine r_iconst (v := nI 0) C dX7_stack_1 (by decide) ?_
  refine r_iconst (v := nI 3) C dX7_stack_2 (by decide) ?_
  refine r_callS (As := [.int (nI kd), .int (nI 0), .int (nI 3)]) C (c_X7_in (v := nI kd) (low := nI 0) (high := nI 3) ) wM_X7_50 wS_X7_in wN_X7 wC_X7_in hd_X7_in ⟨Nat.le_of_ble_eq_true rfl, Nat.le_of_ble_eq_true rfl⟩ rfl rfl (Nat.le_of_ble_eq_true rfl) dX7_stack_3 ⟨Nat.le_of_ble_eq_true rfl, Nat.le_of_ble_eq_true rfl⟩ (fun rv n2 σ2 hp => ?_)
  obtain ⟨rfl, rfl, rfl⟩ := hp
  refine V.eq (σ2 := (mW G σ m0 [xstates, xtyped, xat, xreason, xdone, xkind, xn, xstrength] [fs, fwas, fbegun, faside, ftext, fsize, fburnt, fnext, ffar, fthen, fqueue, frankAt, fturnAt])) (n2 := n) (st2 := [.int (bI (decide ((nI 0) ≤ (nI kd) ∧ (nI kd) ≤ (nI 3))))]) rfl rfl rfl rfl ?_
  refine V.top (y := bI true) (congrArg bI (in_N (by omega) (by omega) (by omega))) ?_
  refine r_if_eqB (tgt := 58) C dX7_stack_6 (by decide) (fun z => absurd z (by decide)) (fun _ => ?_)
  refine r_iload_n C dX7_stack_9 rfl 2 rfl ?_
  refine r_iconst (v := nI 1) C dX7_stack_10 (by decide) ?_
  refine r_iload_n C dX7_stack_11 rfl 1 rfl ?_
  refine r_callS (As := [.int (nI kd)]) C (c_X7_hasSides (kd := kd) (by first | assumption | omega)) wM_X7_76 wS_X7_hasSides wN_X7 wC_X7_hasSides hd_X7_hasSides ⟨Nat.le_of_ble_eq_true rfl, Nat.le_of_ble_eq_true rfl⟩ rfl rfl (Nat.le_of_ble_eq_true rfl) dX7_stack_12 ⟨Nat.le_of_ble_eq_true rfl, Nat.le_of_ble_eq_true rfl⟩ (fun rv n2 σ2 hp => ?_)
  obtain ⟨rfl, rfl, rfl⟩ := hp
  refine V.eq (σ2 := (mW G σ m0 [xstates, xtyped, xat, xreason, xdone, xkind, xn, xstrength] [fs, fwas, fbegun, faside, ftext, fsize, fburnt, fnext, ffar, fthen, fqueue, frankAt, fturnAt])) (n2 := n) (st2 := [.int (bI (sid kd)), .int (nI 1), .int (nI N)]) rfl rfl rfl rfl ?_
  have L24 : ∀ (mx : Nat), (mx = if sid kd then 5 else 6) → V p l e rm_X7_stack_f s m args below meth c G 6 (MQ below (gQ G po) args s rm_X7_stack_f.cells rm_X7_stack_f.slots (gF G)) 0 0 n (mW G σ m0 [xstates, xtyped, xat, xreason, xdone, xkind, xn, xstrength] [fs, fwas, fbegun, faside, ftext, fsize, fburnt, fnext, ffar, fthen, fqueue, frankAt, fturnAt]) 24 [(0, .ref m0), (1, .int (nI kd)), (2, .int (nI N)), (3, .int (nI sr))] [.int (nI mx), .int (nI 1), .int (nI N)] := by
    intro mx hmx
    refine r_callS (As := [.int (nI N), .int (nI 1), .int (nI mx)]) C (c_X7_in (v := nI N) (low := nI 1) (high := nI mx) ) wM_X7_50 wS_X7_in wN_X7 wC_X7_in hd_X7_in ⟨Nat.le_of_ble_eq_true rfl, Nat.le_of_ble_eq_true rfl⟩ rfl rfl (Nat.le_of_ble_eq_true rfl) dX7_stack_24 ⟨Nat.le_of_ble_eq_true rfl, Nat.le_of_ble_eq_true rfl⟩ (fun rv n2 σ2 hp => ?_)
    obtain ⟨rfl, rfl, rfl⟩ := hp
    refine V.eq (σ2 := (mW G σ m0 [xstates, xtyped, xat, xreason, xdone, xkind, xn, xstrength] [fs, fwas, fbegun, faside, ftext, fsize, fburnt, fnext, ffar, fthen, fqueue, frankAt, fturnAt])) (n2 := n) (st2 := [.int (bI (decide ((nI 1) ≤ (nI N) ∧ (nI N) ≤ (nI mx))))]) rfl rfl rfl rfl ?_
    refine V.top (y := bI true) (congrArg bI (in_N hN1 (by rw [hmx]; exact hsh.2.2.1) (by rw [hmx]; split <;> decide))) ?_
    refine r_if_eqB (tgt := 58) C dX7_stack_27 (by decide) (fun z => absurd z (by decide)) (fun _ => ?_)
    refine r_iload_n C dX7_stack_30 rfl 3 rfl ?_
    refine r_iload_n C dX7_stack_31 rfl 1 rfl ?_
    refine r_iconst (v := nI 3) C dX7_stack_32 (by decide) ?_
    have L41 : ∀ (lo : Nat), (lo = if kd = 3 then 1 else 0) → V p l e rm_X7_stack_f s m args below meth c G 6 (MQ below (gQ G po) args s rm_X7_stack_f.cells rm_X7_stack_f.slots (gF G)) 0 0 n (mW G σ m0 [xstates, xtyped, xat, xreason, xdone, xkind, xn, xstrength] [fs, fwas, fbegun, faside, ftext, fsize, fburnt, fnext, ffar, fthen, fqueue, frankAt, fturnAt]) 41 [(0, .ref m0), (1, .int (nI kd)), (2, .int (nI N)), (3, .int (nI sr))] [.int (nI lo), .int (nI sr)] := by
      intro lo hlo
      refine r_iload_n C dX7_stack_41 rfl 1 rfl ?_
      refine r_iconst (v := nI 3) C dX7_stack_42 (by decide) ?_
      have L52 : ∀ (hi : Nat), (hi = if kd = 3 then 21 else 0) → V p l e rm_X7_stack_f s m args below meth c G 6 (MQ below (gQ G po) args s rm_X7_stack_f.cells rm_X7_stack_f.slots (gF G)) 0 0 n (mW G σ m0 [xstates, xtyped, xat, xreason, xdone, xkind, xn, xstrength] [fs, fwas, fbegun, faside, ftext, fsize, fburnt, fnext, ffar, fthen, fqueue, frankAt, fturnAt]) 52 [(0, .ref m0), (1, .int (nI kd)), (2, .int (nI N)), (3, .int (nI sr))] [.int (nI hi), .int (nI lo), .int (nI sr)] := by
        intro hi hhi
        refine r_callS (As := [.int (nI sr), .int (nI lo), .int (nI hi)]) C (c_X7_in (v := nI sr) (low := nI lo) (high := nI hi) ) wM_X7_50 wS_X7_in wN_X7 wC_X7_in hd_X7_in ⟨Nat.le_of_ble_eq_true rfl, Nat.le_of_ble_eq_true rfl⟩ rfl rfl (Nat.le_of_ble_eq_true rfl) dX7_stack_52 ⟨Nat.le_of_ble_eq_true rfl, Nat.le_of_ble_eq_true rfl⟩ (fun rv n2 σ2 hp => ?_)
        obtain ⟨rfl, rfl, rfl⟩ := hp
        refine V.eq (σ2 := (mW G σ m0 [xstates, xtyped, xat, xreason, xdone, xkind, xn, xstrength] [fs, fwas, fbegun, faside, ftext, fsize, fburnt, fnext, ffar, fthen, fqueue, frankAt, fturnAt])) (n2 := n) (st2 := [.int (bI (decide ((nI lo) ≤ (nI sr) ∧ (nI sr) ≤ (nI hi))))]) rfl rfl rfl rfl ?_
        refine V.top (y := bI true) (congrArg bI (sr_in hsh.2.2.2 hlo hhi)) ?_
        refine r_if_neB (tgt := 61) C dX7_stack_55 (by decide) (fun _ => ?_) (fun z => absurd z (by decide))
        refine r_aload_n C dX7_stack_61 rfl 0 rfl ?_
        refine rm_get (v := .ref (m0 + 1)) C 0 (by decide) wF_X7_7 rfl dX7_stack_62 ?_
        refine r_iconst (v := nI 0) C dX7_stack_65 (by decide) ?_
        refine rm_ald (f := fs) (len := 38) C 0 rfl rfl (by decide) (by decide) dX7_stack_66 ?_
        refine V.top (y := nI 5) (hns) ?_
        refine r_iconst (v := nI 5) C dX7_stack_67 (by decide) ?_
        refine r_icmp_neN (tgt := 74) C dX7_stack_68 (by decide) (by decide) (by decide) (fun c68 => ?_) (fun c68 => ?_)
        · exact absurd rfl c68
        · refine r_ldc C wQ_X7_91 dX7_stack_71 ?_
          exact r_iret C hr hlocks (Nat.le_of_ble_eq_true rfl) (Nat.le_of_ble_eq_true rfl) dX7_stack_73 (hpo _ _ _ ⟨rfl, rfl, rfl⟩)
      refine r_icmp_neN (tgt := 51) C dX7_stack_43 (by decide) (by omega) (by decide) (fun c43 => ?_) (fun c43 => ?_)
      · refine r_iconst (v := nI 0) C dX7_stack_51 (by decide) ?_
        exact L52 0 (by first | (rw [if_pos c43]; done) | (rw [if_neg c43]; done))
      · refine r_bipush (v := nI 21) C dX7_stack_46 (by decide) ?_
        refine r_goto (tgt := 52) C dX7_stack_48 (by decide) ?_
        exact L52 21 (by first | (rw [if_pos c43]; done) | (rw [if_neg c43]; done))
    refine r_icmp_neN (tgt := 40) C dX7_stack_33 (by decide) (by omega) (by decide) (fun c33 => ?_) (fun c33 => ?_)
    · refine r_iconst (v := nI 0) C dX7_stack_40 (by decide) ?_
      exact L41 0 (by first | (rw [if_pos c33]; done) | (rw [if_neg c33]; done))
    · refine r_iconst (v := nI 1) C dX7_stack_36 (by decide) ?_
      refine r_goto (tgt := 41) C dX7_stack_37 (by decide) ?_
      exact L41 1 (by first | (rw [if_pos c33]; done) | (rw [if_neg c33]; done))
  refine r_if_eqB (tgt := 22) C dX7_stack_15 (by decide) (fun c15 => ?_) (fun c15 => ?_)
  · refine r_bipush (v := nI 6) C dX7_stack_22 (by decide) ?_
    exact L24 6 (by rw [c15]; rfl)
  · refine r_iconst (v := nI 5) C dX7_stack_18 (by decide) ?_
    refine r_goto (tgt := 24) C dX7_stack_19 (by decide) ?_
    exact L24 5 (by rw [c15]; rfl)

abbrev rm_X7_stack_x : Room := { frames := 1, cells := 0, slots := 0, locals := 22 }
set_option maxRecDepth 100000 in
set_option maxHeartbeats 4000000 in
theorem c_X7_stack_x {l : Launch} {G : gG} {n : Nat} {σ : gS} {m0 : Nat} {xstates xtyped xat xreason xdone xkind xn xstrength : Int32} {fs fwas fbegun faside ftext fsize fburnt fnext ffar fthen fqueue frankAt fturnAt : Nat → Int32} {x y z : Int32} (hbad : decide (nI 0 ≤ x ∧ x ≤ nI 3) = false) : GM l G yX7_stack cX7_stack 6 (some .int) rm_X7_stack_x n (mW G σ m0 [xstates, xtyped, xat, xreason, xdone, xkind, xn, xstrength] [fs, fwas, fbegun, faside, ftext, fsize, fburnt, fnext, ffar, fthen, fqueue, frankAt, fturnAt]) [.ref m0, .int x, .int y, .int z] (fun rv n2 σ2 => some (.int (-1000001)) = rv ∧ n = n2 ∧ (mW G σ m0 [xstates, xtyped, xat, xreason, xdone, xkind, xn, xstrength] [fs, fwas, fbegun, faside, ftext, fsize, fburnt, fnext, ffar, fthen, fqueue, frankAt, fturnAt]) = σ2) := by
  refine GM.intro (by decide +kernel) (Nat.le_of_ble_eq_true rfl) (fun p e s m args below meth c C hr hlocks hname po hpo => ?_)
  have C : Cx p s m args c cX7_stack 6 RX7 G := C
  refine r_iload_n C dX7_stack_0 rfl 1 rfl ?_
  refine r_iconst (v := nI 0) C dX7_stack_1 (by decide) ?_
  refine r_iconst (v := nI 3) C dX7_stack_2 (by decide) ?_
  refine r_callS (As := [.int x, .int (nI 0), .int (nI 3)]) C (c_X7_in (v := x) (low := nI 0) (high := nI 3) ) wM_X7_50 wS_X7_in wN_X7 wC_X7_in hd_X7_in ⟨Nat.le_of_ble_eq_true rfl, Nat.le_of_ble_eq_true rfl⟩ rfl rfl (Nat.le_of_ble_eq_true rfl) dX7_stack_3 ⟨Nat.le_of_ble_eq_true rfl, Nat.le_of_ble_eq_true rfl⟩ (fun rv n2 σ2 hp => ?_)
  obtain ⟨rfl, rfl, rfl⟩ := hp
  refine V.eq (σ2 := (mW G σ m0 [xstates, xtyped, xat, xreason, xdone, xkind, xn, xstrength] [fs, fwas, fbegun, faside, ftext, fsize, fburnt, fnext, ffar, fthen, fqueue, frankAt, fturnAt])) (n2 := n) (st2 := [.int (bI (decide ((nI 0) ≤ x ∧ x ≤ (nI 3))))]) rfl rfl rfl rfl ?_
  refine V.top (y := bI false) (congrArg bI (hbad)) ?_
  refine r_if_eqB (tgt := 58) C dX7_stack_6 (by decide) (fun _ => ?_) (fun z => absurd z (by decide))
  refine r_ldc C wQ_X7_54 dX7_stack_58 ?_
  exact r_iret C hr hlocks (Nat.le_of_ble_eq_true rfl) (Nat.le_of_ble_eq_true rfl) dX7_stack_60 (hpo _ _ _ ⟨rfl, rfl, rfl⟩)

abbrev rm_X7_stack_c : Room := { frames := 1, cells := 0, slots := 0, locals := 22 }
set_option maxRecDepth 100000 in
set_option maxHeartbeats 4000000 in
theorem c_X7_stack_c {l : Launch} {G : gG} {n : Nat} {σ : gS} {m0 : Nat} {xstates xtyped xat xreason xdone xkind xn xstrength : Int32} {fs fwas fbegun faside ftext fsize fburnt fnext ffar fthen fqueue frankAt fturnAt : Nat → Int32} {kd : Nat} {y z : Int32} (hkd : kd < 4) (hbad : decide (nI 1 ≤ y ∧ y ≤ nI (if sid kd then 5 else 6)) = false) : GM l G yX7_stack cX7_stack 6 (some .int) rm_X7_stack_c n (mW G σ m0 [xstates, xtyped, xat, xreason, xdone, xkind, xn, xstrength] [fs, fwas, fbegun, faside, ftext, fsize, fburnt, fnext, ffar, fthen, fqueue, frankAt, fturnAt]) [.ref m0, .int (nI kd), .int y, .int z] (fun rv n2 σ2 => some (.int (-1000001)) = rv ∧ n = n2 ∧ (mW G σ m0 [xstates, xtyped, xat, xreason, xdone, xkind, xn, xstrength] [fs, fwas, fbegun, faside, ftext, fsize, fburnt, fnext, ffar, fthen, fqueue, frankAt, fturnAt]) = σ2) := by
  refine GM.intro (by decide +kernel) (Nat.le_of_ble_eq_true rfl) (fun p e s m args below meth c C hr hlocks hname po hpo => ?_)
  have C : Cx p s m args c cX7_stack 6 RX7 G := C
  refine r_iload_n C dX7_stack_0 rfl 1 rfl ?_
  refine r_iconst (v := nI 0) C dX7_stack_1 (by decide) ?_
  refine r_iconst (v := nI 3) C dX7_stack_2 (by decide) ?_
  refine r_callS (As := [.int (nI kd), .int (nI 0), .int (nI 3)]) C (c_X7_in (v := nI kd) (low := nI 0) (high := nI 3) ) wM_X7_50 wS_X7_in wN_X7 wC_X7_in hd_X7_in ⟨Nat.le_of_ble_eq_true rfl, Nat.le_of_ble_eq_true rfl⟩ rfl rfl (Nat.le_of_ble_eq_true rfl) dX7_stack_3 ⟨Nat.le_of_ble_eq_true rfl, Nat.le_of_ble_eq_true rfl⟩ (fun rv n2 σ2 hp => ?_)
  obtain ⟨rfl, rfl, rfl⟩ := hp
  refine V.eq (σ2 := (mW G σ m0 [xstates, xtyped, xat, xreason, xdone, xkind, xn, xstrength] [fs, fwas, fbegun, faside, ftext, fsize, fburnt, fnext, ffar, fthen, fqueue, frankAt, fturnAt])) (n2 := n) (st2 := [.int (bI (decide ((nI 0) ≤ (nI kd) ∧ (nI kd) ≤ (nI 3))))]) rfl rfl rfl rfl ?_
  refine V.top (y := bI true) (congrArg bI (in_N (by omega) (by omega) (by omega))) ?_
  refine r_if_eqB (tgt := 58) C dX7_stack_6 (by decide) (fun z => absurd z (by decide)) (fun _ => ?_)
  refine r_iload_n C dX7_stack_9 rfl 2 rfl ?_
  refine r_iconst (v := nI 1) C dX7_stack_10 (by decide) ?_
  refine r_iload_n C dX7_stack_11 rfl 1 rfl ?_
  refine r_callS (As := [.int (nI kd)]) C (c_X7_hasSides (kd := kd) (by first | assumption | omega)) wM_X7_76 wS_X7_hasSides wN_X7 wC_X7_hasSides hd_X7_hasSides ⟨Nat.le_of_ble_eq_true rfl, Nat.le_of_ble_eq_true rfl⟩ rfl rfl (Nat.le_of_ble_eq_true rfl) dX7_stack_12 ⟨Nat.le_of_ble_eq_true rfl, Nat.le_of_ble_eq_true rfl⟩ (fun rv n2 σ2 hp => ?_)
  obtain ⟨rfl, rfl, rfl⟩ := hp
  refine V.eq (σ2 := (mW G σ m0 [xstates, xtyped, xat, xreason, xdone, xkind, xn, xstrength] [fs, fwas, fbegun, faside, ftext, fsize, fburnt, fnext, ffar, fthen, fqueue, frankAt, fturnAt])) (n2 := n) (st2 := [.int (bI (sid kd)), .int (nI 1), .int y]) rfl rfl rfl rfl ?_
  have L24 : ∀ (mx : Nat), (mx = if sid kd then 5 else 6) → V p l e rm_X7_stack_c s m args below meth c G 6 (MQ below (gQ G po) args s rm_X7_stack_c.cells rm_X7_stack_c.slots (gF G)) 0 0 n (mW G σ m0 [xstates, xtyped, xat, xreason, xdone, xkind, xn, xstrength] [fs, fwas, fbegun, faside, ftext, fsize, fburnt, fnext, ffar, fthen, fqueue, frankAt, fturnAt]) 24 [(0, .ref m0), (1, .int (nI kd)), (2, .int y), (3, .int z)] [.int (nI mx), .int (nI 1), .int y] := by
    intro mx hmx
    refine r_callS (As := [.int y, .int (nI 1), .int (nI mx)]) C (c_X7_in (v := y) (low := nI 1) (high := nI mx) ) wM_X7_50 wS_X7_in wN_X7 wC_X7_in hd_X7_in ⟨Nat.le_of_ble_eq_true rfl, Nat.le_of_ble_eq_true rfl⟩ rfl rfl (Nat.le_of_ble_eq_true rfl) dX7_stack_24 ⟨Nat.le_of_ble_eq_true rfl, Nat.le_of_ble_eq_true rfl⟩ (fun rv n2 σ2 hp => ?_)
    obtain ⟨rfl, rfl, rfl⟩ := hp
    refine V.eq (σ2 := (mW G σ m0 [xstates, xtyped, xat, xreason, xdone, xkind, xn, xstrength] [fs, fwas, fbegun, faside, ftext, fsize, fburnt, fnext, ffar, fthen, fqueue, frankAt, fturnAt])) (n2 := n) (st2 := [.int (bI (decide ((nI 1) ≤ y ∧ y ≤ (nI mx))))]) rfl rfl rfl rfl ?_
    refine V.top (y := bI false) (congrArg bI (by rw [hmx]; exact hbad)) ?_
    refine r_if_eqB (tgt := 58) C dX7_stack_27 (by decide) (fun _ => ?_) (fun z => absurd z (by decide))
    refine r_ldc C wQ_X7_54 dX7_stack_58 ?_
    exact r_iret C hr hlocks (Nat.le_of_ble_eq_true rfl) (Nat.le_of_ble_eq_true rfl) dX7_stack_60 (hpo _ _ _ ⟨rfl, rfl, rfl⟩)
  refine r_if_eqB (tgt := 22) C dX7_stack_15 (by decide) (fun c15 => ?_) (fun c15 => ?_)
  · refine r_bipush (v := nI 6) C dX7_stack_22 (by decide) ?_
    exact L24 6 (by rw [c15]; rfl)
  · refine r_iconst (v := nI 5) C dX7_stack_18 (by decide) ?_
    refine r_goto (tgt := 24) C dX7_stack_19 (by decide) ?_
    exact L24 5 (by rw [c15]; rfl)

abbrev rm_X7_stack_s : Room := { frames := 1, cells := 0, slots := 0, locals := 22 }
set_option maxRecDepth 100000 in
set_option maxHeartbeats 4000000 in
theorem c_X7_stack_s {l : Launch} {G : gG} {n : Nat} {σ : gS} {m0 : Nat} {xstates xtyped xat xreason xdone xkind xn xstrength : Int32} {fs fwas fbegun faside ftext fsize fburnt fnext ffar fthen fqueue frankAt fturnAt : Nat → Int32} {kd N : Nat} {z : Int32} (hkd : kd < 4) (hN1 : 1 ≤ N) (hNx : N ≤ (if sid kd then 5 else 6)) (hbad : decide (nI (if kd = 3 then 1 else 0) ≤ z ∧ z ≤ nI (if kd = 3 then 21 else 0)) = false) : GM l G yX7_stack cX7_stack 6 (some .int) rm_X7_stack_s n (mW G σ m0 [xstates, xtyped, xat, xreason, xdone, xkind, xn, xstrength] [fs, fwas, fbegun, faside, ftext, fsize, fburnt, fnext, ffar, fthen, fqueue, frankAt, fturnAt]) [.ref m0, .int (nI kd), .int (nI N), .int z] (fun rv n2 σ2 => some (.int (-1000001)) = rv ∧ n = n2 ∧ (mW G σ m0 [xstates, xtyped, xat, xreason, xdone, xkind, xn, xstrength] [fs, fwas, fbegun, faside, ftext, fsize, fburnt, fnext, ffar, fthen, fqueue, frankAt, fturnAt]) = σ2) := by
  refine GM.intro (by decide +kernel) (Nat.le_of_ble_eq_true rfl) (fun p e s m args below meth c C hr hlocks hname po hpo => ?_)
  have C : Cx p s m args c cX7_stack 6 RX7 G := C
  have hN6 : N ≤ 6 := by split at hNx <;> omega
  refine r_iload_n C dX7_stack_0 rfl 1 rfl ?_
  refine r_iconst (v := nI 0) C dX7_stack_1 (by decide) ?_
  refine r_iconst (v := nI 3) C dX7_stack_2 (by decide) ?_
  refine r_callS (As := [.int (nI kd), .int (nI 0), .int (nI 3)]) C (c_X7_in (v := nI kd) (low := nI 0) (high := nI 3) ) wM_X7_50 wS_X7_in wN_X7 wC_X7_in hd_X7_in ⟨Nat.le_of_ble_eq_true rfl, Nat.le_of_ble_eq_true rfl⟩ rfl rfl (Nat.le_of_ble_eq_true rfl) dX7_stack_3 ⟨Nat.le_of_ble_eq_true rfl, Nat.le_of_ble_eq_true rfl⟩ (fun rv n2 σ2 hp => ?_)
  obtain ⟨rfl, rfl, rfl⟩ := hp
  refine V.eq (σ2 := (mW G σ m0 [xstates, xtyped, xat, xreason, xdone, xkind, xn, xstrength] [fs, fwas, fbegun, faside, ftext, fsize, fburnt, fnext, ffar, fthen, fqueue, frankAt, fturnAt])) (n2 := n) (st2 := [.int (bI (decide ((nI 0) ≤ (nI kd) ∧ (nI kd) ≤ (nI 3))))]) rfl rfl rfl rfl ?_
  refine V.top (y := bI true) (congrArg bI (in_N (by omega) (by omega) (by omega))) ?_
  refine r_if_eqB (tgt := 58) C dX7_stack_6 (by decide) (fun z => absurd z (by decide)) (fun _ => ?_)
  refine r_iload_n C dX7_stack_9 rfl 2 rfl ?_
  refine r_iconst (v := nI 1) C dX7_stack_10 (by decide) ?_
  refine r_iload_n C dX7_stack_11 rfl 1 rfl ?_
  refine r_callS (As := [.int (nI kd)]) C (c_X7_hasSides (kd := kd) (by first | assumption | omega)) wM_X7_76 wS_X7_hasSides wN_X7 wC_X7_hasSides hd_X7_hasSides ⟨Nat.le_of_ble_eq_true rfl, Nat.le_of_ble_eq_true rfl⟩ rfl rfl (Nat.le_of_ble_eq_true rfl) dX7_stack_12 ⟨Nat.le_of_ble_eq_true rfl, Nat.le_of_ble_eq_true rfl⟩ (fun rv n2 σ2 hp => ?_)
  obtain ⟨rfl, rfl, rfl⟩ := hp
  refine V.eq (σ2 := (mW G σ m0 [xstates, xtyped, xat, xreason, xdone, xkind, xn, xstrength] [fs, fwas, fbegun, faside, ftext, fsize, fburnt, fnext, ffar, fthen, fqueue, frankAt, fturnAt])) (n2 := n) (st2 := [.int (bI (sid kd)), .int (nI 1), .int (nI N)]) rfl rfl rfl rfl ?_
  have L24 : ∀ (mx : Nat), (mx = if sid kd then 5 else 6) → V p l e rm_X7_stack_s s m args below meth c G 6 (MQ below (gQ G po) args s rm_X7_stack_s.cells rm_X7_stack_s.slots (gF G)) 0 0 n (mW G σ m0 [xstates, xtyped, xat, xreason, xdone, xkind, xn, xstrength] [fs, fwas, fbegun, faside, ftext, fsize, fburnt, fnext, ffar, fthen, fqueue, frankAt, fturnAt]) 24 [(0, .ref m0), (1, .int (nI kd)), (2, .int (nI N)), (3, .int z)] [.int (nI mx), .int (nI 1), .int (nI N)] := by
    intro mx hmx
    refine r_callS (As := [.int (nI N), .int (nI 1), .int (nI mx)]) C (c_X7_in (v := nI N) (low := nI 1) (high := nI mx) ) wM_X7_50 wS_X7_in wN_X7 wC_X7_in hd_X7_in ⟨Nat.le_of_ble_eq_true rfl, Nat.le_of_ble_eq_true rfl⟩ rfl rfl (Nat.le_of_ble_eq_true rfl) dX7_stack_24 ⟨Nat.le_of_ble_eq_true rfl, Nat.le_of_ble_eq_true rfl⟩ (fun rv n2 σ2 hp => ?_)
    obtain ⟨rfl, rfl, rfl⟩ := hp
    refine V.eq (σ2 := (mW G σ m0 [xstates, xtyped, xat, xreason, xdone, xkind, xn, xstrength] [fs, fwas, fbegun, faside, ftext, fsize, fburnt, fnext, ffar, fthen, fqueue, frankAt, fturnAt])) (n2 := n) (st2 := [.int (bI (decide ((nI 1) ≤ (nI N) ∧ (nI N) ≤ (nI mx))))]) rfl rfl rfl rfl ?_
    refine V.top (y := bI true) (congrArg bI (in_N hN1 (by rw [hmx]; exact hNx) (by rw [hmx]; split <;> decide))) ?_
    refine r_if_eqB (tgt := 58) C dX7_stack_27 (by decide) (fun z => absurd z (by decide)) (fun _ => ?_)
    refine r_iload_n C dX7_stack_30 rfl 3 rfl ?_
    refine r_iload_n C dX7_stack_31 rfl 1 rfl ?_
    refine r_iconst (v := nI 3) C dX7_stack_32 (by decide) ?_
    have L41 : ∀ (lo : Nat), (lo = if kd = 3 then 1 else 0) → V p l e rm_X7_stack_s s m args below meth c G 6 (MQ below (gQ G po) args s rm_X7_stack_s.cells rm_X7_stack_s.slots (gF G)) 0 0 n (mW G σ m0 [xstates, xtyped, xat, xreason, xdone, xkind, xn, xstrength] [fs, fwas, fbegun, faside, ftext, fsize, fburnt, fnext, ffar, fthen, fqueue, frankAt, fturnAt]) 41 [(0, .ref m0), (1, .int (nI kd)), (2, .int (nI N)), (3, .int z)] [.int (nI lo), .int z] := by
      intro lo hlo
      refine r_iload_n C dX7_stack_41 rfl 1 rfl ?_
      refine r_iconst (v := nI 3) C dX7_stack_42 (by decide) ?_
      have L52 : ∀ (hi : Nat), (hi = if kd = 3 then 21 else 0) → V p l e rm_X7_stack_s s m args below meth c G 6 (MQ below (gQ G po) args s rm_X7_stack_s.cells rm_X7_stack_s.slots (gF G)) 0 0 n (mW G σ m0 [xstates, xtyped, xat, xreason, xdone, xkind, xn, xstrength] [fs, fwas, fbegun, faside, ftext, fsize, fburnt, fnext, ffar, fthen, fqueue, frankAt, fturnAt]) 52 [(0, .ref m0), (1, .int (nI kd)), (2, .int (nI N)), (3, .int z)] [.int (nI hi), .int (nI lo), .int z] := by
        intro hi hhi
        refine r_callS (As := [.int z, .int (nI lo), .int (nI hi)]) C (c_X7_in (v := z) (low := nI lo) (high := nI hi) ) wM_X7_50 wS_X7_in wN_X7 wC_X7_in hd_X7_in ⟨Nat.le_of_ble_eq_true rfl, Nat.le_of_ble_eq_true rfl⟩ rfl rfl (Nat.le_of_ble_eq_true rfl) dX7_stack_52 ⟨Nat.le_of_ble_eq_true rfl, Nat.le_of_ble_eq_true rfl⟩ (fun rv n2 σ2 hp => ?_)
        obtain ⟨rfl, rfl, rfl⟩ := hp
        refine V.eq (σ2 := (mW G σ m0 [xstates, xtyped, xat, xreason, xdone, xkind, xn, xstrength] [fs, fwas, fbegun, faside, ftext, fsize, fburnt, fnext, ffar, fthen, fqueue, frankAt, fturnAt])) (n2 := n) (st2 := [.int (bI (decide ((nI lo) ≤ z ∧ z ≤ (nI hi))))]) rfl rfl rfl rfl ?_
        refine V.top (y := bI false) (congrArg bI (by rw [hlo, hhi]; exact hbad)) ?_
        refine r_if_neB (tgt := 61) C dX7_stack_55 (by decide) (fun z => absurd z (by decide)) (fun _ => ?_)
        refine r_ldc C wQ_X7_54 dX7_stack_58 ?_
        exact r_iret C hr hlocks (Nat.le_of_ble_eq_true rfl) (Nat.le_of_ble_eq_true rfl) dX7_stack_60 (hpo _ _ _ ⟨rfl, rfl, rfl⟩)
      refine r_icmp_neN (tgt := 51) C dX7_stack_43 (by decide) (by omega) (by decide) (fun c43 => ?_) (fun c43 => ?_)
      · refine r_iconst (v := nI 0) C dX7_stack_51 (by decide) ?_
        exact L52 0 (by first | (rw [if_pos c43]; done) | (rw [if_neg c43]; done))
      · refine r_bipush (v := nI 21) C dX7_stack_46 (by decide) ?_
        refine r_goto (tgt := 52) C dX7_stack_48 (by decide) ?_
        exact L52 21 (by first | (rw [if_pos c43]; done) | (rw [if_neg c43]; done))
    refine r_icmp_neN (tgt := 40) C dX7_stack_33 (by decide) (by omega) (by decide) (fun c33 => ?_) (fun c33 => ?_)
    · refine r_iconst (v := nI 0) C dX7_stack_40 (by decide) ?_
      exact L41 0 (by first | (rw [if_pos c33]; done) | (rw [if_neg c33]; done))
    · refine r_iconst (v := nI 1) C dX7_stack_36 (by decide) ?_
      refine r_goto (tgt := 41) C dX7_stack_37 (by decide) ?_
      exact L41 1 (by first | (rw [if_pos c33]; done) | (rw [if_neg c33]; done))
  refine r_if_eqB (tgt := 22) C dX7_stack_15 (by decide) (fun c15 => ?_) (fun c15 => ?_)
  · refine r_bipush (v := nI 6) C dX7_stack_22 (by decide) ?_
    exact L24 6 (by rw [c15]; rfl)
  · refine r_iconst (v := nI 5) C dX7_stack_18 (by decide) ?_
    refine r_goto (tgt := 24) C dX7_stack_19 (by decide) ?_
    exact L24 5 (by rw [c15]; rfl)

abbrev rm_X7_undo_n : Room := { frames := 0, cells := 0, slots := 0, locals := 0 }
set_option maxRecDepth 100000 in
set_option maxHeartbeats 4000000 in
theorem c_X7_undo_n {l : Launch} {G : gG} {n : Nat} {σ : gS} {m0 : Nat} {xtyped xat xreason xdone xkind xn xstrength : Int32} {fs fwas fbegun faside ftext fsize fburnt fnext ffar fthen fqueue frankAt fturnAt : Nat → Int32}   : GM l G yX7_undo cX7_undo 2 (some .int) rm_X7_undo_n n (mW G σ m0 [nI 0, xtyped, xat, xreason, xdone, xkind, xn, xstrength] [fs, fwas, fbegun, faside, ftext, fsize, fburnt, fnext, ffar, fthen, fqueue, frankAt, fturnAt]) [.ref m0] (fun rv n2 σ2 => some (.int (-1000002)) = rv ∧ n = n2 ∧ (mW G σ m0 [nI 0, xtyped, xat, xreason, xdone, xkind, xn, xstrength] [fs, fwas, fbegun, faside, ftext, fsize, fburnt, fnext, ffar, fthen, fqueue, frankAt, fturnAt]) = σ2) := by
  refine GM.intro (by decide +kernel) (Nat.le_of_ble_eq_true rfl) (fun p e s m args below meth c C hr hlocks hname po hpo => ?_)
  have C : Cx p s m args c cX7_undo 2 RX7 G := C
  refine r_aload_n C dX7_undo_0 rfl 0 rfl ?_
  refine rm_get (v := .int (nI 0)) C 4 (by decide) wF_X7_55 rfl dX7_undo_1 ?_
  refine r_if_neN (tgt := 10) C dX7_undo_4 (by decide) (by decide) (fun c4 => ?_) (fun c4 => ?_)
  · exact absurd rfl c4
  · refine r_ldc C wQ_X7_115 dX7_undo_7 ?_
    exact r_iret C hr hlocks (Nat.le_of_ble_eq_true rfl) (Nat.le_of_ble_eq_true rfl) dX7_undo_9 (hpo _ _ _ ⟨rfl, rfl, rfl⟩)

abbrev rm_X7_undo_y : Room := { frames := 0, cells := 0, slots := 0, locals := 0 }
set_option maxRecDepth 100000 in
set_option maxHeartbeats 4000000 in
theorem c_X7_undo_y {l : Launch} {G : gG} {n : Nat} {σ : gS} {m0 : Nat} {xtyped xat xreason xdone xkind xn xstrength : Int32} {fs fwas fbegun faside ftext fsize fburnt fnext ffar fthen fqueue frankAt fturnAt : Nat → Int32} {sc : Nat} (hsc : sc ≤ 4) (hs1 : 1 ≤ sc) : GM l G yX7_undo cX7_undo 2 (some .int) rm_X7_undo_y n (mW G σ m0 [nI sc, xtyped, xat, xreason, xdone, xkind, xn, xstrength] [fs, fwas, fbegun, faside, ftext, fsize, fburnt, fnext, ffar, fthen, fqueue, frankAt, fturnAt]) [.ref m0] (fun rv n2 σ2 => some (.int (nI (sc - 1))) = rv ∧ n = n2 ∧ ∃ (f2 : Nat → Int32), (mW G σ m0 [nI (sc - 1), xtyped, xat, xreason, xdone, xkind, xn, xstrength] [f2, fwas, fbegun, faside, ftext, fsize, fburnt, fnext, ffar, fthen, fqueue, frankAt, fturnAt]) = σ2 ∧ (∀ j, j < 38 → f2 j = fwas (38 * (sc - 1) + j))) := by
  refine GM.intro (by decide +kernel) (Nat.le_of_ble_eq_true rfl) (fun p e s m args below meth c C hr hlocks hname po hpo => ?_)
  have C : Cx p s m args c cX7_undo 2 RX7 G := C
  refine r_aload_n C dX7_undo_0 rfl 0 rfl ?_
  refine rm_get (v := .int (nI sc)) C 4 (by decide) wF_X7_55 rfl dX7_undo_1 ?_
  refine r_if_neN (tgt := 10) C dX7_undo_4 (by decide) (by omega) (fun c4 => ?_) (fun c4 => ?_)
  · refine r_aload_n C dX7_undo_10 rfl 0 rfl ?_
    refine r_dup C dX7_undo_11 rfl ?_
    refine rm_get (v := .int (nI sc)) C 4 (by decide) wF_X7_55 rfl dX7_undo_12 ?_
    refine r_iconst (v := nI 1) C dX7_undo_15 (by decide) ?_
    refine r_isubN C dX7_undo_16 (by omega) ?_
    refine rm_put (S2 := [nI (sc - 1), xtyped, xat, xreason, xdone, xkind, xn, xstrength]) C 4 (by decide) wF_X7_55 rfl rfl dX7_undo_17 ?_
    refine r_iconst (v := nI 0) C dX7_undo_20 (by decide) ?_
    refine r_istore_n (lv2 := [(1, .int (nI 0)), (0, .ref m0)]) C dX7_undo_21 rfl (by decide) rfl ?_
    have L22 : ∀ (fu : Nat) (i : Nat) (f : Nat → Int32), (i ≤ 38) → (∀ j, j < i → f j = fwas (38 * (sc - 1) + j)) → (39 - i) < fu → V p l e rm_X7_undo_y s m args below meth c G 2 (MQ below (gQ G po) args s rm_X7_undo_y.cells rm_X7_undo_y.slots (gF G)) 0 0 n (mW G σ m0 [nI (sc - 1), xtyped, xat, xreason, xdone, xkind, xn, xstrength] [f, fwas, fbegun, faside, ftext, fsize, fburnt, fnext, ffar, fthen, fqueue, frankAt, fturnAt]) 22 [(0, .ref m0), (1, .int (nI i))] [] := by
      intro fu
      induction fu with
      | zero => intro i f hi hf hm; exact absurd hm (Nat.not_lt_zero _)
      | succ fu ih22 =>
        intro i f hi hf hm22
        refine r_iload_n C dX7_undo_22 rfl 1 rfl ?_
        refine r_bipush (v := nI 38) C dX7_undo_23 (by decide) ?_
        refine r_icmp_geN (tgt := 54) C dX7_undo_25 (by decide) (by omega) (by decide) (fun c25 => ?_) (fun c25 => ?_)
        · refine r_aload_n C dX7_undo_54 rfl 0 rfl ?_
          refine rm_get (v := .int (nI (sc - 1))) C 4 (by decide) wF_X7_55 rfl dX7_undo_55 ?_
          exact r_iret C hr hlocks (Nat.le_of_ble_eq_true rfl) (Nat.le_of_ble_eq_true rfl) dX7_undo_58 (hpo _ _ _ ⟨rfl, rfl, f, rfl, fun j hj => hf j (by omega)⟩)
        · refine r_aload_n C dX7_undo_28 rfl 0 rfl ?_
          refine rm_get (v := .ref (m0 + 1)) C 0 (by decide) wF_X7_7 rfl dX7_undo_29 ?_
          refine r_iload_n C dX7_undo_32 rfl 1 rfl ?_
          refine r_aload_n C dX7_undo_33 rfl 0 rfl ?_
          refine rm_get (v := .ref (m0 + 2)) C 1 (by decide) wF_X7_13 rfl dX7_undo_34 ?_
          refine r_bipush (v := nI 38) C dX7_undo_37 (by decide) ?_
          refine r_aload_n C dX7_undo_39 rfl 0 rfl ?_
          refine rm_get (v := .int (nI (sc - 1))) C 4 (by decide) wF_X7_55 rfl dX7_undo_40 ?_
          refine r_imulN C dX7_undo_43 ?_
          refine r_iload_n C dX7_undo_44 rfl 1 rfl ?_
          refine r_iaddN C dX7_undo_45 ?_
          refine rm_ald (f := fwas) (len := 152) C 1 rfl rfl (by decide) (by omega) dX7_undo_46 ?_
          refine rm_ast (f := f) (len := 38) (A2 := [(upd f i (fwas ((38 * (sc - 1)) + i))), fwas, fbegun, faside, ftext, fsize, fburnt, fnext, ffar, fthen, fqueue, frankAt, fturnAt]) C 0 rfl rfl (by decide) (by omega) rfl rfl dX7_undo_47 ?_
          refine r_iinc (v := nI (i + 1)) (lv2 := [(1, .int (nI (i + 1))), (0, .ref m0)]) C dX7_undo_48 (k := 1) rfl (nI_add _ 1) (by decide) rfl ?_
          refine r_goto (tgt := 22) C dX7_undo_51 (by decide) ?_
          refine V.sub (lv2 := [(0, .ref m0), (1, .int (nI (i + 1)))]) [1, 0] rfl ?_
          exact ih22 (i + 1) (upd f i (fwas ((38 * (sc - 1)) + i))) (by omega) (fun j hj => upd_step (g := fun j => fwas (38 * (sc - 1) + j)) hj hf rfl) (by omega)
    refine V.sub (lv2 := [(0, .ref m0), (1, .int (nI 0))]) [1, 0] rfl ?_
    exact L22 _ 0 fs (by omega) (fun j hj => absurd hj (Nat.not_lt_zero j)) (Nat.lt_succ_self _)
  · exact absurd c4 (by omega)

abbrev rm_X7_type_x : Room := { frames := 1, cells := 0, slots := 0, locals := 22 }
set_option maxRecDepth 100000 in
set_option maxHeartbeats 4000000 in
theorem c_X7_type_x {l : Launch} {G : gG} {n : Nat} {σ : gS} {m0 : Nat} {xstates xtyped xat xreason xdone xkind xn xstrength : Int32} {fs fwas fbegun faside ftext fsize fburnt fnext ffar fthen fqueue frankAt fturnAt : Nat → Int32} {x : Int32} (hbad : decide (nI 32 ≤ x ∧ x ≤ nI 126) = false) : GM l G yX7_type cX7_type 2 (some .int) rm_X7_type_x n (mW G σ m0 [xstates, xtyped, xat, xreason, xdone, xkind, xn, xstrength] [fs, fwas, fbegun, faside, ftext, fsize, fburnt, fnext, ffar, fthen, fqueue, frankAt, fturnAt]) [.ref m0, .int x] (fun rv n2 σ2 => some (.int (-1000001)) = rv ∧ n = n2 ∧ (mW G σ m0 [xstates, xtyped, xat, xreason, xdone, xkind, xn, xstrength] [fs, fwas, fbegun, faside, ftext, fsize, fburnt, fnext, ffar, fthen, fqueue, frankAt, fturnAt]) = σ2) := by
  refine GM.intro (by decide +kernel) (Nat.le_of_ble_eq_true rfl) (fun p e s m args below meth c C hr hlocks hname po hpo => ?_)
  have C : Cx p s m args c cX7_type 2 RX7 G := C
  refine r_iload_n C dX7_type_0 rfl 1 rfl ?_
  refine r_bipush (v := nI 32) C dX7_type_1 (by decide) ?_
  refine r_bipush (v := nI 126) C dX7_type_3 (by decide) ?_
  refine r_callS (As := [.int x, .int (nI 32), .int (nI 126)]) C (c_X7_in (v := x) (low := nI 32) (high := nI 126) ) wM_X7_50 wS_X7_in wN_X7 wC_X7_in hd_X7_in ⟨Nat.le_of_ble_eq_true rfl, Nat.le_of_ble_eq_true rfl⟩ rfl rfl (Nat.le_of_ble_eq_true rfl) dX7_type_5 ⟨Nat.le_of_ble_eq_true rfl, Nat.le_of_ble_eq_true rfl⟩ (fun rv n2 σ2 hp => ?_)
  obtain ⟨rfl, rfl, rfl⟩ := hp
  refine V.eq (σ2 := (mW G σ m0 [xstates, xtyped, xat, xreason, xdone, xkind, xn, xstrength] [fs, fwas, fbegun, faside, ftext, fsize, fburnt, fnext, ffar, fthen, fqueue, frankAt, fturnAt])) (n2 := n) (st2 := [.int (bI (decide ((nI 32) ≤ x ∧ x ≤ (nI 126))))]) rfl rfl rfl rfl ?_
  refine V.top (y := bI false) (congrArg bI (hbad)) ?_
  refine r_if_neB (tgt := 14) C dX7_type_8 (by decide) (fun z => absurd z (by decide)) (fun _ => ?_)
  refine r_ldc C wQ_X7_54 dX7_type_11 ?_
  exact r_iret C hr hlocks (Nat.le_of_ble_eq_true rfl) (Nat.le_of_ble_eq_true rfl) dX7_type_13 (hpo _ _ _ ⟨rfl, rfl, rfl⟩)

abbrev rm_X7_type_f : Room := { frames := 1, cells := 0, slots := 0, locals := 22 }
set_option maxRecDepth 100000 in
set_option maxHeartbeats 4000000 in
theorem c_X7_type_f {l : Launch} {G : gG} {n : Nat} {σ : gS} {m0 : Nat} {xstates xat xreason xdone xkind xn xstrength : Int32} {fs fwas fbegun faside ftext fsize fburnt fnext ffar fthen fqueue frankAt fturnAt : Nat → Int32} {w : Nat} (hw : 32 ≤ w ∧ w ≤ 126) : GM l G yX7_type cX7_type 2 (some .int) rm_X7_type_f n (mW G σ m0 [xstates, nI 50, xat, xreason, xdone, xkind, xn, xstrength] [fs, fwas, fbegun, faside, ftext, fsize, fburnt, fnext, ffar, fthen, fqueue, frankAt, fturnAt]) [.ref m0, .int (nI w)] (fun rv n2 σ2 => some (.int (-1000003)) = rv ∧ n = n2 ∧ (mW G σ m0 [xstates, nI 50, xat, xreason, xdone, xkind, xn, xstrength] [fs, fwas, fbegun, faside, ftext, fsize, fburnt, fnext, ffar, fthen, fqueue, frankAt, fturnAt]) = σ2) := by
  refine GM.intro (by decide +kernel) (Nat.le_of_ble_eq_true rfl) (fun p e s m args below meth c C hr hlocks hname po hpo => ?_)
  have C : Cx p s m args c cX7_type 2 RX7 G := C
  refine r_iload_n C dX7_type_0 rfl 1 rfl ?_
  refine r_bipush (v := nI 32) C dX7_type_1 (by decide) ?_
  refine r_bipush (v := nI 126) C dX7_type_3 (by decide) ?_
  refine r_callS (As := [.int (nI w), .int (nI 32), .int (nI 126)]) C (c_X7_in (v := nI w) (low := nI 32) (high := nI 126) ) wM_X7_50 wS_X7_in wN_X7 wC_X7_in hd_X7_in ⟨Nat.le_of_ble_eq_true rfl, Nat.le_of_ble_eq_true rfl⟩ rfl rfl (Nat.le_of_ble_eq_true rfl) dX7_type_5 ⟨Nat.le_of_ble_eq_true rfl, Nat.le_of_ble_eq_true rfl⟩ (fun rv n2 σ2 hp => ?_)
  obtain ⟨rfl, rfl, rfl⟩ := hp
  refine V.eq (σ2 := (mW G σ m0 [xstates, nI 50, xat, xreason, xdone, xkind, xn, xstrength] [fs, fwas, fbegun, faside, ftext, fsize, fburnt, fnext, ffar, fthen, fqueue, frankAt, fturnAt])) (n2 := n) (st2 := [.int (bI (decide ((nI 32) ≤ (nI w) ∧ (nI w) ≤ (nI 126))))]) rfl rfl rfl rfl ?_
  refine V.top (y := bI true) (congrArg bI (in_N (by omega) (by omega) (by omega))) ?_
  refine r_if_neB (tgt := 14) C dX7_type_8 (by decide) (fun _ => ?_) (fun z => absurd z (by decide))
  refine r_aload_n C dX7_type_14 rfl 0 rfl ?_
  refine rm_get (v := .int (nI 50)) C 6 (by decide) wF_X7_162 rfl dX7_type_15 ?_
  refine r_bipush (v := nI 50) C dX7_type_18 (by decide) ?_
  refine r_icmp_neN (tgt := 26) C dX7_type_20 (by decide) (by decide) (by decide) (fun c20 => ?_) (fun c20 => ?_)
  · exact absurd rfl c20
  · refine r_ldc C wQ_X7_91 dX7_type_23 ?_
    exact r_iret C hr hlocks (Nat.le_of_ble_eq_true rfl) (Nat.le_of_ble_eq_true rfl) dX7_type_25 (hpo _ _ _ ⟨rfl, rfl, rfl⟩)

abbrev rm_X7_type_y : Room := { frames := 1, cells := 0, slots := 0, locals := 22 }
set_option maxRecDepth 100000 in
set_option maxHeartbeats 4000000 in
theorem c_X7_type_y {l : Launch} {G : gG} {n : Nat} {σ : gS} {m0 : Nat} {xstates xat xreason xdone xkind xn xstrength : Int32} {fs fwas fbegun faside ftext fsize fburnt fnext ffar fthen fqueue frankAt fturnAt : Nat → Int32} {w tn : Nat} (hw : 32 ≤ w ∧ w ≤ 126) (htn : tn < 50) : GM l G yX7_type cX7_type 2 (some .int) rm_X7_type_y n (mW G σ m0 [xstates, nI tn, xat, xreason, xdone, xkind, xn, xstrength] [fs, fwas, fbegun, faside, ftext, fsize, fburnt, fnext, ffar, fthen, fqueue, frankAt, fturnAt]) [.ref m0, .int (nI w)] (fun rv n2 σ2 => some (.int (nI (tn + 1))) = rv ∧ n = n2 ∧ (mW G σ m0 [xstates, nI (tn + 1), xat, xreason, xdone, xkind, xn, xstrength] [fs, fwas, fbegun, faside, (upd ftext tn (nI w)), fsize, fburnt, fnext, ffar, fthen, fqueue, frankAt, fturnAt]) = σ2) := by
  refine GM.intro (by decide +kernel) (Nat.le_of_ble_eq_true rfl) (fun p e s m args below meth c C hr hlocks hname po hpo => ?_)
  have C : Cx p s m args c cX7_type 2 RX7 G := C
  refine r_iload_n C dX7_type_0 rfl 1 rfl ?_
  refine r_bipush (v := nI 32) C dX7_type_1 (by decide) ?_
  refine r_bipush (v := nI 126) C dX7_type_3 (by decide) ?_
  refine r_callS (As := [.int (nI w), .int (nI 32), .int (nI 126)]) C (c_X7_in (v := nI w) (low := nI 32) (high := nI 126) ) wM_X7_50 wS_X7_in wN_X7 wC_X7_in hd_X7_in ⟨Nat.le_of_ble_eq_true rfl, Nat.le_of_ble_eq_true rfl⟩ rfl rfl (Nat.le_of_ble_eq_true rfl) dX7_type_5 ⟨Nat.le_of_ble_eq_true rfl, Nat.le_of_ble_eq_true rfl⟩ (fun rv n2 σ2 hp => ?_)
  obtain ⟨rfl, rfl, rfl⟩ := hp
  refine V.eq (σ2 := (mW G σ m0 [xstates, nI tn, xat, xreason, xdone, xkind, xn, xstrength] [fs, fwas, fbegun, faside, ftext, fsize, fburnt, fnext, ffar, fthen, fqueue, frankAt, fturnAt])) (n2 := n) (st2 := [.int (bI (decide ((nI 32) ≤ (nI w) ∧ (nI w) ≤ (nI 126))))]) rfl rfl rfl rfl ?_
  refine V.top (y := bI true) (congrArg bI (in_N (by omega) (by omega) (by omega))) ?_
  refine r_if_neB (tgt := 14) C dX7_type_8 (by decide) (fun _ => ?_) (fun z => absurd z (by decide))
  refine r_aload_n C dX7_type_14 rfl 0 rfl ?_
  refine rm_get (v := .int (nI tn)) C 6 (by decide) wF_X7_162 rfl dX7_type_15 ?_
  refine r_bipush (v := nI 50) C dX7_type_18 (by decide) ?_
  refine r_icmp_neN (tgt := 26) C dX7_type_20 (by decide) (by omega) (by decide) (fun c20 => ?_) (fun c20 => ?_)
  · refine r_aload_n C dX7_type_26 rfl 0 rfl ?_
    refine rm_get (v := .ref (m0 + 5)) C 5 (by decide) wF_X7_22 rfl dX7_type_27 ?_
    refine r_aload_n C dX7_type_30 rfl 0 rfl ?_
    refine rm_get (v := .int (nI tn)) C 6 (by decide) wF_X7_162 rfl dX7_type_31 ?_
    refine r_iload_n C dX7_type_34 rfl 1 rfl ?_
    refine r_i2c (v := nI w) C dX7_type_35 (i2c_N (by omega)) ?_
    refine rm_cast (f := ftext) (len := 50) (A2 := [fs, fwas, fbegun, faside, (upd ftext tn (nI w)), fsize, fburnt, fnext, ffar, fthen, fqueue, frankAt, fturnAt]) C 4 rfl rfl (by decide) (by omega) (nar_N (by omega)) rfl rfl dX7_type_36 ?_
    refine r_aload_n C dX7_type_37 rfl 0 rfl ?_
    refine r_dup C dX7_type_38 rfl ?_
    refine rm_get (v := .int (nI tn)) C 6 (by decide) wF_X7_162 rfl dX7_type_39 ?_
    refine r_iconst (v := nI 1) C dX7_type_42 (by decide) ?_
    refine r_iaddN C dX7_type_43 ?_
    refine rm_put (S2 := [xstates, nI (tn + 1), xat, xreason, xdone, xkind, xn, xstrength]) C 6 (by decide) wF_X7_162 rfl rfl dX7_type_44 ?_
    refine r_aload_n C dX7_type_47 rfl 0 rfl ?_
    refine rm_get (v := .int (nI (tn + 1))) C 6 (by decide) wF_X7_162 rfl dX7_type_48 ?_
    exact r_iret C hr hlocks (Nat.le_of_ble_eq_true rfl) (Nat.le_of_ble_eq_true rfl) dX7_type_51 (hpo _ _ _ ⟨rfl, rfl, rfl⟩)
  · exact absurd c20 (by omega)

abbrev rm_X7_clearText : Room := { frames := 0, cells := 0, slots := 0, locals := 0 }
set_option maxRecDepth 100000 in
set_option maxHeartbeats 4000000 in
theorem c_X7_clearText {l : Launch} {G : gG} {n : Nat} {σ : gS} {m0 : Nat} {xstates xat xreason xdone xkind xn xstrength : Int32} {fs fwas fbegun faside ftext fsize fburnt fnext ffar fthen fqueue frankAt fturnAt : Nat → Int32} {tn : Nat}  : GM l G yX7_clearText cX7_clearText 2 (some .int) rm_X7_clearText n (mW G σ m0 [xstates, nI tn, xat, xreason, xdone, xkind, xn, xstrength] [fs, fwas, fbegun, faside, ftext, fsize, fburnt, fnext, ffar, fthen, fqueue, frankAt, fturnAt]) [.ref m0] (fun rv n2 σ2 => some (.int (nI tn)) = rv ∧ n = n2 ∧ (mW G σ m0 [xstates, nI 0, xat, xreason, xdone, xkind, xn, xstrength] [fs, fwas, fbegun, faside, ftext, fsize, fburnt, fnext, ffar, fthen, fqueue, frankAt, fturnAt]) = σ2) := by
  refine GM.intro (by decide +kernel) (Nat.le_of_ble_eq_true rfl) (fun p e s m args below meth c C hr hlocks hname po hpo => ?_)
  have C : Cx p s m args c cX7_clearText 2 RX7 G := C
  refine r_aload_n C dX7_clearText_0 rfl 0 rfl ?_
  refine rm_get (v := .int (nI tn)) C 6 (by decide) wF_X7_162 rfl dX7_clearText_1 ?_
  refine r_istore_n (lv2 := [(1, .int (nI tn)), (0, .ref m0)]) C dX7_clearText_4 rfl (by decide) rfl ?_
  refine r_aload_n C dX7_clearText_5 rfl 1 rfl ?_
  refine r_iconst (v := nI 0) C dX7_clearText_6 (by decide) ?_
  refine rm_put (S2 := [xstates, nI 0, xat, xreason, xdone, xkind, xn, xstrength]) C 6 (by decide) wF_X7_162 rfl rfl dX7_clearText_7 ?_
  refine r_iload_n C dX7_clearText_10 rfl 0 rfl ?_
  exact r_iret C hr hlocks (Nat.le_of_ble_eq_true rfl) (Nat.le_of_ble_eq_true rfl) dX7_clearText_11 (hpo _ _ _ ⟨rfl, rfl, rfl⟩)
