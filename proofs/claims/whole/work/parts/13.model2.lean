theorem p2_N {N : Nat} (hN : N ≤ 6) : 1 * 2 ^ (N + 1) ≤ 128 ∧ 2 ≤ 1 * 2 ^ (N + 1) := by
  have h1 := two_le hN
  have h2 := Nat.one_le_two_pow (n := N)
  rw [Nat.pow_succ]
  omega
theorem isC_nt {N c i : Nat} (hN : N ≤ 6) (hi : i ≤ N) (h1 : N ≤ i) (h0 : c / 10 ^ i ≠ 0) : isC N c = false := by
  have : i = N := by omega
  subst this
  exact isC_not hN h0
theorem upd_step {f : Nat → Int32} {g : Nat → Int32} {i j : Nat} {x : Int32} (hj : j < i + 1) (h : ∀ j, j < i → f j = g j) (hx : x = g i) : upd f i x j = g j := by
  rcases Nat.lt_or_eq_of_le (Nat.le_of_lt_succ hj) with e | e
  · rw [pk_un (Nat.ne_of_lt e)]
    exact h j e
  · subst e
    rw [pk_us, hx]
theorem nI_big {v : Nat} (h : v < 2 ^ 31) : ¬ nI v ≤ -1000001 := by
  intro z
  have h1 := Int32.le_iff_toInt_le.mp z
  rw [nI_toInt h] at h1
  have h2 : (-1000001 : Int32).toInt = -1000001 := by decide
  rw [h2] at h1
  omega
theorem in_dec {v lo hi : Nat} (hv : v < 2 ^ 31) (hl : lo < 2 ^ 31) (hh : hi < 2 ^ 31) : decide (nI lo ≤ nI v ∧ nI v ≤ nI hi) = decide (lo ≤ v ∧ v ≤ hi) := by
  by_cases h : lo ≤ v ∧ v ≤ hi
  · rw [in_N h.1 h.2 hh, decide_eq_true h]
  · rw [in_Nf (by omega) hv hl, decide_eq_false h]
def tr1 (kd sr N o sd w : Nat) : Int32 := if okT kd sr N o sd w = true then nI (gp (sid kd) N (tnO N o w) (tnS (sid kd) sd w)) else (-1000002)
def ts1 (f : Nat → Int32) (k kd sr N o sd w h : Nat) : Nat → Int32 := if okT kd sr N o sd w = true then tnM f k (cd N (tnO N o w)) (tnS (sid kd) sd w) w h else f
def psp (kd sr N o sd : Nat) : Nat → Nat
  | 0 => 0
  | i + 1 => psp kd sr N o sd i ||| (if al kd sr N o sd (i + 1) = true then 1 * 2 ^ (i + 1) else 0)
def plc (N o w : Nat) : Nat := (pm N o).idxOf w
theorem k_plc : chkO (fun N o => (List.range N).all fun v => decide (plc N o (v + 1) < N) && (sz N o (plc N o (v + 1)) == v + 1) && (List.range (plc N o (v + 1))).all fun j => !(sz N o j == v + 1)) = true := by decide +kernel
theorem plc_ok {N o w : Nat} (hN : N ≤ 6) (ho : o < fac N) (hw : 1 ≤ w ∧ w ≤ N) : plc N o w < N ∧ sz N o (plc N o w) = w ∧ ∀ j, j < plc N o w → ¬ sz N o j = w := by
  have := dec1 (chkO_of k_plc hN ho) (w - 1) (by omega)
  rw [show w - 1 + 1 = w by omega] at this
  simp at this
  exact ⟨this.1.1, this.1.2, fun j hj => this.2 j hj⟩
/-- the greatest cake that is not at its place, good side above -/
def stc (N o sd : Nat) : Nat → Nat
  | 0 => 0
  | c + 1 => if sz N o c = c + 1 ∧ bt sd c = 0 then stc N o sd c else c + 1
theorem stc_go {N o sd c : Nat} (h : 1 ≤ c) (h1 : sz N o (c - 1) = c) (h2 : bt sd (c - 1) = 0) : stc N o sd c = stc N o sd (c - 1) := by
  obtain ⟨z, rfl⟩ : ∃ z, c = z + 1 := ⟨c - 1, by omega⟩
  simp only [Nat.add_sub_cancel] at h1 h2 ⊢
  rw [stc, if_pos ⟨h1, h2⟩]
theorem stc_st {N o sd c : Nat} (h : 1 ≤ c) (h1 : ¬ (sz N o (c - 1) = c ∧ bt sd (c - 1) = 0)) : stc N o sd c = c := by
  obtain ⟨z, rfl⟩ : ∃ z, c = z + 1 := ⟨c - 1, by omega⟩
  simp only [Nat.add_sub_cancel] at h1
  rw [stc, if_neg h1]
theorem stc_0 {N o sd : Nat} : ∀ c, stc N o sd c = 0 → srp N o sd c = true
  | 0, _ => rfl
  | c + 1, h => by
    rw [stc] at h
    split at h
    · next g => simp [srp, stc_0 c h, g.1, g.2]
    · omega
theorem stc_pos {N o sd : Nat} (h : srp N o sd N = false) : 1 ≤ stc N o sd N := by
  rcases Nat.eq_zero_or_pos (stc N o sd N) with g | g
  · rw [stc_0 N g] at h
    exact absurd h (by decide)
  · exact g
/-- the next turn of the simple way -/
def smt (sb : Bool) (N o sd : Nat) : Nat := if plc N o (stc N o sd N) = stc N o sd N - 1 then stc N o sd N else if 0 < plc N o (stc N o sd N) then plc N o (stc N o sd N) + 1 else if sb = true ∧ bt sd 0 = 0 then 1 else stc N o sd N
def sgn (f : Nat → Int32) (i t : Nat) : Int32 := if i < t then f i else (-1)

abbrev rm_X7_isStack : Room := { frames := 1, cells := 0, slots := 0, locals := 22 }
set_option maxRecDepth 100000 in
set_option maxHeartbeats 4000000 in
theorem c_X7_isStack {l : Launch} {G : gG} {n : Nat} {σ : gS} {m0 : Nat} {xstates xtyped xat xreason xdone xkind xn xstrength : Int32} {fs fwas fbegun faside ftext fsize fburnt fnext ffar fthen fqueue frankAt fturnAt : Nat → Int32} {x : Int32} {ns : Nat} (hns : fs 0 = nI ns) : GM l G yX7_isStack cX7_isStack 2 (some .boolean) rm_X7_isStack n (mW G σ m0 [xstates, xtyped, xat, xreason, xdone, xkind, xn, xstrength] [fs, fwas, fbegun, faside, ftext, fsize, fburnt, fnext, ffar, fthen, fqueue, frankAt, fturnAt]) [.ref m0, .int x] (fun rv n2 σ2 => some (.int (bI (isS x ns))) = rv ∧ n = n2 ∧ (mW G σ m0 [xstates, xtyped, xat, xreason, xdone, xkind, xn, xstrength] [fs, fwas, fbegun, faside, ftext, fsize, fburnt, fnext, ffar, fthen, fqueue, frankAt, fturnAt]) = σ2) := by
  refine GM.intro (by decide +kernel) (Nat.le_of_ble_eq_true rfl) (fun p e s m args below meth c C hr hlocks hname po hpo => ?_)
  have C : Cx p s m args c cX7_isStack 2 RX7 G := C
  refine r_iload_n C dX7_isStack_0 rfl 1 rfl ?_
  refine r_iconst (v := nI 0) C dX7_isStack_1 (by decide) ?_
  refine r_aload_n C dX7_isStack_2 rfl 0 rfl ?_
  refine rm_get (v := .ref (m0 + 1)) C 0 (by decide) wF_X7_7 rfl dX7_isStack_3 ?_
  refine r_iconst (v := nI 0) C dX7_isStack_6 (by decide) ?_
  refine rm_ald (f := fs) (len := 38) C 0 rfl rfl (by decide) (by decide) dX7_isStack_7 ?_
  refine V.top (y := nI ns) (hns) ?_
  refine r_iconst (v := nI 1) C dX7_isStack_8 (by decide) ?_
  refine r_isub C dX7_isStack_9 ?_
  refine r_callS (As := [.int x, .int (nI 0), .int ((nI ns) - (nI 1))]) C (c_X7_in (v := x) (low := nI 0) (high := (nI ns) - (nI 1)) ) wM_X7_50 wS_X7_in wN_X7 wC_X7_in hd_X7_in ⟨Nat.le_of_ble_eq_true rfl, Nat.le_of_ble_eq_true rfl⟩ rfl rfl (Nat.le_of_ble_eq_true rfl) dX7_isStack_10 ⟨Nat.le_of_ble_eq_true rfl, Nat.le_of_ble_eq_true rfl⟩ (fun rv n2 σ2 hp => ?_)
  obtain ⟨rfl, rfl, rfl⟩ := hp
  refine V.eq (σ2 := (mW G σ m0 [xstates, xtyped, xat, xreason, xdone, xkind, xn, xstrength] [fs, fwas, fbegun, faside, ftext, fsize, fburnt, fnext, ffar, fthen, fqueue, frankAt, fturnAt])) (n2 := n) (st2 := [.int (bI (decide ((nI 0) ≤ x ∧ x ≤ ((nI ns) - (nI 1)))))]) rfl rfl rfl rfl ?_
  exact r_zret C (bI_nar _) hr hlocks (Nat.le_of_ble_eq_true rfl) (Nat.le_of_ble_eq_true rfl) dX7_isStack_13 (hpo _ _ _ ⟨rfl, rfl, rfl⟩)

abbrev rm_X7_isCode_p : Room := { frames := 0, cells := 0, slots := 0, locals := 0 }
set_option maxRecDepth 100000 in
set_option maxHeartbeats 4000000 in
theorem c_X7_isCode_p {l : Launch} {G : gG} {n : Nat} {σ : gS}  {cw N : Nat} (hcw : cw < 2 ^ 31) (hN : N ≤ 6) (hN1 : 1 ≤ N) : GM l G yX7_isCode cX7_isCode 5 (some .boolean) rm_X7_isCode_p n σ [.int (nI cw), .int (nI N)] (fun rv n2 σ2 => some (.int (bI (isC N cw))) = rv ∧ n = n2 ∧ σ = σ2) := by
  refine GM.intro (by decide +kernel) (Nat.le_of_ble_eq_true rfl) (fun p e s m args below meth c C hr hlocks hname po hpo => ?_)
  have C : Cx p s m args c cX7_isCode 5 RX7 G := C
  refine r_iconst (v := nI 0) C dX7_isCode_0 (by decide) ?_
  refine r_istore_n (lv2 := [(2, .int (nI 0)), (0, .int (nI cw)), (1, .int (nI N))]) C dX7_isCode_1 rfl (by decide) rfl ?_
  refine r_iload_n C dX7_isCode_2 rfl 1 rfl ?_
  refine r_istore_n (lv2 := [(3, .int (nI cw)), (2, .int (nI 0)), (0, .int (nI cw)), (1, .int (nI N))]) C dX7_isCode_3 rfl (by decide) rfl ?_
  refine r_iconst (v := nI 0) C dX7_isCode_4 (by decide) ?_
  refine r_istore (lv2 := [(4, .int (nI 0)), (3, .int (nI cw)), (2, .int (nI 0)), (0, .int (nI cw)), (1, .int (nI N))]) C dX7_isCode_5 (by decide) rfl ?_
  have L7 : ∀ (fu : Nat) (i : Nat), (i ≤ N) → (N + 1 - i) < fu → V p l e rm_X7_isCode_p s m args below meth c G 5 (MQ below (gQ G po) args s rm_X7_isCode_p.cells rm_X7_isCode_p.slots (gF G)) 0 0 n σ 7 [(0, .int (nI cw)), (1, .int (nI N)), (2, .int (nI (snF cw i))), (3, .int (nI (cw / 10 ^ i))), (4, .int (nI i))] [] := by
    intro fu
    induction fu with
    | zero => intro i hi hm; exact absurd hm (Nat.not_lt_zero _)
    | succ fu ih7 =>
      intro i hi hm7
      have hsn := snF_lt cw i
      have hdv := Nat.div_le_self cw (10 ^ i)
      refine r_iload C dX7_isCode_7 4 rfl ?_
      refine r_iload_n C dX7_isCode_9 rfl 1 rfl ?_
      refine r_icmp_geN (tgt := 37) C dX7_isCode_10 (by decide) (by omega) (by omega) (fun c10 => ?_) (fun c10 => ?_)
      · refine r_iload_n C dX7_isCode_37 rfl 3 rfl ?_
        refine r_if_neN (tgt := 56) C dX7_isCode_38 (by decide) (by omega) (fun c38 => ?_) (fun c38 => ?_)
        · refine r_iconst (v := nI 0) C dX7_isCode_56 (by decide) ?_
          exact r_zret C (by decide) hr hlocks (Nat.le_of_ble_eq_true rfl) (Nat.le_of_ble_eq_true rfl) dX7_isCode_57 (hpo _ _ _ ⟨bI_f (by first | exact isC_of hN hi c38 (by simpa [full] using c49) | exact isC_not2 hN hi (fun _ => c38) (by simpa [full] using c49) | exact isC_nt hN hi c10 c38 | exact absurd c14 c38), rfl, rfl⟩)
        · refine r_iload_n C dX7_isCode_41 rfl 2 rfl ?_
          refine r_iconst (v := nI 1) C dX7_isCode_42 (by decide) ?_
          refine r_iload_n C dX7_isCode_43 rfl 1 rfl ?_
          refine r_iconst (v := nI 1) C dX7_isCode_44 (by decide) ?_
          refine r_iaddN C dX7_isCode_45 ?_
          have h2N := p2_N hN
          refine r_ishlN C dX7_isCode_46 (by omega) ?_
          refine r_iconst (v := nI 2) C dX7_isCode_47 (by decide) ?_
          refine r_isubN C dX7_isCode_48 (by omega) ?_
          refine r_icmp_neN (tgt := 56) C dX7_isCode_49 (by decide) (by omega) (by omega) (fun c49 => ?_) (fun c49 => ?_)
          · refine r_iconst (v := nI 0) C dX7_isCode_56 (by decide) ?_
            exact r_zret C (by decide) hr hlocks (Nat.le_of_ble_eq_true rfl) (Nat.le_of_ble_eq_true rfl) dX7_isCode_57 (hpo _ _ _ ⟨bI_f (by first | exact isC_of hN hi c38 (by simpa [full] using c49) | exact isC_not2 hN hi (fun _ => c38) (by simpa [full] using c49) | exact isC_nt hN hi c10 c38 | exact absurd c14 c38), rfl, rfl⟩)
          · refine r_iconst (v := nI 1) C dX7_isCode_52 (by decide) ?_
            refine r_goto (tgt := 57) C dX7_isCode_53 (by decide) ?_
            exact r_zret C (by decide) hr hlocks (Nat.le_of_ble_eq_true rfl) (Nat.le_of_ble_eq_true rfl) dX7_isCode_57 (hpo _ _ _ ⟨bI_t (by first | exact isC_of hN hi c38 (by simpa [full] using c49) | exact isC_not2 hN hi (fun _ => c38) (by simpa [full] using c49) | exact isC_nt hN hi c10 c38 | exact absurd c14 c38), rfl, rfl⟩)
      · refine r_iload_n C dX7_isCode_13 rfl 3 rfl ?_
        refine r_if_leN (tgt := 37) C dX7_isCode_14 (by decide) (by omega) (fun c14 => ?_) (fun c14 => ?_)
        · refine r_iload_n C dX7_isCode_37 rfl 3 rfl ?_
          refine r_if_neN (tgt := 56) C dX7_isCode_38 (by decide) (by omega) (fun c38 => ?_) (fun c38 => ?_)
          · refine r_iconst (v := nI 0) C dX7_isCode_56 (by decide) ?_
            exact r_zret C (by decide) hr hlocks (Nat.le_of_ble_eq_true rfl) (Nat.le_of_ble_eq_true rfl) dX7_isCode_57 (hpo _ _ _ ⟨bI_f (by first | exact isC_of hN hi c38 (by simpa [full] using c49) | exact isC_not2 hN hi (fun _ => c38) (by simpa [full] using c49) | exact isC_nt hN hi c10 c38 | exact absurd c14 c38), rfl, rfl⟩)
          · refine r_iload_n C dX7_isCode_41 rfl 2 rfl ?_
            refine r_iconst (v := nI 1) C dX7_isCode_42 (by decide) ?_
            refine r_iload_n C dX7_isCode_43 rfl 1 rfl ?_
            refine r_iconst (v := nI 1) C dX7_isCode_44 (by decide) ?_
            refine r_iaddN C dX7_isCode_45 ?_
            have h2N := p2_N hN
            refine r_ishlN C dX7_isCode_46 (by omega) ?_
            refine r_iconst (v := nI 2) C dX7_isCode_47 (by decide) ?_
            refine r_isubN C dX7_isCode_48 (by omega) ?_
            refine r_icmp_neN (tgt := 56) C dX7_isCode_49 (by decide) (by omega) (by omega) (fun c49 => ?_) (fun c49 => ?_)
            · refine r_iconst (v := nI 0) C dX7_isCode_56 (by decide) ?_
              exact r_zret C (by decide) hr hlocks (Nat.le_of_ble_eq_true rfl) (Nat.le_of_ble_eq_true rfl) dX7_isCode_57 (hpo _ _ _ ⟨bI_f (by first | exact isC_of hN hi c38 (by simpa [full] using c49) | exact isC_not2 hN hi (fun _ => c38) (by simpa [full] using c49) | exact isC_nt hN hi c10 c38 | exact absurd c14 c38), rfl, rfl⟩)
            · refine r_iconst (v := nI 1) C dX7_isCode_52 (by decide) ?_
              refine r_goto (tgt := 57) C dX7_isCode_53 (by decide) ?_
              exact r_zret C (by decide) hr hlocks (Nat.le_of_ble_eq_true rfl) (Nat.le_of_ble_eq_true rfl) dX7_isCode_57 (hpo _ _ _ ⟨bI_t (by first | exact isC_of hN hi c38 (by simpa [full] using c49) | exact isC_not2 hN hi (fun _ => c38) (by simpa [full] using c49) | exact isC_nt hN hi c10 c38 | exact absurd c14 c38), rfl, rfl⟩)
        · refine r_iload_n C dX7_isCode_17 rfl 2 rfl ?_
          refine r_iconst (v := nI 1) C dX7_isCode_18 (by decide) ?_
          refine r_iload_n C dX7_isCode_19 rfl 3 rfl ?_
          refine r_bipush (v := nI 10) C dX7_isCode_20 (by decide) ?_
          refine r_iremN C dX7_isCode_22 (by omega) (by decide) (by decide) ?_
          refine r_ishlN C dX7_isCode_23 (by omega) ?_
          refine r_iorN C dX7_isCode_24 ?_
          refine r_istore_n (lv2 := [(2, .int (nI ((snF cw i) ||| (1 * 2 ^ ((cw / 10 ^ i) % 10))))), (0, .int (nI cw)), (1, .int (nI N)), (3, .int (nI (cw / 10 ^ i))), (4, .int (nI i))]) C dX7_isCode_25 rfl (by decide) rfl ?_
          refine r_iload_n C dX7_isCode_26 rfl 3 rfl ?_
          refine r_bipush (v := nI 10) C dX7_isCode_27 (by decide) ?_
          refine r_idivN C dX7_isCode_29 (by omega) (by decide) (by decide) ?_
          refine r_istore_n (lv2 := [(3, .int (nI ((cw / 10 ^ i) / 10))), (2, .int (nI ((snF cw i) ||| (1 * 2 ^ ((cw / 10 ^ i) % 10))))), (0, .int (nI cw)), (1, .int (nI N)), (4, .int (nI i))]) C dX7_isCode_30 rfl (by decide) rfl ?_
          refine r_iinc (v := nI (i + 1)) (lv2 := [(4, .int (nI (i + 1))), (3, .int (nI ((cw / 10 ^ i) / 10))), (2, .int (nI ((snF cw i) ||| (1 * 2 ^ ((cw / 10 ^ i) % 10))))), (0, .int (nI cw)), (1, .int (nI N))]) C dX7_isCode_31 (k := 4) rfl (nI_add _ 1) (by decide) rfl ?_
          refine r_goto (tgt := 7) C dX7_isCode_34 (by decide) ?_
          refine V.sub (lv2 := [(0, .int (nI cw)), (1, .int (nI N)), (2, .int (nI ((snF cw i) ||| (1 * 2 ^ ((cw / 10 ^ i) % 10))))), (3, .int (nI ((cw / 10 ^ i) / 10))), (4, .int (nI (i + 1)))]) [3, 4, 2, 1, 0] rfl ?_
          refine V.eq (σ2 := σ) (lv2 := [(0, .int (nI cw)), (1, .int (nI N)), (2, .int (nI (snF cw (i + 1)))), (3, .int (nI (cw / 10 ^ (i + 1)))), (4, .int (nI (i + 1)))]) (st2 := []) rfl rfl (by rw [(show nI ((snF cw i) ||| (1 * 2 ^ ((cw / 10 ^ i) % 10))) = nI (snF cw (i + 1)) from rfl), (show nI ((cw / 10 ^ i) / 10) = nI (cw / 10 ^ (i + 1)) from by rw [Nat.pow_succ, Nat.div_div_eq_div_mul])]) rfl ?_
          exact ih7 (i + 1) (by omega) (by omega)
  refine V.sub (lv2 := [(0, .int (nI cw)), (1, .int (nI N)), (2, .int (nI 0)), (3, .int (nI cw)), (4, .int (nI 0))]) [3, 4, 2, 1, 0] rfl ?_
  refine V.eq (σ2 := σ) (lv2 := [(0, .int (nI cw)), (1, .int (nI N)), (2, .int (nI (snF cw 0))), (3, .int (nI (cw / 10 ^ 0))), (4, .int (nI 0))]) (st2 := []) rfl rfl (by rw [(show nI 0 = nI (snF cw 0) from rfl), (show nI cw = nI (cw / 10 ^ 0) from by simp)]) rfl ?_
  exact L7 _ 0 (by omega) (Nat.lt_succ_self _)

abbrev rm_X7_isCode_n : Room := { frames := 0, cells := 0, slots := 0, locals := 0 }
set_option maxRecDepth 100000 in
set_option maxHeartbeats 4000000 in
theorem c_X7_isCode_n {l : Launch} {G : gG} {n : Nat} {σ : gS}  {x : Int32} {N : Nat} (hx : x < 0) (hN : N ≤ 6) (hN1 : 1 ≤ N) : GM l G yX7_isCode cX7_isCode 5 (some .boolean) rm_X7_isCode_n n σ [.int x, .int (nI N)] (fun rv n2 σ2 => some (.int (bI false)) = rv ∧ n = n2 ∧ σ = σ2) := by
  refine GM.intro (by decide +kernel) (Nat.le_of_ble_eq_true rfl) (fun p e s m args below meth c C hr hlocks hname po hpo => ?_)
  have C : Cx p s m args c cX7_isCode 5 RX7 G := C
  refine r_iconst (v := nI 0) C dX7_isCode_0 (by decide) ?_
  refine r_istore_n (lv2 := [(2, .int (nI 0)), (0, .int x), (1, .int (nI N))]) C dX7_isCode_1 rfl (by decide) rfl ?_
  refine r_iload_n C dX7_isCode_2 rfl 1 rfl ?_
  refine r_istore_n (lv2 := [(3, .int x), (2, .int (nI 0)), (0, .int x), (1, .int (nI N))]) C dX7_isCode_3 rfl (by decide) rfl ?_
  refine r_iconst (v := nI 0) C dX7_isCode_4 (by decide) ?_
  refine r_istore (lv2 := [(4, .int (nI 0)), (3, .int x), (2, .int (nI 0)), (0, .int x), (1, .int (nI N))]) C dX7_isCode_5 (by decide) rfl ?_
  refine r_iload C dX7_isCode_7 0 rfl ?_
  refine r_iload_n C dX7_isCode_9 rfl 4 rfl ?_
  refine r_icmp_geN (tgt := 37) C dX7_isCode_10 (by decide) (by decide) (by omega) (fun c10 => ?_) (fun c10 => ?_)
  · exact absurd c10 (by omega)
  · refine r_iload_n C dX7_isCode_13 rfl 1 rfl ?_
    refine r_if_le (tgt := 37) C dX7_isCode_14 (by decide) (fun c14 => ?_) (fun c14 => ?_)
    · refine r_iload_n C dX7_isCode_37 rfl 1 rfl ?_
      refine r_if_ne (tgt := 56) C dX7_isCode_38 (by decide) (fun c38 => ?_) (fun c38 => ?_)
      · refine r_iconst (v := nI 0) C dX7_isCode_56 (by decide) ?_
        exact r_zret C (by decide) hr hlocks (Nat.le_of_ble_eq_true rfl) (Nat.le_of_ble_eq_true rfl) dX7_isCode_57 (hpo _ _ _ ⟨bI_f (by exact rfl), rfl, rfl⟩)
      · exact absurd hx (by rw [c38]; decide)
    · exact absurd (Int32.le_of_lt hx) c14

abbrev rm_X7_keeps : Room := { frames := 0, cells := 0, slots := 0, locals := 0 }
set_option maxRecDepth 100000 in
set_option maxHeartbeats 4000000 in
theorem c_X7_keeps {l : Launch} {G : gG} {n : Nat} {σ : gS} {m0 : Nat} {xstates xtyped xat xreason xdone xkind xn xstrength : Int32} {fs fwas fbegun faside ftext fsize fburnt fnext ffar fthen fqueue frankAt fturnAt : Nat → Int32}   : GM l G yX7_keeps cX7_keeps 2 none rm_X7_keeps n (mW G σ m0 [xstates, xtyped, xat, xreason, xdone, xkind, xn, xstrength] [fs, fwas, fbegun, faside, ftext, fsize, fburnt, fnext, ffar, fthen, fqueue, frankAt, fturnAt]) [.ref m0] (fun rv n2 σ2 => (none : Option Value) = rv ∧ n = n2 ∧ ∃ (g2 : Nat → Int32), (mW G σ m0 [xstates, xtyped, xat, xreason, xdone, xkind, xn, xstrength] [fs, fwas, g2, faside, ftext, fsize, fburnt, fnext, ffar, fthen, fqueue, frankAt, fturnAt]) = σ2 ∧ (∀ j, j < 38 → g2 j = fs j)) := by
  refine GM.intro (by decide +kernel) (Nat.le_of_ble_eq_true rfl) (fun p e s m args below meth c C hr hlocks hname po hpo => ?_)
  have C : Cx p s m args c cX7_keeps 2 RX7 G := C
  refine r_iconst (v := nI 0) C dX7_keeps_0 (by decide) ?_
  refine r_istore_n (lv2 := [(1, .int (nI 0)), (0, .ref m0)]) C dX7_keeps_1 rfl (by decide) rfl ?_
  have L2 : ∀ (fu : Nat) (i : Nat) (g : Nat → Int32), (i ≤ 38) → (∀ j, j < i → g j = fs j) → (39 - i) < fu → V p l e rm_X7_keeps s m args below meth c G 2 (MQ below (gQ G po) args s rm_X7_keeps.cells rm_X7_keeps.slots (gF G)) 0 0 n (mW G σ m0 [xstates, xtyped, xat, xreason, xdone, xkind, xn, xstrength] [fs, fwas, g, faside, ftext, fsize, fburnt, fnext, ffar, fthen, fqueue, frankAt, fturnAt]) 2 [(0, .ref m0), (1, .int (nI i))] [] := by
    intro fu
    induction fu with
    | zero => intro i g hi hg hm; exact absurd hm (Nat.not_lt_zero _)
    | succ fu ih2 =>
      intro i g hi hg hm2
      refine r_iload_n C dX7_keeps_2 rfl 1 rfl ?_
      refine r_bipush (v := nI 38) C dX7_keeps_3 (by decide) ?_
      refine r_icmp_geN (tgt := 26) C dX7_keeps_5 (by decide) (by omega) (by decide) (fun c5 => ?_) (fun c5 => ?_)
      · exact r_vret C hr hlocks (Nat.le_of_ble_eq_true rfl) (Nat.le_of_ble_eq_true rfl) dX7_keeps_26 (hpo _ _ _ ⟨rfl, rfl, g, rfl, fun j hj => hg j (by omega)⟩)
      · refine r_aload_n C dX7_keeps_8 rfl 0 rfl ?_
        refine rm_get (v := .ref (m0 + 3)) C 2 (by decide) wF_X7_16 rfl dX7_keeps_9 ?_
        refine r_iload_n C dX7_keeps_12 rfl 1 rfl ?_
        refine r_aload_n C dX7_keeps_13 rfl 0 rfl ?_
        refine rm_get (v := .ref (m0 + 1)) C 0 (by decide) wF_X7_7 rfl dX7_keeps_14 ?_
        refine r_iload_n C dX7_keeps_17 rfl 1 rfl ?_
        refine rm_ald (f := fs) (len := 38) C 0 rfl rfl (by decide) (by omega) dX7_keeps_18 ?_
        refine rm_ast (f := g) (len := 38) (A2 := [fs, fwas, (upd g i (fs i)), faside, ftext, fsize, fburnt, fnext, ffar, fthen, fqueue, frankAt, fturnAt]) C 2 rfl rfl (by decide) (by omega) rfl rfl dX7_keeps_19 ?_
        refine r_iinc (v := nI (i + 1)) (lv2 := [(1, .int (nI (i + 1))), (0, .ref m0)]) C dX7_keeps_20 (k := 1) rfl (nI_add _ 1) (by decide) rfl ?_
        refine r_goto (tgt := 2) C dX7_keeps_23 (by decide) ?_
        refine V.sub (lv2 := [(0, .ref m0), (1, .int (nI (i + 1)))]) [1, 0] rfl ?_
        exact ih2 (i + 1) (upd g i (fs i)) (by omega) (fun j hj => upd_step hj hg rfl) (by omega)
  refine V.sub (lv2 := [(0, .ref m0), (1, .int (nI 0))]) [1, 0] rfl ?_
  exact L2 _ 0 fbegun (by omega) (fun j hj => absurd hj (Nat.not_lt_zero j)) (Nat.lt_succ_self _)

abbrev rm_X7_acted_y : Room := { frames := 0, cells := 0, slots := 0, locals := 0 }
set_option maxRecDepth 100000 in
set_option maxHeartbeats 4000000 in
theorem c_X7_acted_y {l : Launch} {G : gG} {n : Nat} {σ : gS} {m0 : Nat} {xtyped xat xreason xdone xkind xn xstrength : Int32} {fs fwas fbegun faside ftext fsize fburnt fnext ffar fthen fqueue frankAt fturnAt : Nat → Int32} {v sc : Nat} (hv : v < 2 ^ 31) (hsc : sc ≤ 4) : GM l G yX7_acted cX7_acted 3 (some .int) rm_X7_acted_y n (mW G σ m0 [nI sc, xtyped, xat, xreason, xdone, xkind, xn, xstrength] [fs, fwas, fbegun, faside, ftext, fsize, fburnt, fnext, ffar, fthen, fqueue, frankAt, fturnAt]) [.ref m0, .int (nI v)] (fun rv n2 σ2 => some (.int (nI v)) = rv ∧ n = n2 ∧ ∃ (w2 : Nat → Int32) (s2 : Nat), (mW G σ m0 [nI (s2 + 1), xtyped, xat, xreason, xdone, xkind, xn, xstrength] [fs, w2, fbegun, faside, ftext, fsize, fburnt, fnext, ffar, fthen, fqueue, frankAt, fturnAt]) = σ2 ∧ (s2 ≤ 3) ∧ (∀ j, j < 38 → w2 (38 * s2 + j) = fbegun j) ∧ ((sc < 4 ∧ s2 = sc ∧ ∀ j, j < 38 * s2 → w2 j = fwas j) ∨ (sc = 4 ∧ s2 = 3 ∧ ∀ j, j < 114 → w2 j = fwas (j + 38)))) := by
  refine GM.intro (by decide +kernel) (Nat.le_of_ble_eq_true rfl) (fun p e s m args below meth c C hr hlocks hname po hpo => ?_)
  have C : Cx p s m args c cX7_acted 3 RX7 G := C
  refine r_iload_n C dX7_acted_0 rfl 1 rfl ?_
  refine r_ldc C wQ_X7_54 dX7_acted_1 ?_
  refine r_icmp_le (tgt := 97) C dX7_acted_3 (by decide) (fun c3 => ?_) (fun c3 => ?_)
  · exact absurd c3 (nI_big hv)
  · refine r_aload_n C dX7_acted_6 rfl 0 rfl ?_
    refine rm_get (v := .int (nI sc)) C 4 (by decide) wF_X7_55 rfl dX7_acted_7 ?_
    refine r_iconst (v := nI 4) C dX7_acted_10 (by decide) ?_
    have L53 : ∀ (sd2 : Nat) (w : Nat → Int32), (sd2 ≤ 3) → ((sc < 4 ∧ sd2 = sc ∧ ∀ j, j < 38 * sd2 → w j = fwas j) ∨ (sc = 4 ∧ sd2 = 3 ∧ ∀ j, j < 114 → w j = fwas (j + 38))) → V p l e rm_X7_acted_y s m args below meth c G 3 (MQ below (gQ G po) args s rm_X7_acted_y.cells rm_X7_acted_y.slots (gF G)) 0 0 n (mW G σ m0 [nI sd2, xtyped, xat, xreason, xdone, xkind, xn, xstrength] [fs, w, fbegun, faside, ftext, fsize, fburnt, fnext, ffar, fthen, fqueue, frankAt, fturnAt]) 53 [(0, .ref m0), (1, .int (nI v))] [] := by
      intro sd2 w hs2 hw
      refine r_iconst (v := nI 0) C dX7_acted_53 (by decide) ?_
      refine r_istore_n (lv2 := [(2, .int (nI 0)), (0, .ref m0), (1, .int (nI v))]) C dX7_acted_54 rfl (by decide) rfl ?_
      have L55 : ∀ (fu : Nat) (i : Nat) (w3 : Nat → Int32), (i ≤ 38) → (∀ j, j < i → w3 (38 * sd2 + j) = fbegun j) → (∀ j, j < 38 * sd2 → w3 j = w j) → (39 - i) < fu → V p l e rm_X7_acted_y s m args below meth c G 3 (MQ below (gQ G po) args s rm_X7_acted_y.cells rm_X7_acted_y.slots (gF G)) 0 0 n (mW G σ m0 [nI sd2, xtyped, xat, xreason, xdone, xkind, xn, xstrength] [fs, w3, fbegun, faside, ftext, fsize, fburnt, fnext, ffar, fthen, fqueue, frankAt, fturnAt]) 55 [(0, .ref m0), (1, .int (nI v)), (2, .int (nI i))] [] := by
        intro fu
        induction fu with
        | zero => intro i w3 hi hw3 hw4 hm; exact absurd hm (Nat.not_lt_zero _)
        | succ fu ih55 =>
          intro i w3 hi hw3 hw4 hm55
          refine r_iload_n C dX7_acted_55 rfl 2 rfl ?_
          refine r_bipush (v := nI 38) C dX7_acted_56 (by decide) ?_
          refine r_icmp_geN (tgt := 87) C dX7_acted_58 (by decide) (by omega) (by decide) (fun c58 => ?_) (fun c58 => ?_)
          · refine r_aload_n C dX7_acted_87 rfl 0 rfl ?_
            refine r_dup C dX7_acted_88 rfl ?_
            refine rm_get (v := .int (nI sd2)) C 4 (by decide) wF_X7_55 rfl dX7_acted_89 ?_
            refine r_iconst (v := nI 1) C dX7_acted_92 (by decide) ?_
            refine r_iaddN C dX7_acted_93 ?_
            refine rm_put (S2 := [nI (sd2 + 1), xtyped, xat, xreason, xdone, xkind, xn, xstrength]) C 4 (by decide) wF_X7_55 rfl rfl dX7_acted_94 ?_
            refine r_iload_n C dX7_acted_97 rfl 1 rfl ?_
            exact r_iret C hr hlocks (Nat.le_of_ble_eq_true rfl) (Nat.le_of_ble_eq_true rfl) dX7_acted_98 (hpo _ _ _ ⟨rfl, rfl, w3, sd2, rfl, hs2, fun j hj => hw3 j (by omega), hw.imp (fun z => ⟨z.1, z.2.1, fun j hj => (hw4 j hj).trans (z.2.2 j hj)⟩) (fun z => ⟨z.1, z.2.1, fun j hj => (hw4 j (by omega)).trans (z.2.2 j hj)⟩)⟩)
          · refine r_aload_n C dX7_acted_61 rfl 0 rfl ?_
            refine rm_get (v := .ref (m0 + 2)) C 1 (by decide) wF_X7_13 rfl dX7_acted_62 ?_
            refine r_bipush (v := nI 38) C dX7_acted_65 (by decide) ?_
            refine r_aload_n C dX7_acted_67 rfl 0 rfl ?_
            refine rm_get (v := .int (nI sd2)) C 4 (by decide) wF_X7_55 rfl dX7_acted_68 ?_
            refine r_imulN C dX7_acted_71 ?_
            refine r_iload_n C dX7_acted_72 rfl 2 rfl ?_
            refine r_iaddN C dX7_acted_73 ?_
            refine r_aload_n C dX7_acted_74 rfl 0 rfl ?_
            refine rm_get (v := .ref (m0 + 3)) C 2 (by decide) wF_X7_16 rfl dX7_acted_75 ?_
            refine r_iload_n C dX7_acted_78 rfl 2 rfl ?_
            refine rm_ald (f := fbegun) (len := 38) C 2 rfl rfl (by decide) (by omega) dX7_acted_79 ?_
            refine rm_ast (f := w3) (len := 152) (A2 := [fs, (upd w3 (38 * sd2 + i) (fbegun i)), fbegun, faside, ftext, fsize, fburnt, fnext, ffar, fthen, fqueue, frankAt, fturnAt]) C 1 rfl rfl (by decide) (by omega) rfl rfl dX7_acted_80 ?_
            refine r_iinc (v := nI (i + 1)) (lv2 := [(2, .int (nI (i + 1))), (0, .ref m0), (1, .int (nI v))]) C dX7_acted_81 (k := 2) rfl (nI_add _ 1) (by decide) rfl ?_
            refine r_goto (tgt := 55) C dX7_acted_84 (by decide) ?_
            refine V.sub (lv2 := [(0, .ref m0), (1, .int (nI v)), (2, .int (nI (i + 1)))]) [1, 2, 0] rfl ?_
            exact ih55 (i + 1) (upd w3 (38 * sd2 + i) (fbegun i)) (by omega) (fun j hj => by rcases Nat.lt_or_eq_of_le (Nat.le_of_lt_succ hj) with h | h; (rw [pk_un (by omega)]; exact hw3 j h); (rw [h, pk_us])) (fun j hj => by rw [pk_un (by omega)]; exact hw4 j hj) (by omega)
      refine V.sub (lv2 := [(0, .ref m0), (1, .int (nI v)), (2, .int (nI 0))]) [1, 2, 0] rfl ?_
      exact L55 _ 0 w (by omega) (fun j hj => absurd hj (Nat.not_lt_zero j)) (fun _ _ => rfl) (Nat.lt_succ_self _)
    refine r_icmp_neN (tgt := 53) C dX7_acted_11 (by decide) (by omega) (by decide) (fun c11 => ?_) (fun c11 => ?_)
    · exact L53 sc fwas (by omega) (Or.inl ⟨by omega, rfl, fun _ _ => rfl⟩)
    · refine r_iconst (v := nI 0) C dX7_acted_14 (by decide) ?_
      refine r_istore_n (lv2 := [(2, .int (nI 0)), (0, .ref m0), (1, .int (nI v))]) C dX7_acted_15 rfl (by decide) rfl ?_
      have L16 : ∀ (fu : Nat) (i : Nat) (w1 : Nat → Int32), (i ≤ 114) → (∀ j, j < i → w1 j = fwas (j + 38)) → (∀ j, i ≤ j → w1 j = fwas j) → (115 - i) < fu → V p l e rm_X7_acted_y s m args below meth c G 3 (MQ below (gQ G po) args s rm_X7_acted_y.cells rm_X7_acted_y.slots (gF G)) 0 0 n (mW G σ m0 [nI sc, xtyped, xat, xreason, xdone, xkind, xn, xstrength] [fs, w1, fbegun, faside, ftext, fsize, fburnt, fnext, ffar, fthen, fqueue, frankAt, fturnAt]) 16 [(0, .ref m0), (1, .int (nI v)), (2, .int (nI i))] [] := by
        intro fu
        induction fu with
        | zero => intro i w1 hi hw1 hw0 hm; exact absurd hm (Nat.not_lt_zero _)
        | succ fu ih16 =>
          intro i w1 hi hw1 hw0 hm16
          refine r_iload_n C dX7_acted_16 rfl 2 rfl ?_
          refine r_bipush (v := nI 114) C dX7_acted_17 (by decide) ?_
          refine r_icmp_geN (tgt := 43) C dX7_acted_19 (by decide) (by omega) (by decide) (fun c19 => ?_) (fun c19 => ?_)
          · refine r_aload_n C dX7_acted_43 rfl 0 rfl ?_
            refine r_dup C dX7_acted_44 rfl ?_
            refine rm_get (v := .int (nI sc)) C 4 (by decide) wF_X7_55 rfl dX7_acted_45 ?_
            refine r_iconst (v := nI 1) C dX7_acted_48 (by decide) ?_
            refine r_isubN C dX7_acted_49 (by omega) ?_
            refine rm_put (S2 := [nI (sc - 1), xtyped, xat, xreason, xdone, xkind, xn, xstrength]) C 4 (by decide) wF_X7_55 rfl rfl dX7_acted_50 ?_
            refine V.sub (lv2 := [(0, .ref m0), (1, .int (nI v))]) [0, 1] rfl ?_
            exact L53 (sc - 1) w1 (by omega) (Or.inr ⟨by omega, by omega, fun j hj => hw1 j (by omega)⟩)
          · refine r_aload_n C dX7_acted_22 rfl 0 rfl ?_
            refine rm_get (v := .ref (m0 + 2)) C 1 (by decide) wF_X7_13 rfl dX7_acted_23 ?_
            refine r_iload_n C dX7_acted_26 rfl 2 rfl ?_
            refine r_aload_n C dX7_acted_27 rfl 0 rfl ?_
            refine rm_get (v := .ref (m0 + 2)) C 1 (by decide) wF_X7_13 rfl dX7_acted_28 ?_
            refine r_iload_n C dX7_acted_31 rfl 2 rfl ?_
            refine r_bipush (v := nI 38) C dX7_acted_32 (by decide) ?_
            refine r_iaddN C dX7_acted_34 ?_
            refine rm_ald (f := w1) (len := 152) C 1 rfl rfl (by decide) (by omega) dX7_acted_35 ?_
            refine rm_ast (f := w1) (len := 152) (A2 := [fs, (upd w1 i (w1 (i + 38))), fbegun, faside, ftext, fsize, fburnt, fnext, ffar, fthen, fqueue, frankAt, fturnAt]) C 1 rfl rfl (by decide) (by omega) rfl rfl dX7_acted_36 ?_
            refine r_iinc (v := nI (i + 1)) (lv2 := [(2, .int (nI (i + 1))), (0, .ref m0), (1, .int (nI v))]) C dX7_acted_37 (k := 2) rfl (nI_add _ 1) (by decide) rfl ?_
            refine r_goto (tgt := 16) C dX7_acted_40 (by decide) ?_
            refine V.sub (lv2 := [(0, .ref m0), (1, .int (nI v)), (2, .int (nI (i + 1)))]) [1, 2, 0] rfl ?_
            exact ih16 (i + 1) (upd w1 i (w1 (i + 38))) (by omega) (fun j hj => upd_step hj hw1 (hw0 _ (by omega))) (fun j hj => by rw [pk_un (by omega)]; exact hw0 j (by omega)) (by omega)
      refine V.sub (lv2 := [(0, .ref m0), (1, .int (nI v)), (2, .int (nI 0))]) [1, 2, 0] rfl ?_
      exact L16 _ 0 fwas (by omega) (fun j hj => absurd hj (Nat.not_lt_zero j)) (fun _ _ => rfl) (Nat.lt_succ_self _)

abbrev rm_X7_acted_n : Room := { frames := 0, cells := 0, slots := 0, locals := 0 }
set_option maxRecDepth 100000 in
set_option maxHeartbeats 4000000 in
theorem c_X7_acted_n {l : Launch} {G : gG} {n : Nat} {σ : gS} {m0 : Nat} {xstates xtyped xat xreason xdone xkind xn xstrength : Int32} {fs fwas fbegun faside ftext fsize fburnt fnext ffar fthen fqueue frankAt fturnAt : Nat → Int32} {x : Int32} (hx : x ≤ -1000001) : GM l G yX7_acted cX7_acted 3 (some .int) rm_X7_acted_n n (mW G σ m0 [xstates, xtyped, xat, xreason, xdone, xkind, xn, xstrength] [fs, fwas, fbegun, faside, ftext, fsize, fburnt, fnext, ffar, fthen, fqueue, frankAt, fturnAt]) [.ref m0, .int x] (fun rv n2 σ2 => some (.int x) = rv ∧ n = n2 ∧ (mW G σ m0 [xstates, xtyped, xat, xreason, xdone, xkind, xn, xstrength] [fs, fwas, fbegun, faside, ftext, fsize, fburnt, fnext, ffar, fthen, fqueue, frankAt, fturnAt]) = σ2) := by
  refine GM.intro (by decide +kernel) (Nat.le_of_ble_eq_true rfl) (fun p e s m args below meth c C hr hlocks hname po hpo => ?_)
  have C : Cx p s m args c cX7_acted 3 RX7 G := C
  refine r_iload_n C dX7_acted_0 rfl 1 rfl ?_
  refine r_ldc C wQ_X7_54 dX7_acted_1 ?_
  refine r_icmp_le (tgt := 97) C dX7_acted_3 (by decide) (fun c3 => ?_) (fun c3 => ?_)
  · refine r_iload_n C dX7_acted_97 rfl 1 rfl ?_
    exact r_iret C hr hlocks (Nat.le_of_ble_eq_true rfl) (Nat.le_of_ble_eq_true rfl) dX7_acted_98 (hpo _ _ _ ⟨rfl, rfl, rfl⟩)
  · exact absurd hx c3

abbrev rm_X7_looks : Room := { frames := 1, cells := 0, slots := 0, locals := 24 }
set_option maxRecDepth 100000 in
set_option maxHeartbeats 4000000 in
theorem c_X7_looks {l : Launch} {G : gG} {n : Nat} {σ : gS} {m0 : Nat} {xstates xtyped xat xreason xdone xkind xn xstrength : Int32} {fs fwas fbegun faside ftext fsize fburnt fnext ffar fthen fqueue frankAt fturnAt : Nat → Int32} {k kd N sr o sd : Nat} (hk : k < 5) (hst : StkAt fs k kd N sr o sd) (hv : Vld kd N sr o sd) : GM l G yX7_looks cX7_looks 2 none rm_X7_looks n (mW G σ m0 [xstates, xtyped, xat, xreason, xdone, xkind, xn, xstrength] [fs, fwas, fbegun, faside, ftext, fsize, fburnt, fnext, ffar, fthen, fqueue, frankAt, fturnAt]) [.ref m0, .int (nI k)] (fun rv n2 σ2 => (none : Option Value) = rv ∧ n = n2 ∧ ∃ (f2 : Nat → Int32) (g2 : Nat → Int32), (mW G σ m0 [xstates, xtyped, xat, xreason, xdone, nI kd, nI N, nI sr] [fs, fwas, fbegun, faside, ftext, f2, g2, fnext, ffar, fthen, fqueue, frankAt, fturnAt]) = σ2 ∧ (∀ j, j < N → f2 j = nI (sz N o j)) ∧ (∀ j, j < N → g2 j = nI (bt sd j))) := by
  refine GM.intro (by decide +kernel) (Nat.le_of_ble_eq_true rfl) (fun p e s m args below meth c C hr hlocks hname po hpo => ?_)
  have C : Cx p s m args c cX7_looks 2 RX7 G := C
  refine r_aload_n C dX7_looks_0 rfl 0 rfl ?_
  refine r_aload_n C dX7_looks_1 rfl 0 rfl ?_
  refine r_iload_n C dX7_looks_2 rfl 1 rfl ?_
  refine r_iconst (v := nI 0) C dX7_looks_3 (by decide) ?_
  refine r_callV (As := [.int (nI k), .int (nI 0)]) C (c_X7_st (k := k) (w := 0) (by first | assumption | omega)) wM_X7_62 wI_X7_st wN_X7 wC_X7_st wV_X7_st hd_X7_st ⟨Nat.le_of_ble_eq_true rfl, Nat.le_of_ble_eq_true rfl⟩ rfl (mW_o _ _ _ _ _) rfl rfl (Nat.le_of_ble_eq_true rfl) dX7_looks_4 ⟨Nat.le_of_ble_eq_true rfl, Nat.le_of_ble_eq_true rfl⟩ (fun rv n2 σ2 hp => ?_)
  obtain ⟨rfl, rfl, rfl⟩ := hp
  refine V.eq (σ2 := (mW G σ m0 [xstates, xtyped, xat, xreason, xdone, xkind, xn, xstrength] [fs, fwas, fbegun, faside, ftext, fsize, fburnt, fnext, ffar, fthen, fqueue, frankAt, fturnAt])) (n2 := n) (st2 := [.int (fs (8 + 6 * k + 0)), .ref m0]) rfl rfl rfl rfl ?_
  refine V.top (y := nI kd) (hst.1) ?_
  refine rm_put (S2 := [xstates, xtyped, xat, xreason, xdone, nI kd, xn, xstrength]) C 10 (by decide) wF_X7_66 rfl rfl dX7_looks_7 ?_
  refine r_aload_n C dX7_looks_10 rfl 0 rfl ?_
  refine r_aload_n C dX7_looks_11 rfl 0 rfl ?_
  refine r_iload_n C dX7_looks_12 rfl 1 rfl ?_
  refine r_iconst (v := nI 1) C dX7_looks_13 (by decide) ?_
  refine r_callV (As := [.int (nI k), .int (nI 1)]) C (c_X7_st (k := k) (w := 1) (by first | assumption | omega)) wM_X7_62 wI_X7_st wN_X7 wC_X7_st wV_X7_st hd_X7_st ⟨Nat.le_of_ble_eq_true rfl, Nat.le_of_ble_eq_true rfl⟩ rfl (mW_o _ _ _ _ _) rfl rfl (Nat.le_of_ble_eq_true rfl) dX7_looks_14 ⟨Nat.le_of_ble_eq_true rfl, Nat.le_of_ble_eq_true rfl⟩ (fun rv n2 σ2 hp => ?_)
  obtain ⟨rfl, rfl, rfl⟩ := hp
  refine V.eq (σ2 := (mW G σ m0 [xstates, xtyped, xat, xreason, xdone, nI kd, xn, xstrength] [fs, fwas, fbegun, faside, ftext, fsize, fburnt, fnext, ffar, fthen, fqueue, frankAt, fturnAt])) (n2 := n) (st2 := [.int (fs (8 + 6 * k + 1)), .ref m0]) rfl rfl rfl rfl ?_
  refine V.top (y := nI N) (hst.2.1) ?_
  refine rm_put (S2 := [xstates, xtyped, xat, xreason, xdone, nI kd, nI N, xstrength]) C 11 (by decide) wF_X7_59 rfl rfl dX7_looks_17 ?_
  refine r_aload_n C dX7_looks_20 rfl 0 rfl ?_
  refine r_aload_n C dX7_looks_21 rfl 0 rfl ?_
  refine r_iload_n C dX7_looks_22 rfl 1 rfl ?_
  refine r_iconst (v := nI 2) C dX7_looks_23 (by decide) ?_
  refine r_callV (As := [.int (nI k), .int (nI 2)]) C (c_X7_st (k := k) (w := 2) (by first | assumption | omega)) wM_X7_62 wI_X7_st wN_X7 wC_X7_st wV_X7_st hd_X7_st ⟨Nat.le_of_ble_eq_true rfl, Nat.le_of_ble_eq_true rfl⟩ rfl (mW_o _ _ _ _ _) rfl rfl (Nat.le_of_ble_eq_true rfl) dX7_looks_24 ⟨Nat.le_of_ble_eq_true rfl, Nat.le_of_ble_eq_true rfl⟩ (fun rv n2 σ2 hp => ?_)
  obtain ⟨rfl, rfl, rfl⟩ := hp
  refine V.eq (σ2 := (mW G σ m0 [xstates, xtyped, xat, xreason, xdone, nI kd, nI N, xstrength] [fs, fwas, fbegun, faside, ftext, fsize, fburnt, fnext, ffar, fthen, fqueue, frankAt, fturnAt])) (n2 := n) (st2 := [.int (fs (8 + 6 * k + 2)), .ref m0]) rfl rfl rfl rfl ?_
  refine V.top (y := nI sr) (hst.2.2.1) ?_
  refine rm_put (S2 := [xstates, xtyped, xat, xreason, xdone, nI kd, nI N, nI sr]) C 12 (by decide) wF_X7_69 rfl rfl dX7_looks_27 ?_
  refine r_aload_n C dX7_looks_30 rfl 0 rfl ?_
  refine r_aload_n C dX7_looks_31 rfl 0 rfl ?_
  refine r_iload_n C dX7_looks_32 rfl 1 rfl ?_
  refine r_iconst (v := nI 3) C dX7_looks_33 (by decide) ?_
  refine r_callV (As := [.int (nI k), .int (nI 3)]) C (c_X7_st (k := k) (w := 3) (by first | assumption | omega)) wM_X7_62 wI_X7_st wN_X7 wC_X7_st wV_X7_st hd_X7_st ⟨Nat.le_of_ble_eq_true rfl, Nat.le_of_ble_eq_true rfl⟩ rfl (mW_o _ _ _ _ _) rfl rfl (Nat.le_of_ble_eq_true rfl) dX7_looks_34 ⟨Nat.le_of_ble_eq_true rfl, Nat.le_of_ble_eq_true rfl⟩ (fun rv n2 σ2 hp => ?_)
  obtain ⟨rfl, rfl, rfl⟩ := hp
  refine V.eq (σ2 := (mW G σ m0 [xstates, xtyped, xat, xreason, xdone, nI kd, nI N, nI sr] [fs, fwas, fbegun, faside, ftext, fsize, fburnt, fnext, ffar, fthen, fqueue, frankAt, fturnAt])) (n2 := n) (st2 := [.int (fs (8 + 6 * k + 3)), .ref m0]) rfl rfl rfl rfl ?_
  refine V.top (y := nI (cd N o)) (hst.2.2.2.1) ?_
  refine r_aload_n C dX7_looks_37 rfl 0 rfl ?_
  refine r_iload_n C dX7_looks_38 rfl 1 rfl ?_
  refine r_iconst (v := nI 4) C dX7_looks_39 (by decide) ?_
  refine r_callV (As := [.int (nI k), .int (nI 4)]) C (c_X7_st (k := k) (w := 4) (by first | assumption | omega)) wM_X7_62 wI_X7_st wN_X7 wC_X7_st wV_X7_st hd_X7_st ⟨Nat.le_of_ble_eq_true rfl, Nat.le_of_ble_eq_true rfl⟩ rfl (mW_o _ _ _ _ _) rfl rfl (Nat.le_of_ble_eq_true rfl) dX7_looks_40 ⟨Nat.le_of_ble_eq_true rfl, Nat.le_of_ble_eq_true rfl⟩ (fun rv n2 σ2 hp => ?_)
  obtain ⟨rfl, rfl, rfl⟩ := hp
  refine V.eq (σ2 := (mW G σ m0 [xstates, xtyped, xat, xreason, xdone, nI kd, nI N, nI sr] [fs, fwas, fbegun, faside, ftext, fsize, fburnt, fnext, ffar, fthen, fqueue, frankAt, fturnAt])) (n2 := n) (st2 := [.int (fs (8 + 6 * k + 4)), .int (nI (cd N o)), .ref m0]) rfl rfl rfl rfl ?_
  refine V.top (y := nI sd) (hst.2.2.2.2) ?_
  refine r_callV (As := [.int (nI (cd N o)), .int (nI sd)]) C (c_X7_lays (N := N) (cw := cd N o) (sw := sd) (hv.1.N) (hv.1.2.1) (by have := cd_lt hv.1.N hv.2.1; omega) (by have := sm_le (sb := sid kd) hv.1.N; have := hv.2.2; omega)) wM_X7_72 wI_X7_lays wN_X7 wC_X7_lays wV_X7_lays hd_X7_lays ⟨Nat.le_of_ble_eq_true rfl, Nat.le_of_ble_eq_true rfl⟩ rfl (mW_o _ _ _ _ _) rfl rfl (Nat.le_of_ble_eq_true rfl) dX7_looks_43 ⟨Nat.le_of_ble_eq_true rfl, Nat.le_of_ble_eq_true rfl⟩ (fun rv n2 σ2 hp => ?_)
  obtain ⟨rfl, rfl, fL, gL, rfl, hzL, hbL⟩ := hp
  refine V.eq (σ2 := (mW G σ m0 [xstates, xtyped, xat, xreason, xdone, nI kd, nI N, nI sr] [fs, fwas, fbegun, faside, ftext, fL, gL, fnext, ffar, fthen, fqueue, frankAt, fturnAt])) (n2 := n) (st2 := []) rfl rfl rfl rfl ?_
  exact r_vret C hr hlocks (Nat.le_of_ble_eq_true rfl) (Nat.le_of_ble_eq_true rfl) dX7_looks_46 (hpo _ _ _ ⟨rfl, rfl, fL, gL, rfl, fun j hj => by rw [hzL j hj, cd_dig hv.1.N hv.2.1 hj], hbL⟩)

abbrev rm_X7_turnsOne : Room := { frames := 3, cells := 0, slots := 0, locals := 65 }
set_option maxRecDepth 100000 in
set_option maxHeartbeats 4000000 in
theorem c_X7_turnsOne {l : Launch} {G : gG} {n : Nat} {σ : gS} {m0 : Nat} {xstates xtyped xat xreason xdone xkind xn xstrength : Int32} {fs fwas fbegun faside ftext fsize fburnt fnext ffar fthen fqueue frankAt fturnAt : Nat → Int32} {k kd N sr o sd h w : Nat} (hk : k < 5) (hst : StkAt fs k kd N sr o sd) (hv : Vld kd N sr o sd) (hh : fs 1 = nI h) (hh3 : h < 3) (hw : w < 10) : GM l G yX7_turnsOne cX7_turnsOne 3 (some .int) rm_X7_turnsOne n (mW G σ m0 [xstates, xtyped, xat, xreason, xdone, xkind, xn, xstrength] [fs, fwas, fbegun, faside, ftext, fsize, fburnt, fnext, ffar, fthen, fqueue, frankAt, fturnAt]) [.ref m0, .int (nI k), .int (nI w)] (fun rv n2 σ2 => some (.int (tr1 kd sr N o sd w)) = rv ∧ n = n2 ∧ ∃ (f2 : Nat → Int32) (g2 : Nat → Int32), (mW G σ m0 [xstates, xtyped, xat, xreason, xdone, nI kd, nI N, nI sr] [(ts1 fs k kd sr N o sd w h), fwas, fbegun, faside, ftext, f2, g2, fnext, ffar, fthen, fqueue, frankAt, fturnAt]) = σ2) := by
  refine GM.intro (by decide +kernel) (Nat.le_of_ble_eq_true rfl) (fun p e s m args below meth c C hr hlocks hname po hpo => ?_)
  have C : Cx p s m args c cX7_turnsOne 3 RX7 G := C
  have hN6 := hv.1.N
  refine r_aload_n C dX7_turnsOne_0 rfl 0 rfl ?_
  refine r_iload_n C dX7_turnsOne_1 rfl 1 rfl ?_
  refine r_callV (As := [.int (nI k)]) C (c_X7_looks (k := k) (kd := kd) (N := N) (sr := sr) (o := o) (sd := sd) (by first | assumption | omega) (by first | assumption | omega) (by first | assumption | omega)) wM_X7_105 wI_X7_looks wN_X7 wC_X7_looks wV_X7_looks hd_X7_looks ⟨Nat.le_of_ble_eq_true rfl, Nat.le_of_ble_eq_true rfl⟩ rfl (mW_o _ _ _ _ _) rfl rfl (Nat.le_of_ble_eq_true rfl) dX7_turnsOne_2 ⟨Nat.le_of_ble_eq_true rfl, Nat.le_of_ble_eq_true rfl⟩ (fun rv n2 σ2 hp => ?_)
  obtain ⟨rfl, rfl, fL, gL, rfl, hzL, hbL⟩ := hp
  refine V.eq (σ2 := (mW G σ m0 [xstates, xtyped, xat, xreason, xdone, nI kd, nI N, nI sr] [fs, fwas, fbegun, faside, ftext, fL, gL, fnext, ffar, fthen, fqueue, frankAt, fturnAt])) (n2 := n) (st2 := []) rfl rfl rfl rfl ?_
  refine r_iload_n C dX7_turnsOne_5 rfl 2 rfl ?_
  refine r_iconst (v := nI 1) C dX7_turnsOne_6 (by decide) ?_
  refine r_aload_n C dX7_turnsOne_7 rfl 0 rfl ?_
  refine rm_get (v := .int (nI N)) C 11 (by decide) wF_X7_59 rfl dX7_turnsOne_8 ?_
  refine r_callS (As := [.int (nI w), .int (nI 1), .int (nI N)]) C (c_X7_in (v := nI w) (low := nI 1) (high := nI N) ) wM_X7_50 wS_X7_in wN_X7 wC_X7_in hd_X7_in ⟨Nat.le_of_ble_eq_true rfl, Nat.le_of_ble_eq_true rfl⟩ rfl rfl (Nat.le_of_ble_eq_true rfl) dX7_turnsOne_11 ⟨Nat.le_of_ble_eq_true rfl, Nat.le_of_ble_eq_true rfl⟩ (fun rv n2 σ2 hp => ?_)
  obtain ⟨rfl, rfl, rfl⟩ := hp
  refine V.eq (σ2 := (mW G σ m0 [xstates, xtyped, xat, xreason, xdone, nI kd, nI N, nI sr] [fs, fwas, fbegun, faside, ftext, fL, gL, fnext, ffar, fthen, fqueue, frankAt, fturnAt])) (n2 := n) (st2 := [.int (bI (decide ((nI 1) ≤ (nI w) ∧ (nI w) ≤ (nI N))))]) rfl rfl rfl rfl ?_
  refine V.top (y := bI (decide (1 ≤ w ∧ w ≤ N))) (congrArg bI (in_dec (by omega) (by omega) (by omega))) ?_
  refine r_if_eqB (tgt := 25) C dX7_turnsOne_14 (by decide) (fun c14 => ?_) (fun c14 => ?_)
  · have hok : okT kd sr N o sd w = false := by rw [okT, c14]; rfl
    refine r_ldc C wQ_X7_115 dX7_turnsOne_25 ?_
    exact r_iret C hr hlocks (Nat.le_of_ble_eq_true rfl) (Nat.le_of_ble_eq_true rfl) dX7_turnsOne_27 (hpo _ _ _ ⟨by rw [tr1, hok]; rfl, rfl, fL, gL, by rw [ts1, hok]; rfl⟩)
  · have hw1 := of_decide_eq_true c14
    refine r_aload_n C dX7_turnsOne_17 rfl 0 rfl ?_
    refine r_iload_n C dX7_turnsOne_18 rfl 2 rfl ?_
    refine r_callV (As := [.int (nI w)]) C (c_X7_can (kd := kd) (N := N) (o := o) (sd := sd) (sr := sr) (k := w) (hv.1.N) (hv.1.2.1) (hv.2.1) (hzL) (hbL) (hv.1.1) (hv.1.sr) (by first | assumption | omega) (by first | assumption | omega)) wM_X7_112 wI_X7_can wN_X7 wC_X7_can wV_X7_can hd_X7_can ⟨Nat.le_of_ble_eq_true rfl, Nat.le_of_ble_eq_true rfl⟩ rfl (mW_o _ _ _ _ _) rfl rfl (Nat.le_of_ble_eq_true rfl) dX7_turnsOne_19 ⟨Nat.le_of_ble_eq_true rfl, Nat.le_of_ble_eq_true rfl⟩ (fun rv n2 σ2 hp => ?_)
    obtain ⟨rfl, rfl, rfl⟩ := hp
    refine V.eq (σ2 := (mW G σ m0 [xstates, xtyped, xat, xreason, xdone, nI kd, nI N, nI sr] [fs, fwas, fbegun, faside, ftext, fL, gL, fnext, ffar, fthen, fqueue, frankAt, fturnAt])) (n2 := n) (st2 := [.int (bI (al kd sr N o sd w))]) rfl rfl rfl rfl ?_
    refine r_if_neB (tgt := 28) C dX7_turnsOne_22 (by decide) (fun c22 => ?_) (fun c22 => ?_)
    · have hok : okT kd sr N o sd w = true := by rw [okT, c14, c22]; rfl
      refine r_aload_n C dX7_turnsOne_28 rfl 0 rfl ?_
      refine r_iload_n C dX7_turnsOne_29 rfl 2 rfl ?_
      refine r_callV (As := [.int (nI w)]) C (c_X7_turns (kd := kd) (N := N) (o := o) (sd := sd) (k := w) (hv.1.N) (hv.1.2.1) (hv.2.1) (hzL) (hbL) (hv.1.1) (hv.2.2) (by first | assumption | omega) (by first | assumption | omega)) wM_X7_116 wI_X7_turns wN_X7 wC_X7_turns wV_X7_turns hd_X7_turns ⟨Nat.le_of_ble_eq_true rfl, Nat.le_of_ble_eq_true rfl⟩ rfl (mW_o _ _ _ _ _) rfl rfl (Nat.le_of_ble_eq_true rfl) dX7_turnsOne_30 ⟨Nat.le_of_ble_eq_true rfl, Nat.le_of_ble_eq_true rfl⟩ (fun rv n2 σ2 hp => ?_)
      obtain ⟨rfl, rfl, fT, gT, rfl, hzT, hbT⟩ := hp
      refine V.eq (σ2 := (mW G σ m0 [xstates, xtyped, xat, xreason, xdone, nI kd, nI N, nI sr] [fs, fwas, fbegun, faside, ftext, fT, gT, fnext, ffar, fthen, fqueue, frankAt, fturnAt])) (n2 := n) (st2 := []) rfl rfl rfl rfl ?_
      refine r_aload_n C dX7_turnsOne_33 rfl 0 rfl ?_
      refine rm_get (v := .ref (m0 + 1)) C 0 (by decide) wF_X7_7 rfl dX7_turnsOne_34 ?_
      refine r_bipush (v := nI 8) C dX7_turnsOne_37 (by decide) ?_
      refine r_bipush (v := nI 6) C dX7_turnsOne_39 (by decide) ?_
      refine r_iload_n C dX7_turnsOne_41 rfl 1 rfl ?_
      refine r_imulN C dX7_turnsOne_42 ?_
      refine r_iaddN C dX7_turnsOne_43 ?_
      refine r_iconst (v := nI 3) C dX7_turnsOne_44 (by decide) ?_
      refine r_iaddN C dX7_turnsOne_45 ?_
      refine r_aload_n C dX7_turnsOne_46 rfl 0 rfl ?_
      refine r_callV (As := []) C (c_X7_code (N := N) (o := tnO N o w) (hv.1.N) (hv.1.2.1) (tnO_lt hv.1.N hv.2.1 hw1.2) (hzT)) wM_X7_119 wI_X7_code wN_X7 wC_X7_code wV_X7_code hd_X7_code ⟨Nat.le_of_ble_eq_true rfl, Nat.le_of_ble_eq_true rfl⟩ rfl (mW_o _ _ _ _ _) rfl rfl (Nat.le_of_ble_eq_true rfl) dX7_turnsOne_47 ⟨Nat.le_of_ble_eq_true rfl, Nat.le_of_ble_eq_true rfl⟩ (fun rv n2 σ2 hp => ?_)
      obtain ⟨rfl, rfl, rfl⟩ := hp
      refine V.eq (σ2 := (mW G σ m0 [xstates, xtyped, xat, xreason, xdone, nI kd, nI N, nI sr] [fs, fwas, fbegun, faside, ftext, fT, gT, fnext, ffar, fthen, fqueue, frankAt, fturnAt])) (n2 := n) (st2 := [.int (nI (cd N (tnO N o w))), .int (nI ((8 + (6 * k)) + 3)), .ref (m0 + 1)]) rfl rfl rfl rfl ?_
      refine rm_ast (f := fs) (len := 38) (A2 := [(upd fs ((8 + (6 * k)) + 3) (nI (cd N (tnO N o w)))), fwas, fbegun, faside, ftext, fT, gT, fnext, ffar, fthen, fqueue, frankAt, fturnAt]) C 0 rfl rfl (by decide) (by omega) rfl rfl dX7_turnsOne_50 ?_
      refine r_aload_n C dX7_turnsOne_51 rfl 0 rfl ?_
      refine rm_get (v := .ref (m0 + 1)) C 0 (by decide) wF_X7_7 rfl dX7_turnsOne_52 ?_
      refine r_bipush (v := nI 8) C dX7_turnsOne_55 (by decide) ?_
      refine r_bipush (v := nI 6) C dX7_turnsOne_57 (by decide) ?_
      refine r_iload_n C dX7_turnsOne_59 rfl 1 rfl ?_
      refine r_imulN C dX7_turnsOne_60 ?_
      refine r_iaddN C dX7_turnsOne_61 ?_
      refine r_iconst (v := nI 4) C dX7_turnsOne_62 (by decide) ?_
      refine r_iaddN C dX7_turnsOne_63 ?_
      refine r_aload_n C dX7_turnsOne_64 rfl 0 rfl ?_
      refine r_callV (As := []) C (c_X7_sides (N := N) (sd := tnS (sid kd) sd w) (hv.1.N) (sm_two (tnS_lt hv.1.N hv.2.2 hw1.2)) (hbT)) wM_X7_87 wI_X7_sides wN_X7 wC_X7_sides wV_X7_sides hd_X7_sides ⟨Nat.le_of_ble_eq_true rfl, Nat.le_of_ble_eq_true rfl⟩ rfl (mW_o _ _ _ _ _) rfl rfl (Nat.le_of_ble_eq_true rfl) dX7_turnsOne_65 ⟨Nat.le_of_ble_eq_true rfl, Nat.le_of_ble_eq_true rfl⟩ (fun rv n2 σ2 hp => ?_)
      obtain ⟨rfl, rfl, rfl⟩ := hp
      refine V.eq (σ2 := (mW G σ m0 [xstates, xtyped, xat, xreason, xdone, nI kd, nI N, nI sr] [(upd fs ((8 + (6 * k)) + 3) (nI (cd N (tnO N o w)))), fwas, fbegun, faside, ftext, fT, gT, fnext, ffar, fthen, fqueue, frankAt, fturnAt])) (n2 := n) (st2 := [.int (nI (tnS (sid kd) sd w)), .int (nI ((8 + (6 * k)) + 4)), .ref (m0 + 1)]) rfl rfl rfl rfl ?_
      refine rm_ast (f := (upd fs ((8 + (6 * k)) + 3) (nI (cd N (tnO N o w))))) (len := 38) (A2 := [(upd (upd fs ((8 + (6 * k)) + 3) (nI (cd N (tnO N o w)))) ((8 + (6 * k)) + 4) (nI (tnS (sid kd) sd w))), fwas, fbegun, faside, ftext, fT, gT, fnext, ffar, fthen, fqueue, frankAt, fturnAt]) C 0 rfl rfl (by decide) (by omega) rfl rfl dX7_turnsOne_68 ?_
      refine r_aload_n C dX7_turnsOne_69 rfl 0 rfl ?_
      refine rm_get (v := .ref (m0 + 1)) C 0 (by decide) wF_X7_7 rfl dX7_turnsOne_70 ?_
      refine r_bipush (v := nI 8) C dX7_turnsOne_73 (by decide) ?_
      refine r_bipush (v := nI 6) C dX7_turnsOne_75 (by decide) ?_
      refine r_iload_n C dX7_turnsOne_77 rfl 1 rfl ?_
      refine r_imulN C dX7_turnsOne_78 ?_
      refine r_iaddN C dX7_turnsOne_79 ?_
      refine r_iconst (v := nI 5) C dX7_turnsOne_80 (by decide) ?_
      refine r_iaddN C dX7_turnsOne_81 ?_
      refine r_dup2 C dX7_turnsOne_82 rfl rfl ?_
      refine rm_ald (f := (upd (upd fs ((8 + (6 * k)) + 3) (nI (cd N (tnO N o w)))) ((8 + (6 * k)) + 4) (nI (tnS (sid kd) sd w)))) (len := 38) C 0 rfl rfl (by decide) (by omega) dX7_turnsOne_83 ?_
      refine V.top (y := fs (8 + 6 * k + 5)) (by rw [pk_un (by omega), pk_un (by omega)]) ?_
      refine r_iconst (v := nI 1) C dX7_turnsOne_84 (by decide) ?_
      refine r_iadd C dX7_turnsOne_85 ?_
      refine rm_ast (f := (upd (upd fs ((8 + (6 * k)) + 3) (nI (cd N (tnO N o w)))) ((8 + (6 * k)) + 4) (nI (tnS (sid kd) sd w)))) (len := 38) (A2 := [(upd (upd (upd fs ((8 + (6 * k)) + 3) (nI (cd N (tnO N o w)))) ((8 + (6 * k)) + 4) (nI (tnS (sid kd) sd w))) ((8 + (6 * k)) + 5) ((fs (8 + 6 * k + 5)) + (nI 1))), fwas, fbegun, faside, ftext, fT, gT, fnext, ffar, fthen, fqueue, frankAt, fturnAt]) C 0 rfl rfl (by decide) (by omega) rfl rfl dX7_turnsOne_86 ?_
      refine r_aload_n C dX7_turnsOne_87 rfl 0 rfl ?_
      refine rm_get (v := .ref (m0 + 1)) C 0 (by decide) wF_X7_7 rfl dX7_turnsOne_88 ?_
      refine r_iconst (v := nI 2) C dX7_turnsOne_91 (by decide) ?_
      refine r_aload_n C dX7_turnsOne_92 rfl 0 rfl ?_
      refine rm_get (v := .ref (m0 + 1)) C 0 (by decide) wF_X7_7 rfl dX7_turnsOne_93 ?_
      refine r_iconst (v := nI 1) C dX7_turnsOne_96 (by decide) ?_
      refine rm_ald (f := (upd (upd (upd fs ((8 + (6 * k)) + 3) (nI (cd N (tnO N o w)))) ((8 + (6 * k)) + 4) (nI (tnS (sid kd) sd w))) ((8 + (6 * k)) + 5) ((fs (8 + 6 * k + 5)) + (nI 1)))) (len := 38) C 0 rfl rfl (by decide) (by decide) dX7_turnsOne_97 ?_
      refine V.top (y := nI h) (by rw [pk_un (by omega), pk_un (by omega), pk_un (by omega)]; exact hh) ?_
      refine r_iaddN C dX7_turnsOne_98 ?_
      refine r_dup2 C dX7_turnsOne_99 rfl rfl ?_
      refine rm_ald (f := (upd (upd (upd fs ((8 + (6 * k)) + 3) (nI (cd N (tnO N o w)))) ((8 + (6 * k)) + 4) (nI (tnS (sid kd) sd w))) ((8 + (6 * k)) + 5) ((fs (8 + 6 * k + 5)) + (nI 1)))) (len := 38) C 0 rfl rfl (by decide) (by omega) dX7_turnsOne_100 ?_
      refine V.top (y := fs (2 + h)) (by rw [pk_un (by omega), pk_un (by omega), pk_un (by omega)]) ?_
      refine r_iconst (v := nI 1) C dX7_turnsOne_101 (by decide) ?_
      refine r_iadd C dX7_turnsOne_102 ?_
      refine rm_ast (f := (upd (upd (upd fs ((8 + (6 * k)) + 3) (nI (cd N (tnO N o w)))) ((8 + (6 * k)) + 4) (nI (tnS (sid kd) sd w))) ((8 + (6 * k)) + 5) ((fs (8 + 6 * k + 5)) + (nI 1)))) (len := 38) (A2 := [(upd (upd (upd (upd fs ((8 + (6 * k)) + 3) (nI (cd N (tnO N o w)))) ((8 + (6 * k)) + 4) (nI (tnS (sid kd) sd w))) ((8 + (6 * k)) + 5) ((fs (8 + 6 * k + 5)) + (nI 1))) (2 + h) ((fs (2 + h)) + (nI 1))), fwas, fbegun, faside, ftext, fT, gT, fnext, ffar, fthen, fqueue, frankAt, fturnAt]) C 0 rfl rfl (by decide) (by omega) rfl rfl dX7_turnsOne_103 ?_
      refine r_aload_n C dX7_turnsOne_104 rfl 0 rfl ?_
      refine rm_get (v := .ref (m0 + 1)) C 0 (by decide) wF_X7_7 rfl dX7_turnsOne_105 ?_
      refine r_iconst (v := nI 5) C dX7_turnsOne_108 (by decide) ?_
      refine r_aload_n C dX7_turnsOne_109 rfl 0 rfl ?_
      refine rm_get (v := .ref (m0 + 1)) C 0 (by decide) wF_X7_7 rfl dX7_turnsOne_110 ?_
      refine r_iconst (v := nI 1) C dX7_turnsOne_113 (by decide) ?_
      refine rm_ald (f := (upd (upd (upd (upd fs ((8 + (6 * k)) + 3) (nI (cd N (tnO N o w)))) ((8 + (6 * k)) + 4) (nI (tnS (sid kd) sd w))) ((8 + (6 * k)) + 5) ((fs (8 + 6 * k + 5)) + (nI 1))) (2 + h) ((fs (2 + h)) + (nI 1)))) (len := 38) C 0 rfl rfl (by decide) (by decide) dX7_turnsOne_114 ?_
      refine V.top (y := nI h) (by rw [pk_un (by omega), pk_un (by omega), pk_un (by omega), pk_un (by omega)]; exact hh) ?_
      refine r_iaddN C dX7_turnsOne_115 ?_
      refine r_dup2 C dX7_turnsOne_116 rfl rfl ?_
      refine rm_ald (f := (upd (upd (upd (upd fs ((8 + (6 * k)) + 3) (nI (cd N (tnO N o w)))) ((8 + (6 * k)) + 4) (nI (tnS (sid kd) sd w))) ((8 + (6 * k)) + 5) ((fs (8 + 6 * k + 5)) + (nI 1))) (2 + h) ((fs (2 + h)) + (nI 1)))) (len := 38) C 0 rfl rfl (by decide) (by omega) dX7_turnsOne_117 ?_
      refine V.top (y := fs (5 + h)) (by rw [pk_un (by omega), pk_un (by omega), pk_un (by omega), pk_un (by omega)]) ?_
      refine r_iload_n C dX7_turnsOne_118 rfl 2 rfl ?_
      refine r_iadd C dX7_turnsOne_119 ?_
      refine rm_ast (f := (upd (upd (upd (upd fs ((8 + (6 * k)) + 3) (nI (cd N (tnO N o w)))) ((8 + (6 * k)) + 4) (nI (tnS (sid kd) sd w))) ((8 + (6 * k)) + 5) ((fs (8 + 6 * k + 5)) + (nI 1))) (2 + h) ((fs (2 + h)) + (nI 1)))) (len := 38) (A2 := [(upd (upd (upd (upd (upd fs ((8 + (6 * k)) + 3) (nI (cd N (tnO N o w)))) ((8 + (6 * k)) + 4) (nI (tnS (sid kd) sd w))) ((8 + (6 * k)) + 5) ((fs (8 + 6 * k + 5)) + (nI 1))) (2 + h) ((fs (2 + h)) + (nI 1))) (5 + h) ((fs (5 + h)) + (nI w))), fwas, fbegun, faside, ftext, fT, gT, fnext, ffar, fthen, fqueue, frankAt, fturnAt]) C 0 rfl rfl (by decide) (by omega) rfl rfl dX7_turnsOne_120 ?_
      refine r_aload_n C dX7_turnsOne_121 rfl 0 rfl ?_
      refine rm_get (v := .ref (m0 + 1)) C 0 (by decide) wF_X7_7 rfl dX7_turnsOne_122 ?_
      refine r_iconst (v := nI 1) C dX7_turnsOne_125 (by decide) ?_
      refine r_aload_n C dX7_turnsOne_126 rfl 0 rfl ?_
      refine rm_get (v := .ref (m0 + 1)) C 0 (by decide) wF_X7_7 rfl dX7_turnsOne_127 ?_
      refine r_iconst (v := nI 1) C dX7_turnsOne_130 (by decide) ?_
      refine rm_ald (f := (upd (upd (upd (upd (upd fs ((8 + (6 * k)) + 3) (nI (cd N (tnO N o w)))) ((8 + (6 * k)) + 4) (nI (tnS (sid kd) sd w))) ((8 + (6 * k)) + 5) ((fs (8 + 6 * k + 5)) + (nI 1))) (2 + h) ((fs (2 + h)) + (nI 1))) (5 + h) ((fs (5 + h)) + (nI w)))) (len := 38) C 0 rfl rfl (by decide) (by decide) dX7_turnsOne_131 ?_
      refine V.top (y := nI h) (by rw [pk_un (by omega), pk_un (by omega), pk_un (by omega), pk_un (by omega), pk_un (by omega)]; exact hh) ?_
      refine r_iconst (v := nI 1) C dX7_turnsOne_132 (by decide) ?_
      refine r_iaddN C dX7_turnsOne_133 ?_
      refine r_iconst (v := nI 3) C dX7_turnsOne_134 (by decide) ?_
      refine r_iremN C dX7_turnsOne_135 (by omega) (by decide) (by decide) ?_
      refine rm_ast (f := (upd (upd (upd (upd (upd fs ((8 + (6 * k)) + 3) (nI (cd N (tnO N o w)))) ((8 + (6 * k)) + 4) (nI (tnS (sid kd) sd w))) ((8 + (6 * k)) + 5) ((fs (8 + 6 * k + 5)) + (nI 1))) (2 + h) ((fs (2 + h)) + (nI 1))) (5 + h) ((fs (5 + h)) + (nI w)))) (len := 38) (A2 := [(upd (upd (upd (upd (upd (upd fs ((8 + (6 * k)) + 3) (nI (cd N (tnO N o w)))) ((8 + (6 * k)) + 4) (nI (tnS (sid kd) sd w))) ((8 + (6 * k)) + 5) ((fs (8 + 6 * k + 5)) + (nI 1))) (2 + h) ((fs (2 + h)) + (nI 1))) (5 + h) ((fs (5 + h)) + (nI w))) 1 (nI ((h + 1) % 3))), fwas, fbegun, faside, ftext, fT, gT, fnext, ffar, fthen, fqueue, frankAt, fturnAt]) C 0 rfl rfl (by decide) (by decide) rfl rfl dX7_turnsOne_136 ?_
      refine r_aload_n C dX7_turnsOne_137 rfl 0 rfl ?_
      refine r_callV (As := []) C (c_X7_gaps (kd := kd) (N := N) (o := tnO N o w) (sd := tnS (sid kd) sd w) (hv.1.N) (hv.1.2.1) (tnO_lt hv.1.N hv.2.1 hw1.2) (hzT) (hbT) (hv.1.1)) wM_X7_109 wI_X7_gaps wN_X7 wC_X7_gaps wV_X7_gaps hd_X7_gaps ⟨Nat.le_of_ble_eq_true rfl, Nat.le_of_ble_eq_true rfl⟩ rfl (mW_o _ _ _ _ _) rfl rfl (Nat.le_of_ble_eq_true rfl) dX7_turnsOne_138 ⟨Nat.le_of_ble_eq_true rfl, Nat.le_of_ble_eq_true rfl⟩ (fun rv n2 σ2 hp => ?_)
      obtain ⟨rfl, rfl, rfl⟩ := hp
      refine V.eq (σ2 := (mW G σ m0 [xstates, xtyped, xat, xreason, xdone, nI kd, nI N, nI sr] [(upd (upd (upd (upd (upd (upd fs ((8 + (6 * k)) + 3) (nI (cd N (tnO N o w)))) ((8 + (6 * k)) + 4) (nI (tnS (sid kd) sd w))) ((8 + (6 * k)) + 5) ((fs (8 + 6 * k + 5)) + (nI 1))) (2 + h) ((fs (2 + h)) + (nI 1))) (5 + h) ((fs (5 + h)) + (nI w))) 1 (nI ((h + 1) % 3))), fwas, fbegun, faside, ftext, fT, gT, fnext, ffar, fthen, fqueue, frankAt, fturnAt])) (n2 := n) (st2 := [.int (nI (gp (sid kd) N (tnO N o w) (tnS (sid kd) sd w)))]) rfl rfl rfl rfl ?_
      exact r_iret C hr hlocks (Nat.le_of_ble_eq_true rfl) (Nat.le_of_ble_eq_true rfl) dX7_turnsOne_141 (hpo _ _ _ ⟨by rw [tr1, hok]; rfl, rfl, fT, gT, by rw [ts1, hok]; rfl⟩)
    · have hok : okT kd sr N o sd w = false := by rw [okT, c14, c22]; rfl
      refine r_ldc C wQ_X7_115 dX7_turnsOne_25 ?_
      exact r_iret C hr hlocks (Nat.le_of_ble_eq_true rfl) (Nat.le_of_ble_eq_true rfl) dX7_turnsOne_27 (hpo _ _ _ ⟨by rw [tr1, hok]; rfl, rfl, fL, gL, by rw [ts1, hok]; rfl⟩)

abbrev rm_X7_possible : Room := { frames := 3, cells := 0, slots := 0, locals := 65 }
set_option maxRecDepth 100000 in
set_option maxHeartbeats 4000000 in
theorem c_X7_possible {l : Launch} {G : gG} {n : Nat} {σ : gS} {m0 : Nat} {xstates xtyped xat xreason xdone : Int32} {fs fwas fbegun faside ftext fsize fburnt fnext ffar fthen fqueue frankAt fturnAt : Nat → Int32} {kd N o sd sr : Nat} (hN : N ≤ 6) (hN1 : 1 ≤ N) (ho : o < fac N) (hz : ∀ j, j < N → fsize j = nI (sz N o j)) (hb : ∀ j, j < N → fburnt j = nI (bt sd j)) (hkd : kd < 4) (hsr : sr ≤ 21) : GM l G yX7_possible cX7_possible 3 (some .int) rm_X7_possible n (mW G σ m0 [xstates, xtyped, xat, xreason, xdone, nI kd, nI N, nI sr] [fs, fwas, fbegun, faside, ftext, fsize, fburnt, fnext, ffar, fthen, fqueue, frankAt, fturnAt]) [.ref m0] (fun rv n2 σ2 => some (.int (nI (psp kd sr N o sd N))) = rv ∧ n = n2 ∧ (mW G σ m0 [xstates, xtyped, xat, xreason, xdone, nI kd, nI N, nI sr] [fs, fwas, fbegun, faside, ftext, fsize, fburnt, fnext, ffar, fthen, fqueue, frankAt, fturnAt]) = σ2) := by
  refine GM.intro (by decide +kernel) (Nat.le_of_ble_eq_true rfl) (fun p e s m args below meth c C hr hlocks hname po hpo => ?_)
  have C : Cx p s m args c cX7_possible 3 RX7 G := C
  refine r_iconst (v := nI 0) C dX7_possible_0 (by decide) ?_
  refine r_istore_n (lv2 := [(1, .int (nI 0)), (0, .ref m0)]) C dX7_possible_1 rfl (by decide) rfl ?_
  refine r_iconst (v := nI 1) C dX7_possible_2 (by decide) ?_
  refine r_istore_n (lv2 := [(2, .int (nI 1)), (1, .int (nI 0)), (0, .ref m0)]) C dX7_possible_3 rfl (by decide) rfl ?_
  have L4 : ∀ (fu : Nat) (i : Nat), (i ≤ N) → (N + 1 - i) < fu → V p l e rm_X7_possible s m args below meth c G 3 (MQ below (gQ G po) args s rm_X7_possible.cells rm_X7_possible.slots (gF G)) 0 0 n (mW G σ m0 [xstates, xtyped, xat, xreason, xdone, nI kd, nI N, nI sr] [fs, fwas, fbegun, faside, ftext, fsize, fburnt, fnext, ffar, fthen, fqueue, frankAt, fturnAt]) 4 [(0, .ref m0), (1, .int (nI (psp kd sr N o sd i))), (2, .int (nI (i + 1)))] [] := by
    intro fu
    induction fu with
    | zero => intro i hi hm; exact absurd hm (Nat.not_lt_zero _)
    | succ fu ih4 =>
      intro i hi hm4
      refine r_iload_n C dX7_possible_4 rfl 2 rfl ?_
      refine r_aload_n C dX7_possible_5 rfl 0 rfl ?_
      refine rm_get (v := .int (nI N)) C 11 (by decide) wF_X7_59 rfl dX7_possible_6 ?_
      refine r_icmp_gtN (tgt := 36) C dX7_possible_9 (by decide) (by omega) (by omega) (fun c9 => ?_) (fun c9 => ?_)
      · have hiN : i = N := by omega
        refine r_iload_n C dX7_possible_36 rfl 1 rfl ?_
        exact r_iret C hr hlocks (Nat.le_of_ble_eq_true rfl) (Nat.le_of_ble_eq_true rfl) dX7_possible_37 (hpo _ _ _ ⟨by rw [hiN], rfl, rfl⟩)
      · refine r_iload_n C dX7_possible_12 rfl 1 rfl ?_
        refine r_aload_n C dX7_possible_13 rfl 0 rfl ?_
        refine r_iload_n C dX7_possible_14 rfl 2 rfl ?_
        refine r_callV (As := [.int (nI (i + 1))]) C (c_X7_can (kd := kd) (N := N) (o := o) (sd := sd) (sr := sr) (k := i + 1) (by first | assumption | omega) (by first | assumption | omega) (by first | assumption | omega) (by first | assumption | omega) (by first | assumption | omega) (by first | assumption | omega) (by first | assumption | omega) (by first | assumption | omega) (by first | assumption | omega)) wM_X7_112 wI_X7_can wN_X7 wC_X7_can wV_X7_can hd_X7_can ⟨Nat.le_of_ble_eq_true rfl, Nat.le_of_ble_eq_true rfl⟩ rfl (mW_o _ _ _ _ _) rfl rfl (Nat.le_of_ble_eq_true rfl) dX7_possible_15 ⟨Nat.le_of_ble_eq_true rfl, Nat.le_of_ble_eq_true rfl⟩ (fun rv n2 σ2 hp => ?_)
        obtain ⟨rfl, rfl, rfl⟩ := hp
        refine V.eq (σ2 := (mW G σ m0 [xstates, xtyped, xat, xreason, xdone, nI kd, nI N, nI sr] [fs, fwas, fbegun, faside, ftext, fsize, fburnt, fnext, ffar, fthen, fqueue, frankAt, fturnAt])) (n2 := n) (st2 := [.int (bI (al kd sr N o sd (i + 1))), .int (nI (psp kd sr N o sd i))]) rfl rfl rfl rfl ?_
        refine r_if_eqB (tgt := 27) C dX7_possible_18 (by decide) (fun c18 => ?_) (fun c18 => ?_)
        · refine r_iconst (v := nI 0) C dX7_possible_27 (by decide) ?_
          refine r_iorN C dX7_possible_28 ?_
          refine r_istore_n (lv2 := [(1, .int (nI ((psp kd sr N o sd i) ||| 0))), (0, .ref m0), (2, .int (nI (i + 1)))]) C dX7_possible_29 rfl (by decide) rfl ?_
          refine r_iinc (v := nI (i + 2)) (lv2 := [(2, .int (nI (i + 2))), (1, .int (nI ((psp kd sr N o sd i) ||| 0))), (0, .ref m0)]) C dX7_possible_30 (k := 2) rfl (nI_add _ 1) (by decide) rfl ?_
          refine r_goto (tgt := 4) C dX7_possible_33 (by decide) ?_
          refine V.sub (lv2 := [(0, .ref m0), (1, .int (nI ((psp kd sr N o sd i) ||| 0))), (2, .int (nI (i + 2)))]) [2, 1, 0] rfl ?_
          refine V.eq (σ2 := (mW G σ m0 [xstates, xtyped, xat, xreason, xdone, nI kd, nI N, nI sr] [fs, fwas, fbegun, faside, ftext, fsize, fburnt, fnext, ffar, fthen, fqueue, frankAt, fturnAt])) (lv2 := [(0, .ref m0), (1, .int (nI (psp kd sr N o sd (i + 1)))), (2, .int (nI ((i + 1) + 1)))]) (st2 := []) rfl rfl (by rw [(show nI ((psp kd sr N o sd i) ||| 0) = nI (psp kd sr N o sd (i + 1)) from by simp [psp, c18]), (show nI (i + 2) = nI ((i + 1) + 1) from congrArg nI (show i + 2 = (i + 1) + 1 by omega))]) rfl ?_
          exact ih4 (i + 1) (by omega) (by omega)
        · refine r_iconst (v := nI 1) C dX7_possible_21 (by decide) ?_
          refine r_iload_n C dX7_possible_22 rfl 2 rfl ?_
          refine r_ishlN C dX7_possible_23 (by omega) ?_
          refine r_goto (tgt := 28) C dX7_possible_24 (by decide) ?_
          refine r_iorN C dX7_possible_28 ?_
          refine r_istore_n (lv2 := [(1, .int (nI ((psp kd sr N o sd i) ||| (1 * 2 ^ (i + 1))))), (0, .ref m0), (2, .int (nI (i + 1)))]) C dX7_possible_29 rfl (by decide) rfl ?_
          refine r_iinc (v := nI (i + 2)) (lv2 := [(2, .int (nI (i + 2))), (1, .int (nI ((psp kd sr N o sd i) ||| (1 * 2 ^ (i + 1))))), (0, .ref m0)]) C dX7_possible_30 (k := 2) rfl (nI_add _ 1) (by decide) rfl ?_
          refine r_goto (tgt := 4) C dX7_possible_33 (by decide) ?_
          refine V.sub (lv2 := [(0, .ref m0), (1, .int (nI ((psp kd sr N o sd i) ||| (1 * 2 ^ (i + 1))))), (2, .int (nI (i + 2)))]) [2, 1, 0] rfl ?_
          refine V.eq (σ2 := (mW G σ m0 [xstates, xtyped, xat, xreason, xdone, nI kd, nI N, nI sr] [fs, fwas, fbegun, faside, ftext, fsize, fburnt, fnext, ffar, fthen, fqueue, frankAt, fturnAt])) (lv2 := [(0, .ref m0), (1, .int (nI (psp kd sr N o sd (i + 1)))), (2, .int (nI ((i + 1) + 1)))]) (st2 := []) rfl rfl (by rw [(show nI ((psp kd sr N o sd i) ||| (1 * 2 ^ (i + 1))) = nI (psp kd sr N o sd (i + 1)) from by simp [psp, c18]), (show nI (i + 2) = nI ((i + 1) + 1) from congrArg nI (show i + 2 = (i + 1) + 1 by omega))]) rfl ?_
          exact ih4 (i + 1) (by omega) (by omega)
  refine V.sub (lv2 := [(0, .ref m0), (1, .int (nI 0)), (2, .int (nI 1))]) [2, 1, 0] rfl ?_
  refine V.eq (σ2 := (mW G σ m0 [xstates, xtyped, xat, xreason, xdone, nI kd, nI N, nI sr] [fs, fwas, fbegun, faside, ftext, fsize, fburnt, fnext, ffar, fthen, fqueue, frankAt, fturnAt])) (lv2 := [(0, .ref m0), (1, .int (nI (psp kd sr N o sd 0))), (2, .int (nI (0 + 1)))]) (st2 := []) rfl rfl (by rw [(show nI 0 = nI (psp kd sr N o sd 0) from rfl), (show nI 1 = nI (0 + 1) from congrArg nI (show 1 = 0 + 1 by omega))]) rfl ?_
  exact L4 _ 0 (by omega) (Nat.lt_succ_self _)

abbrev rm_X7_placeOf : Room := { frames := 0, cells := 0, slots := 0, locals := 0 }
set_option maxRecDepth 100000 in
set_option maxHeartbeats 4000000 in
theorem c_X7_placeOf {l : Launch} {G : gG} {n : Nat} {σ : gS} {m0 : Nat} {xstates xtyped xat xreason xdone xkind xstrength : Int32} {fs fwas fbegun faside ftext fsize fburnt fnext ffar fthen fqueue frankAt fturnAt : Nat → Int32} {N o w : Nat} (hN : N ≤ 6) (hN1 : 1 ≤ N) (ho : o < fac N) (hz : ∀ j, j < N → fsize j = nI (sz N o j)) (hw : 1 ≤ w ∧ w ≤ N) : GM l G yX7_placeOf cX7_placeOf 3 (some .int) rm_X7_placeOf n (mW G σ m0 [xstates, xtyped, xat, xreason, xdone, xkind, nI N, xstrength] [fs, fwas, fbegun, faside, ftext, fsize, fburnt, fnext, ffar, fthen, fqueue, frankAt, fturnAt]) [.ref m0, .int (nI w)] (fun rv n2 σ2 => some (.int (nI (plc N o w))) = rv ∧ n = n2 ∧ (mW G σ m0 [xstates, xtyped, xat, xreason, xdone, xkind, nI N, xstrength] [fs, fwas, fbegun, faside, ftext, fsize, fburnt, fnext, ffar, fthen, fqueue, frankAt, fturnAt]) = σ2) := by
  refine GM.intro (by decide +kernel) (Nat.le_of_ble_eq_true rfl) (fun p e s m args below meth c C hr hlocks hname po hpo => ?_)
  have C : Cx p s m args c cX7_placeOf 3 RX7 G := C
  have hp := plc_ok hN ho hw
  refine r_iconst (v := nI 0) C dX7_placeOf_0 (by decide) ?_
  refine r_istore_n (lv2 := [(2, .int (nI 0)), (0, .ref m0), (1, .int (nI w))]) C dX7_placeOf_1 rfl (by decide) rfl ?_
  have L2 : ∀ (fu : Nat) (i : Nat), (i ≤ plc N o w) → (N + 1 - i) < fu → V p l e rm_X7_placeOf s m args below meth c G 3 (MQ below (gQ G po) args s rm_X7_placeOf.cells rm_X7_placeOf.slots (gF G)) 0 0 n (mW G σ m0 [xstates, xtyped, xat, xreason, xdone, xkind, nI N, xstrength] [fs, fwas, fbegun, faside, ftext, fsize, fburnt, fnext, ffar, fthen, fqueue, frankAt, fturnAt]) 2 [(0, .ref m0), (1, .int (nI w)), (2, .int (nI i))] [] := by
    intro fu
    induction fu with
    | zero => intro i hi hm; exact absurd hm (Nat.not_lt_zero _)
    | succ fu ih2 =>
      intro i hi hm2
      refine r_aload_n C dX7_placeOf_2 rfl 0 rfl ?_
      refine rm_get (v := .ref (m0 + 6)) C 13 (by decide) wF_X7_26 rfl dX7_placeOf_3 ?_
      refine r_iload_n C dX7_placeOf_6 rfl 2 rfl ?_
      refine rm_ald (f := fsize) (len := 6) C 5 rfl rfl (by decide) (by omega) dX7_placeOf_7 ?_
      have hzr := sz_rng hN ho (show i < N by omega)
      refine V.top (y := nI (sz N o i)) (hz i (by omega)) ?_
      refine r_iload_n C dX7_placeOf_8 rfl 1 rfl ?_
      refine r_icmp_eqN (tgt := 18) C dX7_placeOf_9 (by decide) (by omega) (by omega) (fun c9 => ?_) (fun c9 => ?_)
      · refine r_iload_n C dX7_placeOf_18 rfl 2 rfl ?_
        exact r_iret C hr hlocks (Nat.le_of_ble_eq_true rfl) (Nat.le_of_ble_eq_true rfl) dX7_placeOf_19 (hpo _ _ _ ⟨by rw [show i = plc N o w from Nat.le_antisymm hi (Nat.le_of_not_lt fun z => hp.2.2 i z c9)], rfl, rfl⟩)
      · refine r_iinc (v := nI (i + 1)) (lv2 := [(2, .int (nI (i + 1))), (0, .ref m0), (1, .int (nI w))]) C dX7_placeOf_12 (k := 2) rfl (nI_add _ 1) (by decide) rfl ?_
        refine r_goto (tgt := 2) C dX7_placeOf_15 (by decide) ?_
        refine V.sub (lv2 := [(0, .ref m0), (1, .int (nI w)), (2, .int (nI (i + 1)))]) [1, 2, 0] rfl ?_
        exact ih2 (i + 1) (by have : i ≠ plc N o w := fun z => c9 (by rw [z]; exact hp.2.1); omega) (by omega)
  refine V.sub (lv2 := [(0, .ref m0), (1, .int (nI w)), (2, .int (nI 0))]) [1, 2, 0] rfl ?_
  exact L2 _ 0 (by omega) (Nat.lt_succ_self _)

abbrev rm_X7_simpleTurn : Room := { frames := 1, cells := 0, slots := 0, locals := 22 }
set_option maxRecDepth 100000 in
set_option maxHeartbeats 4000000 in
theorem c_X7_simpleTurn {l : Launch} {G : gG} {n : Nat} {σ : gS} {m0 : Nat} {xstates xtyped xat xreason xdone xstrength : Int32} {fs fwas fbegun faside ftext fsize fburnt fnext ffar fthen fqueue frankAt fturnAt : Nat → Int32} {kd N o sd : Nat} (hN : N ≤ 6) (hN1 : 1 ≤ N) (ho : o < fac N) (hz : ∀ j, j < N → fsize j = nI (sz N o j)) (hb : ∀ j, j < N → fburnt j = nI (bt sd j)) (hkd : kd < 4) (hns : srp N o sd N = false) : GM l G yX7_simpleTurn cX7_simpleTurn 3 (some .int) rm_X7_simpleTurn n (mW G σ m0 [xstates, xtyped, xat, xreason, xdone, nI kd, nI N, xstrength] [fs, fwas, fbegun, faside, ftext, fsize, fburnt, fnext, ffar, fthen, fqueue, frankAt, fturnAt]) [.ref m0] (fun rv n2 σ2 => some (.int (nI (smt (sid kd) N o sd))) = rv ∧ n = n2 ∧ (mW G σ m0 [xstates, xtyped, xat, xreason, xdone, nI kd, nI N, xstrength] [fs, fwas, fbegun, faside, ftext, fsize, fburnt, fnext, ffar, fthen, fqueue, frankAt, fturnAt]) = σ2) := by
  refine GM.intro (by decide +kernel) (Nat.le_of_ble_eq_true rfl) (fun p e s m args below meth c C hr hlocks hname po hpo => ?_)
  have C : Cx p s m args c cX7_simpleTurn 3 RX7 G := C
  have hst := stc_pos hns
  refine r_aload_n C dX7_simpleTurn_0 rfl 0 rfl ?_
  refine rm_get (v := .int (nI N)) C 11 (by decide) wF_X7_59 rfl dX7_simpleTurn_1 ?_
  refine r_istore_n (lv2 := [(1, .int (nI N)), (0, .ref m0)]) C dX7_simpleTurn_4 rfl (by decide) rfl ?_
  have L5 : ∀ (fu : Nat) (c1 : Nat), (c1 ≤ N) → (stc N o sd c1 = stc N o sd N) → (c1 + 1) < fu → V p l e rm_X7_simpleTurn s m args below meth c G 3 (MQ below (gQ G po) args s rm_X7_simpleTurn.cells rm_X7_simpleTurn.slots (gF G)) 0 0 n (mW G σ m0 [xstates, xtyped, xat, xreason, xdone, nI kd, nI N, xstrength] [fs, fwas, fbegun, faside, ftext, fsize, fburnt, fnext, ffar, fthen, fqueue, frankAt, fturnAt]) 5 [(0, .ref m0), (1, .int (nI c1))] [] := by
    intro fu
    induction fu with
    | zero => intro c1 hc hc2 hm; exact absurd hm (Nat.not_lt_zero _)
    | succ fu ih5 =>
      intro c1 hc hc2 hm5
      have hc1 : 1 ≤ c1 := by cases c1 with | zero => rw [← hc2] at hst; exact absurd hst (by simp [stc]) | succ z => omega
      refine r_aload_n C dX7_simpleTurn_5 rfl 0 rfl ?_
      refine rm_get (v := .ref (m0 + 6)) C 13 (by decide) wF_X7_26 rfl dX7_simpleTurn_6 ?_
      refine r_iload_n C dX7_simpleTurn_9 rfl 1 rfl ?_
      refine r_iconst (v := nI 1) C dX7_simpleTurn_10 (by decide) ?_
      refine r_isubN C dX7_simpleTurn_11 (by omega) ?_
      refine rm_ald (f := fsize) (len := 6) C 5 rfl rfl (by decide) (by omega) dX7_simpleTurn_12 ?_
      have hzr := sz_rng hN ho (show (c1 - 1) < N by omega)
      refine V.top (y := nI (sz N o (c1 - 1))) (hz (c1 - 1) (by omega)) ?_
      refine r_iload_n C dX7_simpleTurn_13 rfl 1 rfl ?_
      refine r_icmp_neN (tgt := 34) C dX7_simpleTurn_14 (by decide) (by omega) (by omega) (fun c14 => ?_) (fun c14 => ?_)
      · have hcs : stc N o sd c1 = c1 := stc_st hc1 (fun z => c14 z.1)
        have hrg := plc_ok hN ho (w := c1) (by omega)
        refine r_aload_n C dX7_simpleTurn_34 rfl 0 rfl ?_
        refine r_iload_n C dX7_simpleTurn_35 rfl 1 rfl ?_
        refine r_callV (As := [.int (nI c1)]) C (c_X7_placeOf (N := N) (o := o) (w := c1) (by first | assumption | omega) (by first | assumption | omega) (by first | assumption | omega) (by first | assumption | omega) (by omega)) wM_X7_153 wI_X7_placeOf wN_X7 wC_X7_placeOf wV_X7_placeOf hd_X7_placeOf ⟨Nat.le_of_ble_eq_true rfl, Nat.le_of_ble_eq_true rfl⟩ rfl (mW_o _ _ _ _ _) rfl rfl (Nat.le_of_ble_eq_true rfl) dX7_simpleTurn_36 ⟨Nat.le_of_ble_eq_true rfl, Nat.le_of_ble_eq_true rfl⟩ (fun rv n2 σ2 hp => ?_)
        obtain ⟨rfl, rfl, rfl⟩ := hp
        refine V.eq (σ2 := (mW G σ m0 [xstates, xtyped, xat, xreason, xdone, nI kd, nI N, xstrength] [fs, fwas, fbegun, faside, ftext, fsize, fburnt, fnext, ffar, fthen, fqueue, frankAt, fturnAt])) (n2 := n) (st2 := [.int (nI (plc N o c1))]) rfl rfl rfl rfl ?_
        refine r_istore_n (lv2 := [(2, .int (nI (plc N o c1))), (0, .ref m0), (1, .int (nI c1))]) C dX7_simpleTurn_39 rfl (by decide) rfl ?_
        refine r_iload_n C dX7_simpleTurn_40 rfl 0 rfl ?_
        refine r_iload_n C dX7_simpleTurn_41 rfl 2 rfl ?_
        refine r_iconst (v := nI 1) C dX7_simpleTurn_42 (by decide) ?_
        refine r_isubN C dX7_simpleTurn_43 (by omega) ?_
        refine r_icmp_neN (tgt := 49) C dX7_simpleTurn_44 (by decide) (by omega) (by omega) (fun c44 => ?_) (fun c44 => ?_)
        · refine r_iload_n C dX7_simpleTurn_49 rfl 0 rfl ?_
          refine r_if_leN (tgt := 57) C dX7_simpleTurn_50 (by decide) (by omega) (fun c50 => ?_) (fun c50 => ?_)
          · refine r_aload_n C dX7_simpleTurn_57 rfl 1 rfl ?_
            refine rm_get (v := .int (nI kd)) C 10 (by decide) wF_X7_66 rfl dX7_simpleTurn_58 ?_
            refine r_callS (As := [.int (nI kd)]) C (c_X7_hasSides (kd := kd) (by first | assumption | omega)) wM_X7_76 wS_X7_hasSides wN_X7 wC_X7_hasSides hd_X7_hasSides ⟨Nat.le_of_ble_eq_true rfl, Nat.le_of_ble_eq_true rfl⟩ rfl rfl (Nat.le_of_ble_eq_true rfl) dX7_simpleTurn_61 ⟨Nat.le_of_ble_eq_true rfl, Nat.le_of_ble_eq_true rfl⟩ (fun rv n2 σ2 hp => ?_)
            obtain ⟨rfl, rfl, rfl⟩ := hp
            refine V.eq (σ2 := (mW G σ m0 [xstates, xtyped, xat, xreason, xdone, nI kd, nI N, xstrength] [fs, fwas, fbegun, faside, ftext, fsize, fburnt, fnext, ffar, fthen, fqueue, frankAt, fturnAt])) (n2 := n) (st2 := [.int (bI (sid kd))]) rfl rfl rfl rfl ?_
            refine r_if_eqB (tgt := 80) C dX7_simpleTurn_64 (by decide) (fun c64 => ?_) (fun c64 => ?_)
            · refine r_iload_n C dX7_simpleTurn_80 rfl 2 rfl ?_
              exact r_iret C hr hlocks (Nat.le_of_ble_eq_true rfl) (Nat.le_of_ble_eq_true rfl) dX7_simpleTurn_81 (hpo _ _ _ ⟨by rw [smt, ← hc2, hcs, if_neg c44, if_neg (by omega)]; first | (simp [c64, c73]; done) | (simp [c64]; done), rfl, rfl⟩)
            · refine r_aload_n C dX7_simpleTurn_67 rfl 1 rfl ?_
              refine rm_get (v := .ref (m0 + 7)) C 14 (by decide) wF_X7_29 rfl dX7_simpleTurn_68 ?_
              refine r_iconst (v := nI 0) C dX7_simpleTurn_71 (by decide) ?_
              refine rm_ald (f := fburnt) (len := 6) C 6 rfl rfl (by decide) (by decide) dX7_simpleTurn_72 ?_
              have hbr := bt_le sd 0
              refine V.top (y := nI (bt sd 0)) (hb 0 (by omega)) ?_
              refine r_if_neN (tgt := 80) C dX7_simpleTurn_73 (by decide) (by omega) (fun c73 => ?_) (fun c73 => ?_)
              · refine r_iload_n C dX7_simpleTurn_80 rfl 2 rfl ?_
                exact r_iret C hr hlocks (Nat.le_of_ble_eq_true rfl) (Nat.le_of_ble_eq_true rfl) dX7_simpleTurn_81 (hpo _ _ _ ⟨by rw [smt, ← hc2, hcs, if_neg c44, if_neg (by omega)]; first | (simp [c64, c73]; done) | (simp [c64]; done), rfl, rfl⟩)
              · refine r_iconst (v := nI 1) C dX7_simpleTurn_76 (by decide) ?_
                refine r_goto (tgt := 81) C dX7_simpleTurn_77 (by decide) ?_
                exact r_iret C hr hlocks (Nat.le_of_ble_eq_true rfl) (Nat.le_of_ble_eq_true rfl) dX7_simpleTurn_81 (hpo _ _ _ ⟨by rw [smt, ← hc2, hcs, if_neg c44, if_neg (by omega)]; first | (simp [c64, c73]; done) | (simp [c64]; done), rfl, rfl⟩)
          · refine r_iload_n C dX7_simpleTurn_53 rfl 0 rfl ?_
            refine r_iconst (v := nI 1) C dX7_simpleTurn_54 (by decide) ?_
            refine r_iaddN C dX7_simpleTurn_55 ?_
            exact r_iret C hr hlocks (Nat.le_of_ble_eq_true rfl) (Nat.le_of_ble_eq_true rfl) dX7_simpleTurn_56 (hpo _ _ _ ⟨by rw [smt, ← hc2, hcs, if_neg c44, if_pos c50], rfl, rfl⟩)
        · refine r_iload_n C dX7_simpleTurn_47 rfl 2 rfl ?_
          exact r_iret C hr hlocks (Nat.le_of_ble_eq_true rfl) (Nat.le_of_ble_eq_true rfl) dX7_simpleTurn_48 (hpo _ _ _ ⟨by rw [smt, ← hc2, hcs, if_pos c44], rfl, rfl⟩)
      · refine r_aload_n C dX7_simpleTurn_17 rfl 0 rfl ?_
        refine rm_get (v := .ref (m0 + 7)) C 14 (by decide) wF_X7_29 rfl dX7_simpleTurn_18 ?_
        refine r_iload_n C dX7_simpleTurn_21 rfl 1 rfl ?_
        refine r_iconst (v := nI 1) C dX7_simpleTurn_22 (by decide) ?_
        refine r_isubN C dX7_simpleTurn_23 (by omega) ?_
        refine rm_ald (f := fburnt) (len := 6) C 6 rfl rfl (by decide) (by omega) dX7_simpleTurn_24 ?_
        have hbr := bt_le sd (c1 - 1)
        refine V.top (y := nI (bt sd (c1 - 1))) (hb (c1 - 1) (by omega)) ?_
        refine r_if_neN (tgt := 34) C dX7_simpleTurn_25 (by decide) (by omega) (fun c25 => ?_) (fun c25 => ?_)
        · have hcs : stc N o sd c1 = c1 := stc_st hc1 (fun z => c25 z.2)
          have hrg := plc_ok hN ho (w := c1) (by omega)
          refine r_aload_n C dX7_simpleTurn_34 rfl 0 rfl ?_
          refine r_iload_n C dX7_simpleTurn_35 rfl 1 rfl ?_
          refine r_callV (As := [.int (nI c1)]) C (c_X7_placeOf (N := N) (o := o) (w := c1) (by first | assumption | omega) (by first | assumption | omega) (by first | assumption | omega) (by first | assumption | omega) (by omega)) wM_X7_153 wI_X7_placeOf wN_X7 wC_X7_placeOf wV_X7_placeOf hd_X7_placeOf ⟨Nat.le_of_ble_eq_true rfl, Nat.le_of_ble_eq_true rfl⟩ rfl (mW_o _ _ _ _ _) rfl rfl (Nat.le_of_ble_eq_true rfl) dX7_simpleTurn_36 ⟨Nat.le_of_ble_eq_true rfl, Nat.le_of_ble_eq_true rfl⟩ (fun rv n2 σ2 hp => ?_)
          obtain ⟨rfl, rfl, rfl⟩ := hp
          refine V.eq (σ2 := (mW G σ m0 [xstates, xtyped, xat, xreason, xdone, nI kd, nI N, xstrength] [fs, fwas, fbegun, faside, ftext, fsize, fburnt, fnext, ffar, fthen, fqueue, frankAt, fturnAt])) (n2 := n) (st2 := [.int (nI (plc N o c1))]) rfl rfl rfl rfl ?_
          refine r_istore_n (lv2 := [(2, .int (nI (plc N o c1))), (0, .ref m0), (1, .int (nI c1))]) C dX7_simpleTurn_39 rfl (by decide) rfl ?_
          refine r_iload_n C dX7_simpleTurn_40 rfl 0 rfl ?_
          refine r_iload_n C dX7_simpleTurn_41 rfl 2 rfl ?_
          refine r_iconst (v := nI 1) C dX7_simpleTurn_42 (by decide) ?_
          refine r_isubN C dX7_simpleTurn_43 (by omega) ?_
          refine r_icmp_neN (tgt := 49) C dX7_simpleTurn_44 (by decide) (by omega) (by omega) (fun c44 => ?_) (fun c44 => ?_)
          · refine r_iload_n C dX7_simpleTurn_49 rfl 0 rfl ?_
            refine r_if_leN (tgt := 57) C dX7_simpleTurn_50 (by decide) (by omega) (fun c50 => ?_) (fun c50 => ?_)
            · refine r_aload_n C dX7_simpleTurn_57 rfl 1 rfl ?_
              refine rm_get (v := .int (nI kd)) C 10 (by decide) wF_X7_66 rfl dX7_simpleTurn_58 ?_
              refine r_callS (As := [.int (nI kd)]) C (c_X7_hasSides (kd := kd) (by first | assumption | omega)) wM_X7_76 wS_X7_hasSides wN_X7 wC_X7_hasSides hd_X7_hasSides ⟨Nat.le_of_ble_eq_true rfl, Nat.le_of_ble_eq_true rfl⟩ rfl rfl (Nat.le_of_ble_eq_true rfl) dX7_simpleTurn_61 ⟨Nat.le_of_ble_eq_true rfl, Nat.le_of_ble_eq_true rfl⟩ (fun rv n2 σ2 hp => ?_)
              obtain ⟨rfl, rfl, rfl⟩ := hp
              refine V.eq (σ2 := (mW G σ m0 [xstates, xtyped, xat, xreason, xdone, nI kd, nI N, xstrength] [fs, fwas, fbegun, faside, ftext, fsize, fburnt, fnext, ffar, fthen, fqueue, frankAt, fturnAt])) (n2 := n) (st2 := [.int (bI (sid kd))]) rfl rfl rfl rfl ?_
              refine r_if_eqB (tgt := 80) C dX7_simpleTurn_64 (by decide) (fun c64 => ?_) (fun c64 => ?_)
              · refine r_iload_n C dX7_simpleTurn_80 rfl 2 rfl ?_
                exact r_iret C hr hlocks (Nat.le_of_ble_eq_true rfl) (Nat.le_of_ble_eq_true rfl) dX7_simpleTurn_81 (hpo _ _ _ ⟨by rw [smt, ← hc2, hcs, if_neg c44, if_neg (by omega)]; first | (simp [c64, c73]; done) | (simp [c64]; done), rfl, rfl⟩)
              · refine r_aload_n C dX7_simpleTurn_67 rfl 1 rfl ?_
                refine rm_get (v := .ref (m0 + 7)) C 14 (by decide) wF_X7_29 rfl dX7_simpleTurn_68 ?_
                refine r_iconst (v := nI 0) C dX7_simpleTurn_71 (by decide) ?_
                refine rm_ald (f := fburnt) (len := 6) C 6 rfl rfl (by decide) (by decide) dX7_simpleTurn_72 ?_
                have hbr := bt_le sd 0
                refine V.top (y := nI (bt sd 0)) (hb 0 (by omega)) ?_
                refine r_if_neN (tgt := 80) C dX7_simpleTurn_73 (by decide) (by omega) (fun c73 => ?_) (fun c73 => ?_)
                · refine r_iload_n C dX7_simpleTurn_80 rfl 2 rfl ?_
                  exact r_iret C hr hlocks (Nat.le_of_ble_eq_true rfl) (Nat.le_of_ble_eq_true rfl) dX7_simpleTurn_81 (hpo _ _ _ ⟨by rw [smt, ← hc2, hcs, if_neg c44, if_neg (by omega)]; first | (simp [c64, c73]; done) | (simp [c64]; done), rfl, rfl⟩)
                · refine r_iconst (v := nI 1) C dX7_simpleTurn_76 (by decide) ?_
                  refine r_goto (tgt := 81) C dX7_simpleTurn_77 (by decide) ?_
                  exact r_iret C hr hlocks (Nat.le_of_ble_eq_true rfl) (Nat.le_of_ble_eq_true rfl) dX7_simpleTurn_81 (hpo _ _ _ ⟨by rw [smt, ← hc2, hcs, if_neg c44, if_neg (by omega)]; first | (simp [c64, c73]; done) | (simp [c64]; done), rfl, rfl⟩)
            · refine r_iload_n C dX7_simpleTurn_53 rfl 0 rfl ?_
              refine r_iconst (v := nI 1) C dX7_simpleTurn_54 (by decide) ?_
              refine r_iaddN C dX7_simpleTurn_55 ?_
              exact r_iret C hr hlocks (Nat.le_of_ble_eq_true rfl) (Nat.le_of_ble_eq_true rfl) dX7_simpleTurn_56 (hpo _ _ _ ⟨by rw [smt, ← hc2, hcs, if_neg c44, if_pos c50], rfl, rfl⟩)
          · refine r_iload_n C dX7_simpleTurn_47 rfl 2 rfl ?_
            exact r_iret C hr hlocks (Nat.le_of_ble_eq_true rfl) (Nat.le_of_ble_eq_true rfl) dX7_simpleTurn_48 (hpo _ _ _ ⟨by rw [smt, ← hc2, hcs, if_pos c44], rfl, rfl⟩)
        · refine r_iinc (v := nI (c1 - 1)) (lv2 := [(1, .int (nI (c1 - 1))), (0, .ref m0)]) C dX7_simpleTurn_28 (k := 1) rfl (nI_m1 (by omega)) (by decide) rfl ?_
          refine r_goto (tgt := 5) C dX7_simpleTurn_31 (by decide) ?_
          refine V.sub (lv2 := [(0, .ref m0), (1, .int (nI (c1 - 1)))]) [1, 0] rfl ?_
          exact ih5 (c1 - 1) (by omega) (by rw [← hc2]; exact (stc_go hc1 c14 c25).symm) (by omega)
  refine V.sub (lv2 := [(0, .ref m0), (1, .int (nI N))]) [1, 0] rfl ?_
  exact L5 _ N (by omega) (rfl) (Nat.lt_succ_self _)

abbrev rm_X7_gapsOf : Room := { frames := 3, cells := 0, slots := 0, locals := 64 }
set_option maxRecDepth 100000 in
set_option maxHeartbeats 4000000 in
theorem c_X7_gapsOf {l : Launch} {G : gG} {n : Nat} {σ : gS} {m0 : Nat} {xstates xtyped xat xreason xdone xstrength : Int32} {fs fwas fbegun faside ftext fsize fburnt fnext ffar fthen fqueue frankAt fturnAt : Nat → Int32} {kd N o sd r : Nat} (hN : N ≤ 6) (hN1 : 1 ≤ N) (ho : o < fac N) (hkd : kd < 4) (hs : sd < sm (sid kd) N) (hrr : r = rk (sid kd) N o sd) : GM l G yX7_gapsOf cX7_gapsOf 2 (some .int) rm_X7_gapsOf n (mW G σ m0 [xstates, xtyped, xat, xreason, xdone, nI kd, nI N, xstrength] [fs, fwas, fbegun, faside, ftext, fsize, fburnt, fnext, ffar, fthen, fqueue, frankAt, fturnAt]) [.ref m0, .int (nI r)] (fun rv n2 σ2 => some (.int (nI (gp (sid kd) N o sd))) = rv ∧ n = n2 ∧ ∃ (f2 : Nat → Int32) (g2 : Nat → Int32), (mW G σ m0 [xstates, xtyped, xat, xreason, xdone, nI kd, nI N, xstrength] [fs, fwas, fbegun, faside, ftext, f2, g2, fnext, ffar, fthen, fqueue, frankAt, fturnAt]) = σ2 ∧ (∀ j, j < N → f2 j = nI (sz N o j)) ∧ (∀ j, j < N → g2 j = nI (bt sd j))) := by
  refine GM.intro (by decide +kernel) (Nat.le_of_ble_eq_true rfl) (fun p e s m args below meth c C hr hlocks hname po hpo => ?_)
  have C : Cx p s m args c cX7_gapsOf 2 RX7 G := C
  refine r_aload_n C dX7_gapsOf_0 rfl 0 rfl ?_
  refine r_iload_n C dX7_gapsOf_1 rfl 1 rfl ?_
  refine r_callV (As := [.int (nI r)]) C (c_X7_unranks (kd := kd) (N := N) (o := o) (sd := sd) (r := r) (by first | assumption | omega) (by first | assumption | omega) (by first | assumption | omega) (by first | assumption | omega) (by first | assumption | omega) (by first | assumption | omega)) wM_X7_139 wI_X7_unranks wN_X7 wC_X7_unranks wV_X7_unranks hd_X7_unranks ⟨Nat.le_of_ble_eq_true rfl, Nat.le_of_ble_eq_true rfl⟩ rfl (mW_o _ _ _ _ _) rfl rfl (Nat.le_of_ble_eq_true rfl) dX7_gapsOf_2 ⟨Nat.le_of_ble_eq_true rfl, Nat.le_of_ble_eq_true rfl⟩ (fun rv n2 σ2 hp => ?_)
  obtain ⟨rfl, rfl, fL, gL, rfl, hzL, hbL⟩ := hp
  refine V.eq (σ2 := (mW G σ m0 [xstates, xtyped, xat, xreason, xdone, nI kd, nI N, xstrength] [fs, fwas, fbegun, faside, ftext, fL, gL, fnext, ffar, fthen, fqueue, frankAt, fturnAt])) (n2 := n) (st2 := []) rfl rfl rfl rfl ?_
  refine r_aload_n C dX7_gapsOf_5 rfl 0 rfl ?_
  refine r_callV (As := []) C (c_X7_gaps (kd := kd) (N := N) (o := o) (sd := sd) (by first | assumption | omega) (by first | assumption | omega) (by first | assumption | omega) (hzL) (hbL) (by first | assumption | omega)) wM_X7_109 wI_X7_gaps wN_X7 wC_X7_gaps wV_X7_gaps hd_X7_gaps ⟨Nat.le_of_ble_eq_true rfl, Nat.le_of_ble_eq_true rfl⟩ rfl (mW_o _ _ _ _ _) rfl rfl (Nat.le_of_ble_eq_true rfl) dX7_gapsOf_6 ⟨Nat.le_of_ble_eq_true rfl, Nat.le_of_ble_eq_true rfl⟩ (fun rv n2 σ2 hp => ?_)
  obtain ⟨rfl, rfl, rfl⟩ := hp
  refine V.eq (σ2 := (mW G σ m0 [xstates, xtyped, xat, xreason, xdone, nI kd, nI N, xstrength] [fs, fwas, fbegun, faside, ftext, fL, gL, fnext, ffar, fthen, fqueue, frankAt, fturnAt])) (n2 := n) (st2 := [.int (nI (gp (sid kd) N o sd))]) rfl rfl rfl rfl ?_
  exact r_iret C hr hlocks (Nat.le_of_ble_eq_true rfl) (Nat.le_of_ble_eq_true rfl) dX7_gapsOf_9 (hpo _ _ _ ⟨rfl, rfl, fL, gL, rfl, hzL, hbL⟩)

abbrev rm_X7_sign : Room := { frames := 0, cells := 0, slots := 0, locals := 0 }
set_option maxRecDepth 100000 in
set_option maxHeartbeats 4000000 in
theorem c_X7_sign {l : Launch} {G : gG} {n : Nat} {σ : gS} {m0 : Nat} {xstates xreason xdone xkind xn xstrength : Int32} {fs fwas fbegun faside ftext fsize fburnt fnext ffar fthen fqueue frankAt fturnAt : Nat → Int32} {ai tn : Nat} (htn : tn ≤ 50) (hai : ai < 2 ^ 31) : GM l G yX7_sign cX7_sign 1 (some .int) rm_X7_sign n (mW G σ m0 [xstates, nI tn, nI ai, xreason, xdone, xkind, xn, xstrength] [fs, fwas, fbegun, faside, ftext, fsize, fburnt, fnext, ffar, fthen, fqueue, frankAt, fturnAt]) [.ref m0] (fun rv n2 σ2 => some (.int (sgn ftext ai tn)) = rv ∧ n = n2 ∧ (mW G σ m0 [xstates, nI tn, nI ai, xreason, xdone, xkind, xn, xstrength] [fs, fwas, fbegun, faside, ftext, fsize, fburnt, fnext, ffar, fthen, fqueue, frankAt, fturnAt]) = σ2) := by
  refine GM.intro (by decide +kernel) (Nat.le_of_ble_eq_true rfl) (fun p e s m args below meth c C hr hlocks hname po hpo => ?_)
  have C : Cx p s m args c cX7_sign 1 RX7 G := C
  refine r_aload_n C dX7_sign_0 rfl 0 rfl ?_
  refine rm_get (v := .int (nI ai)) C 7 (by decide) wF_X7_165 rfl dX7_sign_1 ?_
  refine r_aload_n C dX7_sign_4 rfl 0 rfl ?_
  refine rm_get (v := .int (nI tn)) C 6 (by decide) wF_X7_162 rfl dX7_sign_5 ?_
  refine r_icmp_geN (tgt := 23) C dX7_sign_8 (by decide) (by omega) (by omega) (fun c8 => ?_) (fun c8 => ?_)
  · refine r_iconst (v := (-1)) C dX7_sign_23 (by decide) ?_
    exact r_iret C hr hlocks (Nat.le_of_ble_eq_true rfl) (Nat.le_of_ble_eq_true rfl) dX7_sign_24 (hpo _ _ _ ⟨by first | (rw [sgn, if_pos c8]; done) | (rw [sgn, if_neg (Nat.not_lt.mpr c8)]; done), rfl, rfl⟩)
  · refine r_aload_n C dX7_sign_11 rfl 0 rfl ?_
    refine rm_get (v := .ref (m0 + 5)) C 5 (by decide) wF_X7_22 rfl dX7_sign_12 ?_
    refine r_aload_n C dX7_sign_15 rfl 0 rfl ?_
    refine rm_get (v := .int (nI ai)) C 7 (by decide) wF_X7_165 rfl dX7_sign_16 ?_
    refine rm_cald (f := ftext) (len := 50) C 4 rfl rfl (by decide) (by omega) dX7_sign_19 ?_
    refine r_goto (tgt := 24) C dX7_sign_20 (by decide) ?_
    exact r_iret C hr hlocks (Nat.le_of_ble_eq_true rfl) (Nat.le_of_ble_eq_true rfl) dX7_sign_24 (hpo _ _ _ ⟨by first | (rw [sgn, if_pos c8]; done) | (rw [sgn, if_neg (Nat.not_lt.mpr c8)]; done), rfl, rfl⟩)
