-- the heap by regions
def RW (σ : gS) (b : Nat) (L : List va_E) : gS := fun q => if b ≤ q ∧ q < b + L.length then L[q - b]? else σ q
theorem RW_at {σ : gS} {b : Nat} {L : List va_E} {e : va_E} (k : Nat) (h : L[k]? = some e) : RW σ b L (b + k) = some e := by
  obtain ⟨hk, h9⟩ := List.getElem?_eq_some_iff.mp h
  simp [RW, hk]
  exact h9
theorem RW_at0 {σ : gS} {b : Nat} {L : List va_E} {e : va_E} (h : L[0]? = some e) : RW σ b L b = some e := RW_at 0 h
theorem RW_ne {σ : gS} {b q : Nat} {L : List va_E} {m : Nat} (hL : L.length = m) (h : q < b ∨ b + m ≤ q) : RW σ b L q = σ q := by
  rw [RW, if_neg (by omega)]
theorem RW_set {σ : gS} {b : Nat} {L L2 : List va_E} {e : va_E} (k : Nat) (hk : k < L.length) (h : L.set k e = L2) : hU (RW σ b L) (b + k) e = RW σ b L2 := by
  subst h
  funext q
  by_cases g : q = b + k
  · rw [g, hU_at, RW_at (e := e) k (by simp [hk])]
  · rw [hU_ne g]
    by_cases z : b ≤ q ∧ q < b + L.length
    · simp only [RW, List.length_set, if_pos z]
      rw [List.getElem?_set_ne (by omega)]
    · simp only [RW, List.length_set, if_neg z]
theorem RW_set0 {σ : gS} {b : Nat} {L L2 : List va_E} {e : va_E} (hk : 0 < L.length) (h : L.set 0 e = L2) : hU (RW σ b L) b e = RW σ b L2 := RW_set 0 hk h
theorem RW_in {σ : gS} {b : Nat} {L L' L2 : List va_E} (k : Nat) {m : Nat} (hm : L'.length = m) (hk : k + m ≤ L.length) (h : L.take k ++ (L' ++ L.drop (k + m)) = L2) : RW (RW σ b L) (b + k) L' = RW σ b L2 := by
  subst h; subst hm
  have hlen : (L.take k ++ (L' ++ L.drop (k + L'.length))).length = L.length := by simp; omega
  have hk2 : (L.take k).length = k := by simp; omega
  funext q
  by_cases z : b + k ≤ q ∧ q < b + k + L'.length
  · rw [RW, if_pos z, RW, if_pos (by omega), List.getElem?_append_right (by omega), hk2, List.getElem?_append_left (by omega)]
    congr 1
    omega
  · rw [RW, if_neg z]
    by_cases y : b ≤ q ∧ q < b + L.length
    · rw [RW, if_pos y, RW, if_pos (by omega)]
      by_cases x : q - b < k
      · rw [List.getElem?_append_left (by omega), List.getElem?_take_of_lt x]
      · rw [List.getElem?_append_right (by omega), hk2, List.getElem?_append_right (by omega), List.getElem?_drop]
        congr 1
        omega
    · rw [RW, if_neg y, RW, if_neg (by omega)]
theorem RW_in0 {σ : gS} {b : Nat} {L L' L2 : List va_E} {m : Nat} (hm : L'.length = m) (hk : 0 + m ≤ L.length) (h : L.take 0 ++ (L' ++ L.drop (0 + m)) = L2) : RW (RW σ b L) b L' = RW σ b L2 := RW_in 0 hm hk h
theorem RW_nil (σ : gS) (b : Nat) : RW σ b [] = σ := by
  funext q
  rw [RW, if_neg (by simp only [List.length_nil]; omega)]
theorem RW_cons {σ : gS} {b : Nat} {e : va_E} {L : List va_E} (h : σ b = some e) (h2 : RW σ (b + 1) L = σ) : RW σ b (e :: L) = σ := by
  funext q
  have h3 := congrFun h2 q
  by_cases z : q = b
  · rw [z, RW_at0 rfl, h]
  · by_cases y : b ≤ q ∧ q < b + (e :: L).length
    · have y2 := y.2
      rw [List.length_cons] at y2
      rw [RW, if_pos y]
      rw [RW, if_pos (by omega)] at h3
      rw [show q - b = (q - (b + 1)) + 1 by omega, List.getElem?_cons_succ]
      exact h3
    · rw [RW, if_neg y]
section
variable {p : Program} {l : Launch} {e : Env} {R : Room} {s : State} {m : MethodId} {args : Array Value} {below : List Frame} {meth : Method} {c : Code} {G : gG} {nL : Nat} {Q : State → Prop} {cells slots n : Nat} {σ : gS} {pc : Nat} {lv : List (Nat × Value)} {st : List Value} {cc : ByteArray} {own : String}
set_option maxHeartbeats 1000000 in
theorem r_ldcw (C : Cx p s m args c cc nL own G) {index : Nat} {v : Int32} (hconst : Cond.constant own index v ∈ wsL_law) (hdg : decode cc pc = .ok (.ldc_w index, 3)) (kk : V p l e R s m args below meth c G nL Q cells slots n σ (pc + 3) lv (.int v :: st)) : V p l e R s m args below meth c G nL Q cells slots n σ pc lv st := fun H locs ls h1 h2 h3 => lv_ldcw C.1 C.2.1 C.2.2.2.1 (C.2.2.2.2.1 _ hconst) hdg (kk H locs ls h1 h2 h3)
set_option maxHeartbeats 1000000 in
theorem r_mmax (C : Cx p s m args c cc nL own G) {index : Nat} {x y v : Int32} (hl : Cond.methodLink own index Lib.Math.max.name ∈ wsL_law) (hdg : decode cc pc = .ok (.invokestatic index, 3)) (hv : (if x < y then y else x) = v) (hfr : 1 ≤ R.frames) (hlo : 24 ≤ R.locals) (hW : (st.map fun v => v.category).sum ≤ 8) (hc : cells ≤ R.cells) (hs : slots ≤ R.slots) (kk : V p l e R s m args below meth c G nL Q cells slots n σ (pc + 3) lv (.int v :: st)) : V p l e R s m args below meth c G nL Q cells slots n σ pc lv (.int y :: .int x :: st) := fun H locs ls h1 h2 h3 =>
  va_mmax C.1 C.2.1 (by rw [C.2.2.1]; exact h3.1.symm) C.2.2.2.1 (C.2.2.2.2.1 _ hl) (C.2.2.2.2.1 _ wS_Lib_Math_max_name) (C.2.2.2.2.1 _ wN__java_lang_Math_) (C.2.2.2.2.1 _ wC_Lib.Math.max.name) hfr (by omega) hc hs hdg (by rw [hv]; exact kk H locs ls h1 h2 h3)
theorem va_up_rf {f : Nat → Option Nat} {i : Nat} {x : Option Nat} : va_up f i x = va_up f i x := rfl
set_option maxHeartbeats 1000000 in
/-- a store of an element of another such array -/
theorem r_aastQ (C : Cx p s m args c cc nL own G) (t0 : Nat) {a len ci : Nat} {x : Option Nat} {r : vw_C} {f : Nat → Option Nat} (ha : σ a = some (aR t0 G len f)) (ht : (gK G.2.1)[t0]? = some (G.2.1 t0, .object r.1)) (hv : ∀ v, x = some v → ∃ vs, σ v = some (.inr (ci, vs))) (hc : vwCl[ci]? = some r) {i : Nat} (hi : i < len) (hb : len < 2 ^ 31) (hdg : decode cc pc = .ok (.aastore, 1)) (kk : V p l e R s m args below meth c G nL Q cells slots n (hU σ a (aR t0 G len (va_up f i x))) (pc + 1) lv st) : V p l e R s m args below meth c G nL Q cells slots n σ pc lv (va_rf x :: .int (nI i) :: .ref a :: st) := by
  cases x with
  | none => exact r_aastN C t0 ha ht hi hb hdg kk
  | some v =>
    obtain ⟨vs, h9⟩ := hv v rfl
    exact r_aast C t0 ha ht h9 hc hi hb hdg kk
end
def ush (x : Int32) (k : Nat) : Int32 := (x.toUInt32 >>> ((nI k).toUInt32 &&& Int32.toUInt32 31)).toInt32
def bcA (x : Int32) : Int32 := x - (ush x 1 &&& 1431655765)
def bcB (x : Int32) : Int32 := (x &&& 858993459) + (ush x 2 &&& 858993459)
def bcC (x : Int32) : Int32 := (x + ush x 4) &&& 252645135
def bcD (x : Int32) : Int32 := x + ush x 8
def bcE (x : Int32) : Int32 := x + ush x 16
def pcn (v : Nat) : Nat := v % 2 + v / 2 % 2 + v / 4 % 2 + v / 8 % 2 + v / 16 % 2 + v / 32 % 2
theorem k_bc : ∀ v, v < 64 → nI (pcn v) = (bcE (bcD (bcC (bcB (bcA (nI v))))) &&& nI 63) := by decide +kernel
theorem mx_0 {x : Nat} (h : x < 2 ^ 31) : (if nI x < nI 0 then nI 0 else nI x) = nI x := by
  rw [if_neg]
  intro z
  have h1 := Int32.lt_iff_toInt_lt.mp z
  rw [nI_toInt h, nI_toInt (by decide)] at h1
  omega

abbrev rm_J6_bitCount_0f7a4 : Room := { frames := 0, cells := 0, slots := 0, locals := 0 }
set_option maxRecDepth 100000 in
set_option maxHeartbeats 4000000 in
theorem c_J6_bitCount_0f7a4 {l : Launch} {G : gG} {n : Nat} {σ : gS} {v : Nat}  (hv : v < 64) : GM l G yJ6_bitCount_0f7a4 cJ6_bitCount_0f7a4 1 (some .int) rm_J6_bitCount_0f7a4 n σ [.int (nI v)] (fun rv n2 σ2 => some (.int (nI (pcn v))) = rv ∧ n = n2 ∧ σ = σ2) := by
  refine GM.intro (by decide +kernel) (Nat.le_of_ble_eq_true rfl) (fun p e s m args below meth c C hr hlocks hname po hpo => ?_)
  have C : Cx p s m args c cJ6_bitCount_0f7a4 1 RJ6 G := C
  refine r_iload_n C dJ6_bitCount_0f7a4_0 rfl 0 rfl ?_
  refine r_iload_n C dJ6_bitCount_0f7a4_1 rfl 0 rfl ?_
  refine r_iconst (v := nI 1) C dJ6_bitCount_0f7a4_2 (by decide) ?_
  refine r_iushr (v := ush (nI v) 1) C dJ6_bitCount_0f7a4_3 (rfl) ?_
  refine r_ldcw C wQ_J6_265 dJ6_bitCount_0f7a4_4 ?_
  refine r_iand C dJ6_bitCount_0f7a4_7 ?_
  refine r_isub C dJ6_bitCount_0f7a4_8 ?_
  refine r_istore_n (lv2 := [(0, .int ((nI v) - ((ush (nI v) 1) &&& (1431655765))))]) C dJ6_bitCount_0f7a4_9 rfl (by decide) rfl ?_
  refine V.eq (lv2 := [(0, .int (bcA (nI v)))]) rfl rfl (by rw [(show (nI v) - ((ush (nI v) 1) &&& (1431655765)) = bcA (nI v) from rfl)]) rfl ?_
  refine r_iload_n C dJ6_bitCount_0f7a4_10 rfl 0 rfl ?_
  refine r_ldcw C wQ_J6_266 dJ6_bitCount_0f7a4_11 ?_
  refine r_iand C dJ6_bitCount_0f7a4_14 ?_
  refine r_iload_n C dJ6_bitCount_0f7a4_15 rfl 0 rfl ?_
  refine r_iconst (v := nI 2) C dJ6_bitCount_0f7a4_16 (by decide) ?_
  refine r_iushr (v := ush (bcA (nI v)) 2) C dJ6_bitCount_0f7a4_17 (rfl) ?_
  refine r_ldcw C wQ_J6_266 dJ6_bitCount_0f7a4_18 ?_
  refine r_iand C dJ6_bitCount_0f7a4_21 ?_
  refine r_iadd C dJ6_bitCount_0f7a4_22 ?_
  refine r_istore_n (lv2 := [(0, .int (((bcA (nI v)) &&& (858993459)) + ((ush (bcA (nI v)) 2) &&& (858993459))))]) C dJ6_bitCount_0f7a4_23 rfl (by decide) rfl ?_
  refine V.eq (lv2 := [(0, .int (bcB (bcA (nI v))))]) rfl rfl (by rw [(show ((bcA (nI v)) &&& (858993459)) + ((ush (bcA (nI v)) 2) &&& (858993459)) = bcB (bcA (nI v)) from rfl)]) rfl ?_
  refine r_iload_n C dJ6_bitCount_0f7a4_24 rfl 0 rfl ?_
  refine r_iload_n C dJ6_bitCount_0f7a4_25 rfl 0 rfl ?_
  refine r_iconst (v := nI 4) C dJ6_bitCount_0f7a4_26 (by decide) ?_
  refine r_iushr (v := ush (bcB (bcA (nI v))) 4) C dJ6_bitCount_0f7a4_27 (rfl) ?_
  refine r_iadd C dJ6_bitCount_0f7a4_28 ?_
  refine r_ldcw C wQ_J6_267 dJ6_bitCount_0f7a4_29 ?_
  refine r_iand C dJ6_bitCount_0f7a4_32 ?_
  refine r_istore_n (lv2 := [(0, .int (((bcB (bcA (nI v))) + (ush (bcB (bcA (nI v))) 4)) &&& (252645135)))]) C dJ6_bitCount_0f7a4_33 rfl (by decide) rfl ?_
  refine V.eq (lv2 := [(0, .int (bcC (bcB (bcA (nI v)))))]) rfl rfl (by rw [(show ((bcB (bcA (nI v))) + (ush (bcB (bcA (nI v))) 4)) &&& (252645135) = bcC (bcB (bcA (nI v))) from rfl)]) rfl ?_
  refine r_iload_n C dJ6_bitCount_0f7a4_34 rfl 0 rfl ?_
  refine r_iload_n C dJ6_bitCount_0f7a4_35 rfl 0 rfl ?_
  refine r_bipush (v := nI 8) C dJ6_bitCount_0f7a4_36 (by decide) ?_
  refine r_iushr (v := ush (bcC (bcB (bcA (nI v)))) 8) C dJ6_bitCount_0f7a4_38 (rfl) ?_
  refine r_iadd C dJ6_bitCount_0f7a4_39 ?_
  refine r_istore_n (lv2 := [(0, .int ((bcC (bcB (bcA (nI v)))) + (ush (bcC (bcB (bcA (nI v)))) 8)))]) C dJ6_bitCount_0f7a4_40 rfl (by decide) rfl ?_
  refine V.eq (lv2 := [(0, .int (bcD (bcC (bcB (bcA (nI v))))))]) rfl rfl (by rw [(show (bcC (bcB (bcA (nI v)))) + (ush (bcC (bcB (bcA (nI v)))) 8) = bcD (bcC (bcB (bcA (nI v)))) from rfl)]) rfl ?_
  refine r_iload_n C dJ6_bitCount_0f7a4_41 rfl 0 rfl ?_
  refine r_iload_n C dJ6_bitCount_0f7a4_42 rfl 0 rfl ?_
  refine r_bipush (v := nI 16) C dJ6_bitCount_0f7a4_43 (by decide) ?_
  refine r_iushr (v := ush (bcD (bcC (bcB (bcA (nI v))))) 16) C dJ6_bitCount_0f7a4_45 (rfl) ?_
  refine r_iadd C dJ6_bitCount_0f7a4_46 ?_
  refine r_istore_n (lv2 := [(0, .int ((bcD (bcC (bcB (bcA (nI v))))) + (ush (bcD (bcC (bcB (bcA (nI v))))) 16)))]) C dJ6_bitCount_0f7a4_47 rfl (by decide) rfl ?_
  refine V.eq (lv2 := [(0, .int (bcE (bcD (bcC (bcB (bcA (nI v)))))))]) rfl rfl (by rw [(show (bcD (bcC (bcB (bcA (nI v))))) + (ush (bcD (bcC (bcB (bcA (nI v))))) 16) = bcE (bcD (bcC (bcB (bcA (nI v))))) from rfl)]) rfl ?_
  refine r_iload_n C dJ6_bitCount_0f7a4_48 rfl 0 rfl ?_
  refine r_bipush (v := nI 63) C dJ6_bitCount_0f7a4_49 (by decide) ?_
  refine r_iand C dJ6_bitCount_0f7a4_51 ?_
  exact r_iret C hr hlocks (Nat.le_of_ble_eq_true rfl) (Nat.le_of_ble_eq_true rfl) dJ6_bitCount_0f7a4_52 (hpo _ _ _ ⟨congrArg (fun z => some (Value.int z)) (k_bc v hv), rfl, rfl⟩)

abbrev rm_X6_at_y : Room := { frames := 0, cells := 0, slots := 0, locals := 0 }
set_option maxRecDepth 100000 in
set_option maxHeartbeats 4000000 in
theorem c_X6_at_y {l : Launch} {G : gG} {n : Nat} {σ : gS} {a len : Nat} {f : Nat → Int32} {i : Nat} (hc0 : σ a = some (aI G len f)) (hi : i < len) (hlen : len < 2 ^ 31) : GM l G yX6_at cX6_at 2 (some .int) rm_X6_at_y n σ [.ref a, .int (nI i)] (fun rv n2 σ2 => some (.int (f i)) = rv ∧ n = n2 ∧ σ = σ2) := by
  refine GM.intro (by decide +kernel) (Nat.le_of_ble_eq_true rfl) (fun p e s m args below meth c C hr hlocks hname po hpo => ?_)
  have C : Cx p s m args c cX6_at 2 RX6 G := C
  refine r_iload_n C dX6_at_0 rfl 1 rfl ?_
  refine r_if_ltN C dX6_at_1 (tgt := 16) (by decide) (by omega) ?_
  refine r_iload_n C dX6_at_4 rfl 1 rfl ?_
  refine r_aload_n C dX6_at_5 rfl 0 rfl ?_
  refine r_alenI C hc0 dX6_at_6 ?_
  refine r_icmp_geN (tgt := 16) C dX6_at_7 (by decide) (by omega) (by omega) (fun c7 => ?_) (fun c7 => ?_)
  · exact absurd c7 (by omega)
  · refine r_aload_n C dX6_at_10 rfl 0 rfl ?_
    refine r_iload_n C dX6_at_11 rfl 1 rfl ?_
    refine r_ialdN C hc0 (by omega) hlen dX6_at_12 ?_
    refine r_goto (tgt := 17) C dX6_at_13 (by decide) ?_
    exact r_iret C hr hlocks (Nat.le_of_ble_eq_true rfl) (Nat.le_of_ble_eq_true rfl) dX6_at_17 (hpo _ _ _ ⟨rfl, rfl, rfl⟩)

abbrev rm_X6_at_z : Room := { frames := 0, cells := 0, slots := 0, locals := 0 }
set_option maxRecDepth 100000 in
set_option maxHeartbeats 4000000 in
theorem c_X6_at_z {l : Launch} {G : gG} {n : Nat} {σ : gS} {a len : Nat} {f : Nat → Int32} {i : Nat} (hc0 : σ a = some (aI G len f)) (hi : len ≤ i) (hi2 : i < 2 ^ 31) (hlen : len < 2 ^ 31) : GM l G yX6_at cX6_at 2 (some .int) rm_X6_at_z n σ [.ref a, .int (nI i)] (fun rv n2 σ2 => some (.int (nI 0)) = rv ∧ n = n2 ∧ σ = σ2) := by
  refine GM.intro (by decide +kernel) (Nat.le_of_ble_eq_true rfl) (fun p e s m args below meth c C hr hlocks hname po hpo => ?_)
  have C : Cx p s m args c cX6_at 2 RX6 G := C
  refine r_iload_n C dX6_at_0 rfl 1 rfl ?_
  refine r_if_ltN C dX6_at_1 (tgt := 16) (by decide) (by omega) ?_
  refine r_iload_n C dX6_at_4 rfl 1 rfl ?_
  refine r_aload_n C dX6_at_5 rfl 0 rfl ?_
  refine r_alenI C hc0 dX6_at_6 ?_
  refine r_icmp_geN (tgt := 16) C dX6_at_7 (by decide) (by omega) (by omega) (fun c7 => ?_) (fun c7 => ?_)
  · refine r_iconst (v := nI 0) C dX6_at_16 (by decide) ?_
    exact r_iret C hr hlocks (Nat.le_of_ble_eq_true rfl) (Nat.le_of_ble_eq_true rfl) dX6_at_17 (hpo _ _ _ ⟨rfl, rfl, rfl⟩)
  · exact absurd c7 (by omega)

abbrev rm_X6_at_n : Room := { frames := 0, cells := 0, slots := 0, locals := 0 }
set_option maxRecDepth 100000 in
set_option maxHeartbeats 4000000 in
theorem c_X6_at_n {l : Launch} {G : gG} {n : Nat} {σ : gS} {a : Nat} {x : Int32}  (hx : x < 0) : GM l G yX6_at cX6_at 2 (some .int) rm_X6_at_n n σ [.ref a, .int x] (fun rv n2 σ2 => some (.int (nI 0)) = rv ∧ n = n2 ∧ σ = σ2) := by
  refine GM.intro (by decide +kernel) (Nat.le_of_ble_eq_true rfl) (fun p e s m args below meth c C hr hlocks hname po hpo => ?_)
  have C : Cx p s m args c cX6_at 2 RX6 G := C
  refine r_iload_n C dX6_at_0 rfl 1 rfl ?_
  refine r_if_lt (tgt := 16) C dX6_at_1 (by decide) (fun c1 => ?_) (fun c1 => ?_)
  · refine r_iconst (v := nI 0) C dX6_at_16 (by decide) ?_
    exact r_iret C hr hlocks (Nat.le_of_ble_eq_true rfl) (Nat.le_of_ble_eq_true rfl) dX6_at_17 (hpo _ _ _ ⟨rfl, rfl, rfl⟩)
  · exact absurd hx c1

abbrev rm_X6_put : Room := { frames := 0, cells := 0, slots := 0, locals := 0 }
set_option maxRecDepth 100000 in
set_option maxHeartbeats 4000000 in
theorem c_X6_put {l : Launch} {G : gG} {n : Nat} {σ : gS} {a len : Nat} {f : Nat → Int32} {i : Nat} {x : Int32} (hc0 : σ a = some (aI G len f)) (hi : i < len) (hlen : len < 2 ^ 31) : GM l G yX6_put cX6_put 3 none rm_X6_put n σ [.ref a, .int (nI i), .int x] (fun rv n2 σ2 => (none : Option Value) = rv ∧ n = n2 ∧ (hU σ a (aI G len (upd f i x))) = σ2) := by
  refine GM.intro (by decide +kernel) (Nat.le_of_ble_eq_true rfl) (fun p e s m args below meth c C hr hlocks hname po hpo => ?_)
  have C : Cx p s m args c cX6_put 3 RX6 G := C
  refine r_iload_n C dX6_put_0 rfl 1 rfl ?_
  refine r_if_ltN C dX6_put_1 (tgt := 14) (by decide) (by omega) ?_
  refine r_iload_n C dX6_put_4 rfl 1 rfl ?_
  refine r_aload_n C dX6_put_5 rfl 0 rfl ?_
  refine r_alenI C hc0 dX6_put_6 ?_
  refine r_icmp_geN (tgt := 14) C dX6_put_7 (by decide) (by omega) (by omega) (fun c7 => ?_) (fun c7 => ?_)
  · exact absurd c7 (by omega)
  · refine r_aload_n C dX6_put_10 rfl 0 rfl ?_
    refine r_iload_n C dX6_put_11 rfl 1 rfl ?_
    refine r_iload_n C dX6_put_12 rfl 2 rfl ?_
    refine r_iastN C hc0 (by omega) hlen dX6_put_13 ?_
    exact r_vret C hr hlocks (Nat.le_of_ble_eq_true rfl) (Nat.le_of_ble_eq_true rfl) dX6_put_14 (hpo _ _ _ ⟨rfl, rfl, rfl⟩)

abbrev rm_X6_newRow (len : Nat) : Room := { frames := 2, cells := 1, slots := len, locals := 60 }
set_option maxRecDepth 100000 in
set_option maxHeartbeats 4000000 in
theorem c_X6_newRow {l : Launch} {G : gG} {n : Nat} {σ : gS} {len : Nat}  (hlen : len < 100000) : GM l G yX6_newRow cX6_newRow 1 (some (.array .int)) (rm_X6_newRow len) n σ [.int (nI len)] (fun rv n2 σ2 => some (.ref n) = rv ∧ n + 1 = n2 ∧ (hU σ n (aI G len (fun _ => 0))) = σ2) := by
  refine GM.intro (by decide +kernel) (Nat.le_of_ble_eq_true rfl) (fun p e s m args below meth c C hr hlocks hname po hpo => ?_)
  have C : Cx p s m args c cX6_newRow 1 RX6 G := C
  refine r_iload_n C dX6_newRow_0 rfl 0 rfl ?_
  refine r_iconst (v := nI 0) C dX6_newRow_1 (by decide) ?_
  refine r_mmax C wM_X6_213 dX6_newRow_2 (mx_0 (by omega)) (Nat.le_of_ble_eq_true rfl) (Nat.le_of_ble_eq_true rfl) (Nat.le_of_ble_eq_true rfl) (Nat.le_of_ble_eq_true rfl) (by show 0 ≤ len; omega) ?_
  refine r_newarrI C wA_int hlen (Nat.le_of_ble_eq_true rfl) (by show 0 + len ≤ len; omega) dX6_newRow_5 ?_
  refine V.eq (σ2 := (hU σ n (aI G len (fun _ => 0)))) (n2 := n + 1) rfl rfl rfl rfl ?_
  exact r_aret C (Or.inr ⟨_, rfl⟩) (Or.inr ⟨_, rfl⟩) hr hlocks (Nat.le_of_ble_eq_true rfl) (by show 0 + len ≤ len; omega) dX6_newRow_7 (hpo _ _ _ ⟨rfl, rfl, rfl⟩)

abbrev rm_X6_copy : Room := { frames := 0, cells := 0, slots := 0, locals := 0 }
set_option maxRecDepth 100000 in
set_option maxHeartbeats 4000000 in
theorem c_X6_copy {l : Launch} {G : gG} {n : Nat} {σ : gS} {a b len : Nat} {f g0 : Nat → Int32} (hc0 : σ a = some (aI G len f)) (hc1 : σ b = some (aI G len g0)) (hab : a ≠ b) (hlen : len < 2 ^ 31) : GM l G yX6_copy cX6_copy 3 none rm_X6_copy n σ [.ref a, .ref b] (fun rv n2 σ2 => (none : Option Value) = rv ∧ n = n2 ∧ ∃ (g2 : Nat → Int32), (RW σ b [(aI G len g2)]) = σ2 ∧ (∀ j, j < len → g2 j = f j)) := by
  refine GM.intro (by decide +kernel) (Nat.le_of_ble_eq_true rfl) (fun p e s m args below meth c C hr hlocks hname po hpo => ?_)
  have C : Cx p s m args c cX6_copy 3 RX6 G := C
  refine V.hp (σ2 := (RW σ b [(aI G len g0)])) (RW_cons hc1 (RW_nil _ _)).symm ?_
  refine r_iconst (v := nI 0) C dX6_copy_0 (by decide) ?_
  refine r_istore_n (lv2 := [(2, .int (nI 0)), (0, .ref a), (1, .ref b)]) C dX6_copy_1 rfl (by decide) rfl ?_
  have L2 : ∀ (fu : Nat) (i : Nat) (g1 : Nat → Int32), (i ≤ len) → (∀ j, j < i → g1 j = f j) → (len + 1 - i) < fu → V p l e rm_X6_copy s m args below meth c G 3 (MQ below (gQ G po) args s rm_X6_copy.cells rm_X6_copy.slots (gF G)) 0 0 n (RW σ b [(aI G len g1)]) 2 [(0, .ref a), (1, .ref b), (2, .int (nI i))] [] := by
    intro fu
    induction fu with
    | zero => intro i g1 hi hg hm; exact absurd hm (Nat.not_lt_zero _)
    | succ fu ih2 =>
      intro i g1 hi hg hm2
      refine r_iload_n C dX6_copy_2 rfl 2 rfl ?_
      refine r_aload_n C dX6_copy_3 rfl 0 rfl ?_
      refine r_alenI C ((RW_ne (m := 1) rfl (by omega)).trans hc0) dX6_copy_4 ?_
      refine r_icmp_geN (tgt := 26) C dX6_copy_5 (by decide) (by omega) (by omega) (fun c5 => ?_) (fun c5 => ?_)
      · exact r_vret C hr hlocks (Nat.le_of_ble_eq_true rfl) (Nat.le_of_ble_eq_true rfl) dX6_copy_26 (hpo _ _ _ ⟨rfl, rfl, g1, rfl, fun j hj => hg j (by omega)⟩)
      · refine r_iload_n C dX6_copy_8 rfl 2 rfl ?_
        refine r_aload_n C dX6_copy_9 rfl 1 rfl ?_
        refine r_alenI C (RW_at0 rfl) dX6_copy_10 ?_
        refine r_icmp_geN (tgt := 26) C dX6_copy_11 (by decide) (by omega) (by omega) (fun c11 => ?_) (fun c11 => ?_)
        · exact absurd c11 (by omega)
        · refine r_aload_n C dX6_copy_14 rfl 1 rfl ?_
          refine r_iload_n C dX6_copy_15 rfl 2 rfl ?_
          refine r_aload_n C dX6_copy_16 rfl 0 rfl ?_
          refine r_iload_n C dX6_copy_17 rfl 2 rfl ?_
          refine r_ialdN C ((RW_ne (m := 1) rfl (by omega)).trans hc0) (by omega) hlen dX6_copy_18 ?_
          refine r_iastN C (RW_at0 rfl) (by omega) hlen dX6_copy_19 ?_
          refine V.hp (σ2 := (RW σ b [(aI G len (upd g1 i (f i)))])) (RW_set0 (Nat.le_of_ble_eq_true rfl) rfl) ?_
          refine r_iinc (v := nI (i + 1)) (lv2 := [(2, .int (nI (i + 1))), (0, .ref a), (1, .ref b)]) C dX6_copy_20 (k := 2) rfl (nI_add _ 1) (by decide) rfl ?_
          refine r_goto (tgt := 2) C dX6_copy_23 (by decide) ?_
          refine V.sub (lv2 := [(0, .ref a), (1, .ref b), (2, .int (nI (i + 1)))]) [1, 2, 0] rfl ?_
          exact ih2 (i + 1) (upd g1 i (f i)) (by omega) (fun j hj => upd_step hj hg rfl) (by omega)
  refine V.sub (lv2 := [(0, .ref a), (1, .ref b), (2, .int (nI 0))]) [1, 2, 0] rfl ?_
  exact L2 _ 0 g0 (by omega) (fun j hj => absurd hj (Nat.not_lt_zero j)) (Nat.lt_succ_self _)
