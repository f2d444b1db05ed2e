
/-! the functional heap: what stands at an address, as far as it is ours -/
abbrev gS : Type := Nat → Option va_E
/-- what is constant in a launch: the classes' numbers and slots, the array classes, the first address that is ours -/
abbrev gG : Type := va_G × (Nat → ClassId) × Nat
def gK (cT : Nat → ClassId) : List (ClassId × FieldType) := [(cT 0, .int), (cT 1, .int), (cT 2, .object "TurnTops$Kitchen"), (cT 3, .object "TurnTops$Layouts"), (cT 4, .object "TurnTops$Shape")]
def gH (G : gG) (n : Nat) (σ : gS) (H : Heap) : Prop := H.size = n ∧ ∀ (q : Nat) (e : va_E), σ q = some e → G.2.2 ≤ q ∧ va_at G.1 vwCl (q, e) H
def gF (G : gG) : Nat → Prop := fun q => G.2.2 ≤ q
abbrev aI (G : gG) (n : Nat) (f : Nat → Int32) : va_E := .inl (G.2.1 0, n, .inl f)
abbrev aC (G : gG) (n : Nat) (f : Nat → Int32) : va_E := .inl (G.2.1 1, n, .inl f)
abbrev aR (k : Nat) (G : gG) (n : Nat) (f : Nat → Option Nat) : va_E := .inl (G.2.1 k, n, .inr (.inr (.inr (.inr f))))
abbrev oB (ci : Nat) (fs : List Value) : va_E := .inr (ci, fs)
def hU (σ : gS) (a : Nat) (e : va_E) : gS := fun q => if q = a then some e else σ q
theorem hU_at (σ : gS) (a : Nat) (e : va_E) : hU σ a e a = some e := by simp [hU]
theorem hU_ne {σ : gS} {a b : Nat} {e : va_E} (h : b ≠ a) : hU σ a e b = σ b := by simp [hU, h]
theorem hU_hU (σ : gS) (a : Nat) (e e' : va_E) : hU (hU σ a e) a e' = hU σ a e' := by funext q; by_cases h : q = a <;> simp [hU, h]
/-- the tables' words on private members of nest mates and on arrays of references -/
def Nx (U : State) : Prop := (∀ q ∈ nestL, va_Nw (.methodLinkNest q.1 q.2.1 q.2.2 RX6) U) ∧ ∀ C ∈ aoL, va_AO C U
theorem Nx.warm {s U : State} (hW : s.WarmedH U.vm) (h : Nx s) : Nx U := ⟨fun q hq => va_Nw.warmM hW (h.1 q hq), fun C hC => va_AO.moved hW.alike (h.2 C hC)⟩
theorem Nx.same {u U : State} (hv : u.vm = U.vm) (h : Nx u) : Nx U := ⟨fun q hq => va_Nw.same rfl hv (h.1 q hq), fun C hC => va_AO.moved (by rw [hv]; exact Vm.Alike.refl _) (h.2 C hC)⟩
def wm (y : MethodName) (cc : ByteArray) (maxL : Nat) (ret : Option FieldType) : List Cond := Cond.code y cc maxL ret :: wsL_law
def gPre (G : gG) (n : Nat) (σ : gS) (av : List Value) : Array Value → State → Prop := fun v U => v = av.toArray ∧ G.2.2 ≤ U.heap.size ∧ gH G n σ U.heap ∧ va_K G.1 vwCl (gK G.2.1) U ∧ Nx U
def gQ (G : gG) (post : Option Value → Nat → gS → Prop) : Array Value → State → Outcome → State → Prop := fun _ s o t => (∃ (v : Option Value) (n : Nat) (σ : gS), o = .returned v ∧ post v n σ ∧ gH G n σ t.heap) ∧ va_F (gF G) s t
/-- a method's contract: from heap σ of size n, with these arguments -/
abbrev GM (l : Launch) (G : gG) (y : MethodName) (cc : ByteArray) (maxL : Nat) (ret : Option FieldType) (rm : Room) (n : Nat) (σ : gS) (av : List Value) (post : Option Value → Nat → gS → Prop) : Prop := Met l y (wm y cc maxL ret) rm (gPre G n σ av) (gQ G post) rm.cells rm.slots (gF G)
theorem GM.post {l : Launch} {G : gG} {y : MethodName} {cc : ByteArray} {maxL : Nat} {ret : Option FieldType} {rm : Room} {n : Nat} {σ : gS} {av : List Value} {P P' : Option Value → Nat → gS → Prop} (h : GM l G y cc maxL ret rm n σ av P) (hp : ∀ v n' σ', P v n' σ' → P' v n' σ') : GM l G y cc maxL ret rm n σ av P' := by
  have e : ∀ a s o t, gQ G P a s o t → gQ G P' a s o t := fun a s o t h => ⟨by obtain ⟨⟨v, n', σ', h1, h2, h3⟩, -⟩ := h; exact ⟨v, n', σ', h1, hp _ _ _ h2, h3⟩, h.2⟩
  intro p e0 ha hc hk s m args below hf happ hP hT
  obtain ⟨k, o, h1, h2, h3, h4⟩ := h p e0 ha hc hk s m args below hf happ hP hT
  exact ⟨k, o, h1, h2, h3, e _ _ _ _ h4.1, h4.2⟩
/-- what holds all through a method's body -/
def Cx (p : Program) (s : State) (m : MethodId) (args : Array Value) (c : Code) (cc : ByteArray) (nL : Nat) (own : String) (G : gG) : Prop :=
  p.tables.exec = Jvm.exec ∧ c.code = cc ∧ c.maxLocals = nL ∧ s.vm.findClass own = some m.cls ∧ (∀ w ∈ wsL_law, w.before args s = true) ∧ va_K G.1 vwCl (gK G.2.1) s ∧ G.2.2 ≤ s.heap.size ∧ Nx s
def V (p : Program) (l : Launch) (e : Env) (R : Room) (s : State) (m : MethodId) (args : Array Value) (below : List Frame) (meth : Method) (c : Code) (G : gG) (nL : Nat) (Q : State → Prop) (cells slots n : Nat) (σ : gS) (pc : Nat) (lv : List (Nat × Value)) (st : List Value) : Prop :=
  ∀ (H : Heap) (locs : List Loc) (ls : Array Slot), gH G n σ H → va_S (gF G) s.heap H locs → lv_has ls nL lv → W p l e R s m args below meth c H locs cells slots Q (F0 m pc ls st)
theorem gH.put {G : gG} {n a : Nat} {σ : gS} {H H1 : Heap} {e0 e : va_E} (h : gH G n σ H) (h0 : σ a = some e0) (z : H1.size = H.size) (oq : ∀ q : Nat, q ≠ a → H1[q]? = H[q]?) (he : va_at G.1 vwCl (a, e) H1) : gH G n (hU σ a e) H1 := by
  refine ⟨z.trans h.1, fun q e1 h1 => ?_⟩
  by_cases hq : q = a
  · subst hq
    rw [hU_at] at h1
    cases h1
    exact ⟨(h.2 q e0 h0).1, he⟩
  · rw [hU_ne hq] at h1
    exact ⟨(h.2 q e1 h1).1, (h.2 q e1 h1).2.kept (oq q hq)⟩
theorem gH.new {G : gG} {n : Nat} {σ : gS} {H H1 : Heap} {e : va_E} (h : gH G n σ H) (hb : G.2.2 ≤ n) (z : H1.size = n + 1) (oq : ∀ q : Nat, q < n → H1[q]? = H[q]?) (he : va_at G.1 vwCl (n, e) H1) : gH G (n + 1) (hU σ n e) H1 := by
  refine ⟨z, fun q e1 h1 => ?_⟩
  by_cases hq : q = n
  · subst hq
    rw [hU_at] at h1
    cases h1
    exact ⟨hb, he⟩
  · rw [hU_ne hq] at h1
    have hlt : q < n := by have := (h.2 q e1 h1).2.lt; rw [h.1] at this; exact this
    exact ⟨(h.2 q e1 h1).1, (h.2 q e1 h1).2.kept (oq q hlt)⟩
theorem gH.lt {G : gG} {n a : Nat} {σ : gS} {H : Heap} {e : va_E} (h : gH G n σ H) (h0 : σ a = some e) : a < n := by
  have := (h.2 a e h0).2.lt
  rw [h.1] at this
  exact this
theorem gH.one {G : gG} {n a : Nat} {σ : gS} {H : Heap} {e : va_E} (h : gH G n σ H) (h0 : σ a = some e) : va_P G.1 vwCl [(a, e)] H := by
  intro k q hk
  cases k with
  | zero => cases hk; exact (h.2 a e h0).2
  | succ k => simp at hk
theorem gS_new {G : gG} {H0 H H1 : Heap} {locs : List Loc} {n : Nat} (hS : va_S (gF G) H0 H locs) (hn : H.size = n) (z : H1.size = n + 1) (oq : ∀ q : Nat, q < n → H1[q]? = H[q]?) : va_S (gF G) H0 H1 locs :=
  ⟨by have := hS.1; omega, fun q h1 h2 => (oq q (by have := hS.1; omega)).trans (hS.2.1 q h1 h2), hS.2.2⟩
section GV
variable {p : Program} {l : Launch} {e : Env} {R : Room} {s : State} {m : MethodId} {args : Array Value} {below : List Frame} {meth : Method} {c : Code} {G : gG} {nL : Nat} {Q : State → Prop} {cells slots n : Nat} {σ : gS} {pc : Nat} {lv : List (Nat × Value)} {st : List Value} {cc : ByteArray} {own : String}
set_option maxHeartbeats 1000000 in
theorem r_iconst (C : Cx p s m args c cc nL own G) {n0 : Int} {v : Int32} (hdg : decode cc pc = .ok (.iconst n0, 1)) (hv : Int32.ofInt n0 = v) (kk : V p l e R s m args below meth c G nL Q cells slots n σ (pc + 1) lv (.int v :: st)) : V p l e R s m args below meth c G nL Q cells slots n σ pc lv st := fun H locs ls h1 h2 h3 => lv_iconst C.1 C.2.1 hdg hv (kk H locs ls h1 h2 h3)
set_option maxHeartbeats 1000000 in
theorem r_bipush (C : Cx p s m args c cc nL own G) {n0 : Int} {v : Int32} (hdg : decode cc pc = .ok (.bipush n0, 2)) (hv : (Int8.ofInt n0).toInt32 = v) (kk : V p l e R s m args below meth c G nL Q cells slots n σ (pc + 2) lv (.int v :: st)) : V p l e R s m args below meth c G nL Q cells slots n σ pc lv st := fun H locs ls h1 h2 h3 => lv_bipush C.1 C.2.1 hdg hv (kk H locs ls h1 h2 h3)
set_option maxHeartbeats 1000000 in
theorem r_sipush (C : Cx p s m args c cc nL own G) {n0 : Int} {v : Int32} (hdg : decode cc pc = .ok (.sipush n0, 3)) (hv : (Int16.ofInt n0).toInt32 = v) (kk : V p l e R s m args below meth c G nL Q cells slots n σ (pc + 3) lv (.int v :: st)) : V p l e R s m args below meth c G nL Q cells slots n σ pc lv st := fun H locs ls h1 h2 h3 => lv_sipush C.1 C.2.1 hdg hv (kk H locs ls h1 h2 h3)
set_option maxHeartbeats 1000000 in
theorem r_ldc (C : Cx p s m args c cc nL own G) {index : Nat} {v : Int32} (hconst : Cond.constant own index v ∈ wsL_law) (hdg : decode cc pc = .ok (.ldc index, 2)) (kk : V p l e R s m args below meth c G nL Q cells slots n σ (pc + 2) lv (.int v :: st)) : V p l e R s m args below meth c G nL Q cells slots n σ pc lv st := fun H locs ls h1 h2 h3 => lv_ldc C.1 C.2.1 C.2.2.2.1 (C.2.2.2.2.1 _ hconst) hdg (kk H locs ls h1 h2 h3)
set_option maxHeartbeats 1000000 in
theorem r_iadd (C : Cx p s m args c cc nL own G) {x y : Int32} (hdg : decode cc pc = .ok (.iadd, 1)) (kk : V p l e R s m args below meth c G nL Q cells slots n σ (pc + 1) lv (.int (x + y) :: st)) : V p l e R s m args below meth c G nL Q cells slots n σ pc lv (.int y :: .int x :: st) := fun H locs ls h1 h2 h3 => lv_iadd C.1 C.2.1 hdg (kk H locs ls h1 h2 h3)
set_option maxHeartbeats 1000000 in
theorem r_iaddE (C : Cx p s m args c cc nL own G) {x y : Int32} {v : Int32} (hdg : decode cc pc = .ok (.iadd, 1)) (hv : x + y = v) (kk : V p l e R s m args below meth c G nL Q cells slots n σ (pc + 1) lv (.int v :: st)) : V p l e R s m args below meth c G nL Q cells slots n σ pc lv (.int y :: .int x :: st) := fun H locs ls h1 h2 h3 => lv_iadd C.1 C.2.1 hdg (hv ▸ kk H locs ls h1 h2 h3)
set_option maxHeartbeats 1000000 in
theorem r_isub (C : Cx p s m args c cc nL own G) {x y : Int32} (hdg : decode cc pc = .ok (.isub, 1)) (kk : V p l e R s m args below meth c G nL Q cells slots n σ (pc + 1) lv (.int (x - y) :: st)) : V p l e R s m args below meth c G nL Q cells slots n σ pc lv (.int y :: .int x :: st) := fun H locs ls h1 h2 h3 => lv_isub C.1 C.2.1 hdg (kk H locs ls h1 h2 h3)
set_option maxHeartbeats 1000000 in
theorem r_isubE (C : Cx p s m args c cc nL own G) {x y : Int32} {v : Int32} (hdg : decode cc pc = .ok (.isub, 1)) (hv : x - y = v) (kk : V p l e R s m args below meth c G nL Q cells slots n σ (pc + 1) lv (.int v :: st)) : V p l e R s m args below meth c G nL Q cells slots n σ pc lv (.int y :: .int x :: st) := fun H locs ls h1 h2 h3 => lv_isub C.1 C.2.1 hdg (hv ▸ kk H locs ls h1 h2 h3)
set_option maxHeartbeats 1000000 in
theorem r_imul (C : Cx p s m args c cc nL own G) {x y : Int32} (hdg : decode cc pc = .ok (.imul, 1)) (kk : V p l e R s m args below meth c G nL Q cells slots n σ (pc + 1) lv (.int (x * y) :: st)) : V p l e R s m args below meth c G nL Q cells slots n σ pc lv (.int y :: .int x :: st) := fun H locs ls h1 h2 h3 => lv_imul C.1 C.2.1 hdg (kk H locs ls h1 h2 h3)
set_option maxHeartbeats 1000000 in
theorem r_imulE (C : Cx p s m args c cc nL own G) {x y : Int32} {v : Int32} (hdg : decode cc pc = .ok (.imul, 1)) (hv : x * y = v) (kk : V p l e R s m args below meth c G nL Q cells slots n σ (pc + 1) lv (.int v :: st)) : V p l e R s m args below meth c G nL Q cells slots n σ pc lv (.int y :: .int x :: st) := fun H locs ls h1 h2 h3 => lv_imul C.1 C.2.1 hdg (hv ▸ kk H locs ls h1 h2 h3)
set_option maxHeartbeats 1000000 in
theorem r_iand (C : Cx p s m args c cc nL own G) {x y : Int32} (hdg : decode cc pc = .ok (.iand, 1)) (kk : V p l e R s m args below meth c G nL Q cells slots n σ (pc + 1) lv (.int (x &&& y) :: st)) : V p l e R s m args below meth c G nL Q cells slots n σ pc lv (.int y :: .int x :: st) := fun H locs ls h1 h2 h3 => lv_iand C.1 C.2.1 hdg (kk H locs ls h1 h2 h3)
set_option maxHeartbeats 1000000 in
theorem r_iandE (C : Cx p s m args c cc nL own G) {x y : Int32} {v : Int32} (hdg : decode cc pc = .ok (.iand, 1)) (hv : x &&& y = v) (kk : V p l e R s m args below meth c G nL Q cells slots n σ (pc + 1) lv (.int v :: st)) : V p l e R s m args below meth c G nL Q cells slots n σ pc lv (.int y :: .int x :: st) := fun H locs ls h1 h2 h3 => lv_iand C.1 C.2.1 hdg (hv ▸ kk H locs ls h1 h2 h3)
set_option maxHeartbeats 1000000 in
theorem r_ior (C : Cx p s m args c cc nL own G) {x y : Int32} (hdg : decode cc pc = .ok (.ior, 1)) (kk : V p l e R s m args below meth c G nL Q cells slots n σ (pc + 1) lv (.int (x ||| y) :: st)) : V p l e R s m args below meth c G nL Q cells slots n σ pc lv (.int y :: .int x :: st) := fun H locs ls h1 h2 h3 => lv_ior C.1 C.2.1 hdg (kk H locs ls h1 h2 h3)
set_option maxHeartbeats 1000000 in
theorem r_iorE (C : Cx p s m args c cc nL own G) {x y : Int32} {v : Int32} (hdg : decode cc pc = .ok (.ior, 1)) (hv : x ||| y = v) (kk : V p l e R s m args below meth c G nL Q cells slots n σ (pc + 1) lv (.int v :: st)) : V p l e R s m args below meth c G nL Q cells slots n σ pc lv (.int y :: .int x :: st) := fun H locs ls h1 h2 h3 => lv_ior C.1 C.2.1 hdg (hv ▸ kk H locs ls h1 h2 h3)
set_option maxHeartbeats 1000000 in
theorem r_ixor (C : Cx p s m args c cc nL own G) {x y : Int32} (hdg : decode cc pc = .ok (.ixor, 1)) (kk : V p l e R s m args below meth c G nL Q cells slots n σ (pc + 1) lv (.int (x ^^^ y) :: st)) : V p l e R s m args below meth c G nL Q cells slots n σ pc lv (.int y :: .int x :: st) := fun H locs ls h1 h2 h3 => lv_ixor C.1 C.2.1 hdg (kk H locs ls h1 h2 h3)
set_option maxHeartbeats 1000000 in
theorem r_ixorE (C : Cx p s m args c cc nL own G) {x y : Int32} {v : Int32} (hdg : decode cc pc = .ok (.ixor, 1)) (hv : x ^^^ y = v) (kk : V p l e R s m args below meth c G nL Q cells slots n σ (pc + 1) lv (.int v :: st)) : V p l e R s m args below meth c G nL Q cells slots n σ pc lv (.int y :: .int x :: st) := fun H locs ls h1 h2 h3 => lv_ixor C.1 C.2.1 hdg (hv ▸ kk H locs ls h1 h2 h3)
set_option maxHeartbeats 1000000 in
theorem r_ishl (C : Cx p s m args c cc nL own G) {x y : Int32} (hdg : decode cc pc = .ok (.ishl, 1)) (kk : V p l e R s m args below meth c G nL Q cells slots n σ (pc + 1) lv (.int (x <<< (y &&& 31)) :: st)) : V p l e R s m args below meth c G nL Q cells slots n σ pc lv (.int y :: .int x :: st) := fun H locs ls h1 h2 h3 => lv_ishl C.1 C.2.1 hdg (kk H locs ls h1 h2 h3)
set_option maxHeartbeats 1000000 in
theorem r_ishlE (C : Cx p s m args c cc nL own G) {x y : Int32} {v : Int32} (hdg : decode cc pc = .ok (.ishl, 1)) (hv : x <<< (y &&& 31) = v) (kk : V p l e R s m args below meth c G nL Q cells slots n σ (pc + 1) lv (.int v :: st)) : V p l e R s m args below meth c G nL Q cells slots n σ pc lv (.int y :: .int x :: st) := fun H locs ls h1 h2 h3 => lv_ishl C.1 C.2.1 hdg (hv ▸ kk H locs ls h1 h2 h3)
set_option maxHeartbeats 1000000 in
theorem r_ishr (C : Cx p s m args c cc nL own G) {x y : Int32} (hdg : decode cc pc = .ok (.ishr, 1)) (kk : V p l e R s m args below meth c G nL Q cells slots n σ (pc + 1) lv (.int (x >>> (y &&& 31)) :: st)) : V p l e R s m args below meth c G nL Q cells slots n σ pc lv (.int y :: .int x :: st) := fun H locs ls h1 h2 h3 => lv_ishr C.1 C.2.1 hdg (kk H locs ls h1 h2 h3)
set_option maxHeartbeats 1000000 in
theorem r_ishrE (C : Cx p s m args c cc nL own G) {x y : Int32} {v : Int32} (hdg : decode cc pc = .ok (.ishr, 1)) (hv : x >>> (y &&& 31) = v) (kk : V p l e R s m args below meth c G nL Q cells slots n σ (pc + 1) lv (.int v :: st)) : V p l e R s m args below meth c G nL Q cells slots n σ pc lv (.int y :: .int x :: st) := fun H locs ls h1 h2 h3 => lv_ishr C.1 C.2.1 hdg (hv ▸ kk H locs ls h1 h2 h3)
set_option maxHeartbeats 1000000 in
theorem r_idiv (C : Cx p s m args c cc nL own G) {x y : Int32} (hdg : decode cc pc = .ok (.idiv, 1)) (hne : ¬ y = 0) (kk : V p l e R s m args below meth c G nL Q cells slots n σ (pc + 1) lv (.int (x / y) :: st)) : V p l e R s m args below meth c G nL Q cells slots n σ pc lv (.int y :: .int x :: st) := fun H locs ls h1 h2 h3 => lv_idiv C.1 C.2.1 hdg hne (kk H locs ls h1 h2 h3)
set_option maxHeartbeats 1000000 in
theorem r_idivE (C : Cx p s m args c cc nL own G) {x y : Int32} {v : Int32} (hdg : decode cc pc = .ok (.idiv, 1)) (hne : ¬ y = 0) (hv : x / y = v) (kk : V p l e R s m args below meth c G nL Q cells slots n σ (pc + 1) lv (.int v :: st)) : V p l e R s m args below meth c G nL Q cells slots n σ pc lv (.int y :: .int x :: st) := fun H locs ls h1 h2 h3 => lv_idiv C.1 C.2.1 hdg hne (hv ▸ kk H locs ls h1 h2 h3)
set_option maxHeartbeats 1000000 in
theorem r_irem (C : Cx p s m args c cc nL own G) {x y : Int32} (hdg : decode cc pc = .ok (.irem, 1)) (hne : ¬ y = 0) (kk : V p l e R s m args below meth c G nL Q cells slots n σ (pc + 1) lv (.int (x - x / y * y) :: st)) : V p l e R s m args below meth c G nL Q cells slots n σ pc lv (.int y :: .int x :: st) := fun H locs ls h1 h2 h3 => lv_irem C.1 C.2.1 hdg hne (kk H locs ls h1 h2 h3)
set_option maxHeartbeats 1000000 in
theorem r_iremE (C : Cx p s m args c cc nL own G) {x y : Int32} {v : Int32} (hdg : decode cc pc = .ok (.irem, 1)) (hne : ¬ y = 0) (hv : x - x / y * y = v) (kk : V p l e R s m args below meth c G nL Q cells slots n σ (pc + 1) lv (.int v :: st)) : V p l e R s m args below meth c G nL Q cells slots n σ pc lv (.int y :: .int x :: st) := fun H locs ls h1 h2 h3 => lv_irem C.1 C.2.1 hdg hne (hv ▸ kk H locs ls h1 h2 h3)
set_option maxHeartbeats 1000000 in
theorem r_iushr (C : Cx p s m args c cc nL own G) {x y v : Int32} (hdg : decode cc pc = .ok (.iushr, 1)) (hv : (x.toUInt32 >>> (y.toUInt32 &&& Int32.toUInt32 31)).toInt32 = v) (kk : V p l e R s m args below meth c G nL Q cells slots n σ (pc + 1) lv (.int v :: st)) : V p l e R s m args below meth c G nL Q cells slots n σ pc lv (.int y :: .int x :: st) := fun H locs ls h1 h2 h3 => lv_iushr C.1 C.2.1 hdg hv (kk H locs ls h1 h2 h3)
set_option maxHeartbeats 1000000 in
theorem r_i2c (C : Cx p s m args c cc nL own G) {x v : Int32} (hdg : decode cc pc = .ok (.i2c, 1)) (hv : (x.toUInt32 % 65536).toInt32 = v) (kk : V p l e R s m args below meth c G nL Q cells slots n σ (pc + 1) lv (.int v :: st)) : V p l e R s m args below meth c G nL Q cells slots n σ pc lv (.int x :: st) := fun H locs ls h1 h2 h3 => lv_i2c C.1 C.2.1 hdg hv (kk H locs ls h1 h2 h3)
set_option maxHeartbeats 1000000 in
theorem r_dup (C : Cx p s m args c cc nL own G) {va : Value} (hdg : decode cc pc = .ok (.dup, 1)) (hva : va.category = 1) (kk : V p l e R s m args below meth c G nL Q cells slots n σ (pc + 1) lv (va :: va :: st)) : V p l e R s m args below meth c G nL Q cells slots n σ pc lv (va :: st) := fun H locs ls h1 h2 h3 => lv_dup C.1 C.2.1 hdg hva (kk H locs ls h1 h2 h3)
set_option maxHeartbeats 1000000 in
theorem r_pop (C : Cx p s m args c cc nL own G) {va : Value} (hdg : decode cc pc = .ok (.pop, 1)) (hva : va.category = 1) (kk : V p l e R s m args below meth c G nL Q cells slots n σ (pc + 1) lv st) : V p l e R s m args below meth c G nL Q cells slots n σ pc lv (va :: st) := fun H locs ls h1 h2 h3 => lv_pop C.1 C.2.1 hdg hva (kk H locs ls h1 h2 h3)
set_option maxHeartbeats 1000000 in
theorem r_dup2 (C : Cx p s m args c cc nL own G) {va vb : Value} (hdg : decode cc pc = .ok (.dup2, 1)) (hva : va.category = 1) (hvb : vb.category = 1) (kk : V p l e R s m args below meth c G nL Q cells slots n σ (pc + 1) lv (va :: vb :: va :: vb :: st)) : V p l e R s m args below meth c G nL Q cells slots n σ pc lv (va :: vb :: st) := fun H locs ls h1 h2 h3 => lv_dup2_11 C.1 C.2.1 hdg hva hvb (kk H locs ls h1 h2 h3)
set_option maxHeartbeats 1000000 in
theorem r_null (C : Cx p s m args c cc nL own G) (hdg : decode cc pc = .ok (.aconst_null, 1)) (kk : V p l e R s m args below meth c G nL Q cells slots n σ (pc + 1) lv (.null :: st)) : V p l e R s m args below meth c G nL Q cells slots n σ pc lv st := fun H locs ls h1 h2 h3 => lv_null C.1 C.2.1 hdg (kk H locs ls h1 h2 h3)
set_option maxHeartbeats 1000000 in
theorem r_if_eq (C : Cx p s m args c cc nL own G) {x : Int32} {off : Int} {tgt : Nat} (hdg : decode cc pc = .ok (.ifCond .eq off, 3)) (ht : (pc : Int) + off = (tgt : Int)) (kt : x = 0 → V p l e R s m args below meth c G nL Q cells slots n σ tgt lv st) (kf : ¬ x = 0 → V p l e R s m args below meth c G nL Q cells slots n σ (pc + 3) lv st) : V p l e R s m args below meth c G nL Q cells slots n σ pc lv (.int x :: st) := fun H locs ls h1 h2 h3 => lv_if_eq C.1 C.2.1 hdg ht (fun z => kt z H locs ls h1 h2 h3) (fun z => kf z H locs ls h1 h2 h3)
set_option maxHeartbeats 1000000 in
theorem r_if_ne (C : Cx p s m args c cc nL own G) {x : Int32} {off : Int} {tgt : Nat} (hdg : decode cc pc = .ok (.ifCond .ne off, 3)) (ht : (pc : Int) + off = (tgt : Int)) (kt : ¬ x = 0 → V p l e R s m args below meth c G nL Q cells slots n σ tgt lv st) (kf : x = 0 → V p l e R s m args below meth c G nL Q cells slots n σ (pc + 3) lv st) : V p l e R s m args below meth c G nL Q cells slots n σ pc lv (.int x :: st) := fun H locs ls h1 h2 h3 => lv_if_ne C.1 C.2.1 hdg ht (fun z => kt z H locs ls h1 h2 h3) (fun z => kf z H locs ls h1 h2 h3)
set_option maxHeartbeats 1000000 in
theorem r_if_lt (C : Cx p s m args c cc nL own G) {x : Int32} {off : Int} {tgt : Nat} (hdg : decode cc pc = .ok (.ifCond .lt off, 3)) (ht : (pc : Int) + off = (tgt : Int)) (kt : x < 0 → V p l e R s m args below meth c G nL Q cells slots n σ tgt lv st) (kf : ¬ x < 0 → V p l e R s m args below meth c G nL Q cells slots n σ (pc + 3) lv st) : V p l e R s m args below meth c G nL Q cells slots n σ pc lv (.int x :: st) := fun H locs ls h1 h2 h3 => lv_if_lt C.1 C.2.1 hdg ht (fun z => kt z H locs ls h1 h2 h3) (fun z => kf z H locs ls h1 h2 h3)
set_option maxHeartbeats 1000000 in
theorem r_if_ge (C : Cx p s m args c cc nL own G) {x : Int32} {off : Int} {tgt : Nat} (hdg : decode cc pc = .ok (.ifCond .ge off, 3)) (ht : (pc : Int) + off = (tgt : Int)) (kt : 0 ≤ x → V p l e R s m args below meth c G nL Q cells slots n σ tgt lv st) (kf : ¬ 0 ≤ x → V p l e R s m args below meth c G nL Q cells slots n σ (pc + 3) lv st) : V p l e R s m args below meth c G nL Q cells slots n σ pc lv (.int x :: st) := fun H locs ls h1 h2 h3 => lv_if_ge C.1 C.2.1 hdg ht (fun z => kt z H locs ls h1 h2 h3) (fun z => kf z H locs ls h1 h2 h3)
set_option maxHeartbeats 1000000 in
theorem r_if_gt (C : Cx p s m args c cc nL own G) {x : Int32} {off : Int} {tgt : Nat} (hdg : decode cc pc = .ok (.ifCond .gt off, 3)) (ht : (pc : Int) + off = (tgt : Int)) (kt : 0 < x → V p l e R s m args below meth c G nL Q cells slots n σ tgt lv st) (kf : ¬ 0 < x → V p l e R s m args below meth c G nL Q cells slots n σ (pc + 3) lv st) : V p l e R s m args below meth c G nL Q cells slots n σ pc lv (.int x :: st) := fun H locs ls h1 h2 h3 => lv_if_gt C.1 C.2.1 hdg ht (fun z => kt z H locs ls h1 h2 h3) (fun z => kf z H locs ls h1 h2 h3)
set_option maxHeartbeats 1000000 in
theorem r_if_le (C : Cx p s m args c cc nL own G) {x : Int32} {off : Int} {tgt : Nat} (hdg : decode cc pc = .ok (.ifCond .le off, 3)) (ht : (pc : Int) + off = (tgt : Int)) (kt : x ≤ 0 → V p l e R s m args below meth c G nL Q cells slots n σ tgt lv st) (kf : ¬ x ≤ 0 → V p l e R s m args below meth c G nL Q cells slots n σ (pc + 3) lv st) : V p l e R s m args below meth c G nL Q cells slots n σ pc lv (.int x :: st) := fun H locs ls h1 h2 h3 => lv_if_le C.1 C.2.1 hdg ht (fun z => kt z H locs ls h1 h2 h3) (fun z => kf z H locs ls h1 h2 h3)
set_option maxHeartbeats 1000000 in
theorem r_icmp_eq (C : Cx p s m args c cc nL own G) {x y : Int32} {off : Int} {tgt : Nat} (hdg : decode cc pc = .ok (.if_icmp .eq off, 3)) (ht : (pc : Int) + off = (tgt : Int)) (kt : x = y → V p l e R s m args below meth c G nL Q cells slots n σ tgt lv st) (kf : ¬ x = y → V p l e R s m args below meth c G nL Q cells slots n σ (pc + 3) lv st) : V p l e R s m args below meth c G nL Q cells slots n σ pc lv (.int y :: .int x :: st) := fun H locs ls h1 h2 h3 => lv_icmp_eq C.1 C.2.1 hdg ht (fun z => kt z H locs ls h1 h2 h3) (fun z => kf z H locs ls h1 h2 h3)
set_option maxHeartbeats 1000000 in
theorem r_icmp_ne (C : Cx p s m args c cc nL own G) {x y : Int32} {off : Int} {tgt : Nat} (hdg : decode cc pc = .ok (.if_icmp .ne off, 3)) (ht : (pc : Int) + off = (tgt : Int)) (kt : ¬ x = y → V p l e R s m args below meth c G nL Q cells slots n σ tgt lv st) (kf : x = y → V p l e R s m args below meth c G nL Q cells slots n σ (pc + 3) lv st) : V p l e R s m args below meth c G nL Q cells slots n σ pc lv (.int y :: .int x :: st) := fun H locs ls h1 h2 h3 => lv_icmp_ne C.1 C.2.1 hdg ht (fun z => kt z H locs ls h1 h2 h3) (fun z => kf z H locs ls h1 h2 h3)
set_option maxHeartbeats 1000000 in
theorem r_icmp_lt (C : Cx p s m args c cc nL own G) {x y : Int32} {off : Int} {tgt : Nat} (hdg : decode cc pc = .ok (.if_icmp .lt off, 3)) (ht : (pc : Int) + off = (tgt : Int)) (kt : x < y → V p l e R s m args below meth c G nL Q cells slots n σ tgt lv st) (kf : ¬ x < y → V p l e R s m args below meth c G nL Q cells slots n σ (pc + 3) lv st) : V p l e R s m args below meth c G nL Q cells slots n σ pc lv (.int y :: .int x :: st) := fun H locs ls h1 h2 h3 => lv_icmp_lt C.1 C.2.1 hdg ht (fun z => kt z H locs ls h1 h2 h3) (fun z => kf z H locs ls h1 h2 h3)
set_option maxHeartbeats 1000000 in
theorem r_icmp_ge (C : Cx p s m args c cc nL own G) {x y : Int32} {off : Int} {tgt : Nat} (hdg : decode cc pc = .ok (.if_icmp .ge off, 3)) (ht : (pc : Int) + off = (tgt : Int)) (kt : y ≤ x → V p l e R s m args below meth c G nL Q cells slots n σ tgt lv st) (kf : ¬ y ≤ x → V p l e R s m args below meth c G nL Q cells slots n σ (pc + 3) lv st) : V p l e R s m args below meth c G nL Q cells slots n σ pc lv (.int y :: .int x :: st) := fun H locs ls h1 h2 h3 => lv_icmp_ge C.1 C.2.1 hdg ht (fun z => kt z H locs ls h1 h2 h3) (fun z => kf z H locs ls h1 h2 h3)
set_option maxHeartbeats 1000000 in
theorem r_icmp_gt (C : Cx p s m args c cc nL own G) {x y : Int32} {off : Int} {tgt : Nat} (hdg : decode cc pc = .ok (.if_icmp .gt off, 3)) (ht : (pc : Int) + off = (tgt : Int)) (kt : y < x → V p l e R s m args below meth c G nL Q cells slots n σ tgt lv st) (kf : ¬ y < x → V p l e R s m args below meth c G nL Q cells slots n σ (pc + 3) lv st) : V p l e R s m args below meth c G nL Q cells slots n σ pc lv (.int y :: .int x :: st) := fun H locs ls h1 h2 h3 => lv_icmp_gt C.1 C.2.1 hdg ht (fun z => kt z H locs ls h1 h2 h3) (fun z => kf z H locs ls h1 h2 h3)
set_option maxHeartbeats 1000000 in
theorem r_icmp_le (C : Cx p s m args c cc nL own G) {x y : Int32} {off : Int} {tgt : Nat} (hdg : decode cc pc = .ok (.if_icmp .le off, 3)) (ht : (pc : Int) + off = (tgt : Int)) (kt : x ≤ y → V p l e R s m args below meth c G nL Q cells slots n σ tgt lv st) (kf : ¬ x ≤ y → V p l e R s m args below meth c G nL Q cells slots n σ (pc + 3) lv st) : V p l e R s m args below meth c G nL Q cells slots n σ pc lv (.int y :: .int x :: st) := fun H locs ls h1 h2 h3 => lv_icmp_le C.1 C.2.1 hdg ht (fun z => kt z H locs ls h1 h2 h3) (fun z => kf z H locs ls h1 h2 h3)
set_option maxHeartbeats 1000000 in
theorem r_goto (C : Cx p s m args c cc nL own G) {off : Int} {tgt : Nat} (hdg : decode cc pc = .ok (.goto off, 3)) (ht : (pc : Int) + off = (tgt : Int)) (kk : V p l e R s m args below meth c G nL Q cells slots n σ tgt lv st) : V p l e R s m args below meth c G nL Q cells slots n σ pc lv st := fun H locs ls h1 h2 h3 => lv_goto C.1 C.2.1 hdg ht (kk H locs ls h1 h2 h3)
set_option maxHeartbeats 1000000 in
theorem r_ifnull (C : Cx p s m args c cc nL own G) {x : Nat} {off : Int} (hdg : decode cc pc = .ok (.ifnull off, 3)) (kk : V p l e R s m args below meth c G nL Q cells slots n σ (pc + 3) lv st) : V p l e R s m args below meth c G nL Q cells slots n σ pc lv (.ref x :: st) := fun H locs ls h1 h2 h3 => lv_ifnull C.1 C.2.1 hdg (kk H locs ls h1 h2 h3)
set_option maxHeartbeats 1000000 in
theorem r_ifnullN (C : Cx p s m args c cc nL own G) {off : Int} {tgt : Nat} (hdg : decode cc pc = .ok (.ifnull off, 3)) (ht : (pc : Int) + off = (tgt : Int)) (kk : V p l e R s m args below meth c G nL Q cells slots n σ tgt lv st) : V p l e R s m args below meth c G nL Q cells slots n σ pc lv (.null :: st) := fun H locs ls h1 h2 h3 => lv_ifnullN C.1 C.2.1 hdg ht (kk H locs ls h1 h2 h3)
set_option maxHeartbeats 1000000 in
theorem r_ifnonnull (C : Cx p s m args c cc nL own G) {x : Nat} {off : Int} {tgt : Nat} (hdg : decode cc pc = .ok (.ifnonnull off, 3)) (ht : (pc : Int) + off = (tgt : Int)) (kk : V p l e R s m args below meth c G nL Q cells slots n σ tgt lv st) : V p l e R s m args below meth c G nL Q cells slots n σ pc lv (.ref x :: st) := fun H locs ls h1 h2 h3 => lv_ifnonnull C.1 C.2.1 hdg ht (kk H locs ls h1 h2 h3)
set_option maxHeartbeats 1000000 in
theorem r_ifnonnullN (C : Cx p s m args c cc nL own G) {off : Int} (hdg : decode cc pc = .ok (.ifnonnull off, 3)) (kk : V p l e R s m args below meth c G nL Q cells slots n σ (pc + 3) lv st) : V p l e R s m args below meth c G nL Q cells slots n σ pc lv (.null :: st) := fun H locs ls h1 h2 h3 => lv_ifnonnullN C.1 C.2.1 hdg (kk H locs ls h1 h2 h3)
set_option maxHeartbeats 1000000 in
theorem r_iload_n (C : Cx p s m args c cc nL own G) {k : Fin 4} {i : Nat} {x : Int32} (hdg : decode cc pc = .ok (.iload_n k, 1)) (hi : (k : Nat) = i) (j : Nat) (hl : lv[j]? = some (i, .int x)) (kk : V p l e R s m args below meth c G nL Q cells slots n σ (pc + 1) lv (.int x :: st)) : V p l e R s m args below meth c G nL Q cells slots n σ pc lv st := fun H locs ls h1 h2 h3 => lv_iload_n C.1 C.2.1 hdg hi (lv_at h3 j hl) (kk H locs ls h1 h2 h3)
set_option maxHeartbeats 1000000 in
theorem r_iload (C : Cx p s m args c cc nL own G) {i : Nat} {x : Int32} (hdg : decode cc pc = .ok (.iload i, 2)) (j : Nat) (hl : lv[j]? = some (i, .int x)) (kk : V p l e R s m args below meth c G nL Q cells slots n σ (pc + 2) lv (.int x :: st)) : V p l e R s m args below meth c G nL Q cells slots n σ pc lv st := fun H locs ls h1 h2 h3 => lv_iload C.1 C.2.1 hdg (lv_at h3 j hl) (kk H locs ls h1 h2 h3)
set_option maxHeartbeats 1000000 in
theorem r_aload_n (C : Cx p s m args c cc nL own G) {k : Fin 4} {i : Nat} {x : Nat} (hdg : decode cc pc = .ok (.aload_n k, 1)) (hi : (k : Nat) = i) (j : Nat) (hl : lv[j]? = some (i, .ref x)) (kk : V p l e R s m args below meth c G nL Q cells slots n σ (pc + 1) lv (.ref x :: st)) : V p l e R s m args below meth c G nL Q cells slots n σ pc lv st := fun H locs ls h1 h2 h3 => lv_aload_n C.1 C.2.1 hdg hi (lv_at h3 j hl) (kk H locs ls h1 h2 h3)
set_option maxHeartbeats 1000000 in
theorem r_aload (C : Cx p s m args c cc nL own G) {i : Nat} {x : Nat} (hdg : decode cc pc = .ok (.aload i, 2)) (j : Nat) (hl : lv[j]? = some (i, .ref x)) (kk : V p l e R s m args below meth c G nL Q cells slots n σ (pc + 2) lv (.ref x :: st)) : V p l e R s m args below meth c G nL Q cells slots n σ pc lv st := fun H locs ls h1 h2 h3 => lv_aload C.1 C.2.1 hdg (lv_at h3 j hl) (kk H locs ls h1 h2 h3)
set_option maxHeartbeats 1000000 in
theorem r_aload_nN (C : Cx p s m args c cc nL own G) {k : Fin 4} {i : Nat} (hdg : decode cc pc = .ok (.aload_n k, 1)) (hi : (k : Nat) = i) (j : Nat) (hl : lv[j]? = some (i, .null)) (kk : V p l e R s m args below meth c G nL Q cells slots n σ (pc + 1) lv (.null :: st)) : V p l e R s m args below meth c G nL Q cells slots n σ pc lv st := fun H locs ls h1 h2 h3 => lv_aload_nN C.1 C.2.1 hdg hi (lv_at h3 j hl) (kk H locs ls h1 h2 h3)
set_option maxHeartbeats 1000000 in
theorem r_aloadN (C : Cx p s m args c cc nL own G) {i : Nat} (hdg : decode cc pc = .ok (.aload i, 2)) (j : Nat) (hl : lv[j]? = some (i, .null)) (kk : V p l e R s m args below meth c G nL Q cells slots n σ (pc + 2) lv (.null :: st)) : V p l e R s m args below meth c G nL Q cells slots n σ pc lv st := fun H locs ls h1 h2 h3 => lv_aloadN C.1 C.2.1 hdg (lv_at h3 j hl) (kk H locs ls h1 h2 h3)
set_option maxHeartbeats 1000000 in
theorem r_istore_n (C : Cx p s m args c cc nL own G) {k : Fin 4} {i : Nat} {x : Int32} (hdg : decode cc pc = .ok (.istore_n k, 1)) (hi : (k : Nat) = i) {lv2 : List (Nat × Value)} (hn : i < nL) (hl : (i, Value.int x) :: lv.filter (fun q => !(q.1 == i) && !(q.1 + 1 == i && q.2.category == 2)) = lv2) (kk : V p l e R s m args below meth c G nL Q cells slots n σ (pc + 1) lv2 st) : V p l e R s m args below meth c G nL Q cells slots n σ pc lv (.int x :: st) := fun H locs ls h1 h2 h3 => lv_istore_n C.1 C.2.1 hdg hi h3 hn hl (fun ls3 h4 => kk H locs ls3 h1 h2 h4)
set_option maxHeartbeats 1000000 in
theorem r_istore (C : Cx p s m args c cc nL own G) {i : Nat} {x : Int32} (hdg : decode cc pc = .ok (.istore i, 2)) {lv2 : List (Nat × Value)} (hn : i < nL) (hl : (i, Value.int x) :: lv.filter (fun q => !(q.1 == i) && !(q.1 + 1 == i && q.2.category == 2)) = lv2) (kk : V p l e R s m args below meth c G nL Q cells slots n σ (pc + 2) lv2 st) : V p l e R s m args below meth c G nL Q cells slots n σ pc lv (.int x :: st) := fun H locs ls h1 h2 h3 => lv_istore C.1 C.2.1 hdg h3 hn hl (fun ls3 h4 => kk H locs ls3 h1 h2 h4)
set_option maxHeartbeats 1000000 in
theorem r_astore_n (C : Cx p s m args c cc nL own G) {k : Fin 4} {i : Nat} {x : Nat} (hdg : decode cc pc = .ok (.astore_n k, 1)) (hi : (k : Nat) = i) {lv2 : List (Nat × Value)} (hn : i < nL) (hl : (i, Value.ref x) :: lv.filter (fun q => !(q.1 == i) && !(q.1 + 1 == i && q.2.category == 2)) = lv2) (kk : V p l e R s m args below meth c G nL Q cells slots n σ (pc + 1) lv2 st) : V p l e R s m args below meth c G nL Q cells slots n σ pc lv (.ref x :: st) := fun H locs ls h1 h2 h3 => lv_astore_n C.1 C.2.1 hdg hi h3 hn hl (fun ls3 h4 => kk H locs ls3 h1 h2 h4)
set_option maxHeartbeats 1000000 in
theorem r_astore (C : Cx p s m args c cc nL own G) {i : Nat} {x : Nat} (hdg : decode cc pc = .ok (.astore i, 2)) {lv2 : List (Nat × Value)} (hn : i < nL) (hl : (i, Value.ref x) :: lv.filter (fun q => !(q.1 == i) && !(q.1 + 1 == i && q.2.category == 2)) = lv2) (kk : V p l e R s m args below meth c G nL Q cells slots n σ (pc + 2) lv2 st) : V p l e R s m args below meth c G nL Q cells slots n σ pc lv (.ref x :: st) := fun H locs ls h1 h2 h3 => lv_astore C.1 C.2.1 hdg h3 hn hl (fun ls3 h4 => kk H locs ls3 h1 h2 h4)
set_option maxHeartbeats 1000000 in
theorem r_astore_nN (C : Cx p s m args c cc nL own G) {k : Fin 4} {i : Nat} (hdg : decode cc pc = .ok (.astore_n k, 1)) (hi : (k : Nat) = i) {lv2 : List (Nat × Value)} (hn : i < nL) (hl : (i, Value.null) :: lv.filter (fun q => !(q.1 == i) && !(q.1 + 1 == i && q.2.category == 2)) = lv2) (kk : V p l e R s m args below meth c G nL Q cells slots n σ (pc + 1) lv2 st) : V p l e R s m args below meth c G nL Q cells slots n σ pc lv (.null :: st) := fun H locs ls h1 h2 h3 => lv_astore_nN C.1 C.2.1 hdg hi h3 hn hl (fun ls3 h4 => kk H locs ls3 h1 h2 h4)
set_option maxHeartbeats 1000000 in
theorem r_astoreN (C : Cx p s m args c cc nL own G) {i : Nat} (hdg : decode cc pc = .ok (.astore i, 2)) {lv2 : List (Nat × Value)} (hn : i < nL) (hl : (i, Value.null) :: lv.filter (fun q => !(q.1 == i) && !(q.1 + 1 == i && q.2.category == 2)) = lv2) (kk : V p l e R s m args below meth c G nL Q cells slots n σ (pc + 2) lv2 st) : V p l e R s m args below meth c G nL Q cells slots n σ pc lv (.null :: st) := fun H locs ls h1 h2 h3 => lv_astoreN C.1 C.2.1 hdg h3 hn hl (fun ls3 h4 => kk H locs ls3 h1 h2 h4)
set_option maxHeartbeats 1000000 in
theorem r_iinc (C : Cx p s m args c cc nL own G) {i k : Nat} {n0 : Int} {x v : Int32} {lv2 : List (Nat × Value)} (hdg : decode cc pc = .ok (.iinc i n0, 3)) (hk : lv[k]? = some (i, .int x)) (hv : x + Int32.ofInt n0 = v) (hn : i < nL) (hl : (i, Value.int v) :: lv.filter (fun q => !(q.1 == i) && !(q.1 + 1 == i && q.2.category == 2)) = lv2) (kk : V p l e R s m args below meth c G nL Q cells slots n σ (pc + 3) lv2 st) : V p l e R s m args below meth c G nL Q cells slots n σ pc lv st := fun H locs ls h1 h2 h3 => lv_iinc C.1 C.2.1 hdg h3 hk hv hn hl (fun ls3 h4 => kk H locs ls3 h1 h2 h4)
set_option maxHeartbeats 1000000 in
theorem r_tableIn (C : Cx p s m args c cc nL own G) {dflt lo hi : Int} {offs : Array Int} {len : Nat} {x : Int32} {off : Int} {tgt : Nat} (hdg : decode cc pc = .ok (.tableswitch dflt lo hi offs, len)) (h1 : ¬ x.toInt < lo) (h2 : ¬ hi < x.toInt) (ho : offs[(x.toInt - lo).toNat]? = some off) (ht : (pc : Int) + off = (tgt : Int)) (kk : V p l e R s m args below meth c G nL Q cells slots n σ tgt lv st) : V p l e R s m args below meth c G nL Q cells slots n σ pc lv (.int x :: st) := fun H locs ls g1 g2 g3 => lv_tableIn C.1 C.2.1 hdg h1 h2 ho ht (kk H locs ls g1 g2 g3)
set_option maxHeartbeats 1000000 in
theorem r_tableOut (C : Cx p s m args c cc nL own G) {dflt lo hi : Int} {offs : Array Int} {len : Nat} {x : Int32} {tgt : Nat} (hdg : decode cc pc = .ok (.tableswitch dflt lo hi offs, len)) (h0 : x.toInt < lo ∨ hi < x.toInt) (ht : (pc : Int) + dflt = (tgt : Int)) (kk : V p l e R s m args below meth c G nL Q cells slots n σ tgt lv st) : V p l e R s m args below meth c G nL Q cells slots n σ pc lv (.int x :: st) := fun H locs ls h1 h2 h3 => lv_tableOut C.1 C.2.1 hdg h0 ht (kk H locs ls h1 h2 h3)
set_option maxHeartbeats 1000000 in
theorem r_get (C : Cx p s m args c cc nL own G) {ref Cn : String} {T : u_T} {N ci index a : Nat} (hin : ∀ w ∈ u_ws Cn T N, w ∈ wsL_law) {fs : List Value} (he : σ a = some (.inr (ci, fs))) (hc : vwCl[ci]? = some (Cn, T, N)) (k : Nat) (hk : k < N) (hlink : Cond.fieldLink own index ref (T k).2.1 (T k).2.2.1 ∈ wsL_law) (hsame : ∀ x, s.fieldFound? (T k).1 (T k).2.1 (T k).2.2.1 = some x → s.fieldFound? ref (T k).2.1 (T k).2.2.1 = some x) {v : Value} (hv : fs[k]? = some v) (hdg : decode cc pc = .ok (.getfield index, 3)) (kk : V p l e R s m args below meth c G nL Q cells slots n σ (pc + 3) lv (v :: st)) : V p l e R s m args below meth c G nL Q cells slots n σ pc lv (.ref a :: st) := fun H locs ls h1 h2 h3 => va_get C.1 C.2.1 C.2.2.2.2.1 hin C.2.2.2.1 C.2.2.2.2.2.1 (h1.one he) 0 rfl hc k hk (C.2.2.2.2.1 _ hlink) hsame hv hdg (kk H locs ls h1 h2 h3)
set_option maxHeartbeats 1000000 in
theorem r_iald (C : Cx p s m args c cc nL own G) {a len : Nat} {f : Nat → Int32} (ha : σ a = some (aI G len f)) {i : Int32} (hi : vp_in i len) (hdg : decode cc pc = .ok (.iaload, 1)) (kk : V p l e R s m args below meth c G nL Q cells slots n σ (pc + 1) lv (.int (f i.toNatClampNeg) :: st)) : V p l e R s m args below meth c G nL Q cells slots n σ pc lv (.int i :: .ref a :: st) := fun H locs ls h1 h2 h3 => va_iald C.1 C.2.1 C.2.2.2.2.2.1 (h1.one ha) 0 0 rfl rfl hi hdg (kk H locs ls h1 h2 h3)
set_option maxHeartbeats 1000000 in
theorem r_ialdN (C : Cx p s m args c cc nL own G) {a len : Nat} {f : Nat → Int32} (ha : σ a = some (aI G len f)) {i : Nat} (hi : i < len) (hb : len < 2 ^ 31) (hdg : decode cc pc = .ok (.iaload, 1)) (kk : V p l e R s m args below meth c G nL Q cells slots n σ (pc + 1) lv (.int (f i) :: st)) : V p l e R s m args below meth c G nL Q cells slots n σ pc lv (.int (nI i) :: .ref a :: st) := r_iald C ha (vp_in_nI hi hb) hdg (by rw [nI_clamp (Nat.lt_trans hi hb)]; exact kk)
set_option maxHeartbeats 1000000 in
theorem r_aald (C : Cx p s m args c cc nL own G) (t0 : Nat) {a len : Nat} {Cn : String} {f : Nat → Option Nat} (ha : σ a = some (aR t0 G len f)) (ht : (gK G.2.1)[t0]? = some (G.2.1 t0, .object Cn)) {i : Nat} (hi : i < len) (hb : len < 2 ^ 31) (hdg : decode cc pc = .ok (.aaload, 1)) (kk : V p l e R s m args below meth c G nL Q cells slots n σ (pc + 1) lv (va_rf (f i) :: st)) : V p l e R s m args below meth c G nL Q cells slots n σ pc lv (.int (nI i) :: .ref a :: st) := fun H locs ls h1 h2 h3 => va_aldq C.1 C.2.1 C.2.2.2.2.2.1 (h1.one ha) 0 t0 rfl ht (vp_in_nI hi hb) hdg (by rw [nI_clamp (Nat.lt_trans hi hb)]; exact kk H locs ls h1 h2 h3)
set_option maxHeartbeats 1000000 in
theorem r_alenI (C : Cx p s m args c cc nL own G) {a len : Nat} {f : Nat → Int32} (ha : σ a = some (aI G len f)) (hdg : decode cc pc = .ok (.arraylength, 1)) (kk : V p l e R s m args below meth c G nL Q cells slots n σ (pc + 1) lv (.int (nI len) :: st)) : V p l e R s m args below meth c G nL Q cells slots n σ pc lv (.ref a :: st) := fun H locs ls h1 h2 h3 => va_alen C.1 C.2.1 C.2.2.2.2.2.1 (h1.one ha) 0 0 rfl rfl rfl hdg (kk H locs ls h1 h2 h3)
set_option maxHeartbeats 1000000 in
theorem r_alenR (C : Cx p s m args c cc nL own G) (t0 : Nat) {a len : Nat} {Cn : String} {f : Nat → Option Nat} (ha : σ a = some (aR t0 G len f)) (ht : (gK G.2.1)[t0]? = some (G.2.1 t0, .object Cn)) (hdg : decode cc pc = .ok (.arraylength, 1)) (kk : V p l e R s m args below meth c G nL Q cells slots n σ (pc + 1) lv (.int (nI len) :: st)) : V p l e R s m args below meth c G nL Q cells slots n σ pc lv (.ref a :: st) := fun H locs ls h1 h2 h3 => va_alen C.1 C.2.1 C.2.2.2.2.2.1 (h1.one ha) 0 t0 rfl ht rfl hdg (kk H locs ls h1 h2 h3)
set_option maxHeartbeats 1000000 in
theorem r_put (C : Cx p s m args c cc nL own G) {ref Cn : String} {T : u_T} {N ci index a : Nat} (hin : ∀ w ∈ u_ws Cn T N, w ∈ wsL_law) (ty0 : Nat → FieldType) (hty : ∀ k, k < N → parseFieldDescriptor (T k).2.2.1 = some (ty0 k)) (hnm : ∀ a, a < N → ∀ b, b < N → a ≠ b → (T a).2.1 ≠ (T b).2.1) {fs : List Value} (he : σ a = some (.inr (ci, fs))) (hc : vwCl[ci]? = some (Cn, T, N)) (k : Nat) (hk : k < N) (hlink : Cond.fieldLink own index ref (T k).2.1 (T k).2.2.1 ∈ wsL_law) (hsame : ∀ x, s.fieldFound? (T k).1 (T k).2.1 (T k).2.2.1 = some x → s.fieldFound? ref (T k).2.1 (T k).2.2.1 = some x) (hfin : (T k).2.2.2 = false) {ty : FieldType} {v : Value} (hd : parseFieldDescriptor (T k).2.2.1 = some ty) (hn : narrow ty v = v) (hfit : fits ty v = true) (hl : k < fs.length) {fs2 : List Value} (hfs : fs.set k v = fs2) (hdg : decode cc pc = .ok (.putfield index, 3)) (kk : V p l e R s m args below meth c G nL Q cells slots n (hU σ a (.inr (ci, fs2))) (pc + 3) lv st) : V p l e R s m args below meth c G nL Q cells slots n σ pc lv (v :: .ref a :: st) := by
  intro H locs ls h1 h2 h3
  subst hfs
  obtain ⟨hx, hb, hml, hown, hts, hK, hb0, hN⟩ := C
  have hap := va_apart (own := own) hts hin ty0 hty hnm hK hc
  obtain ⟨r, g1, cell, q1, q2, q3, q4⟩ := (h1.2 a _ he).2
  have hr : r = (Cn, T, N) := Option.some.inj (g1.symm.trans hc)
  subst hr
  obtain ⟨hS, hfc, kC, hkC, hkind⟩ := hK.1 ci _ hc
  obtain ⟨cf, kf, fi, f, hi, hsl⟩ := hS k hk
  have hlay := hts _ (hin _ (u_in_lay hk))
  unfold u_lay at hlay
  rw [if_neg (by rw [hfin]; decide)] at hlay
  have hst := (u_facts hfc hkC (u_lays hts hin hk) hi).1
  have h6 := u_store hfc hkC hkind hlay hi hd hn hfit
  refine W.putK hx hb (f := f) ⟨hown, hts _ hlink, ⟨_, _, _, hsame _ hi⟩, hst⟩ (by rw [q2]; exact h6) q1 q3 (by rw [hsl]; exact k2_hasslot (q4 k hk)) rfl rfl hdg fun H2 e1 e2 e3 => ?_
  rw [hsl] at e1 ⊢
  exact kk H2 _ ls (h1.put he e2 e3 ⟨_, hc, t_OB.to (V := updV (vp_V fs) k v) ⟨_, e1, q2, q3, t_set q4 hap hk v⟩ (fun j _ => vp_updV_set hl v j)⟩) (h2.put e2 e3 (h1.2 a _ he).1) h3
set_option maxHeartbeats 1000000 in
theorem r_putF (C : Cx p s m args c cc nL own G) {ref Cn : String} {T : u_T} {N ci index a : Nat} (hin : ∀ w ∈ u_ws Cn T N, w ∈ wsL_law) (ty0 : Nat → FieldType) (hty : ∀ k, k < N → parseFieldDescriptor (T k).2.2.1 = some (ty0 k)) (hnm : ∀ a, a < N → ∀ b, b < N → a ≠ b → (T a).2.1 ≠ (T b).2.1) {fs : List Value} (he : σ a = some (.inr (ci, fs))) (hc : vwCl[ci]? = some (Cn, T, N)) (k : Nat) (hk : k < N) (hlink : Cond.fieldLink own index ref (T k).2.1 (T k).2.2.1 ∈ wsL_law) (hsame : ∀ x, s.fieldFound? (T k).1 (T k).2.1 (T k).2.2.1 = some x → s.fieldFound? ref (T k).2.1 (T k).2.2.1 = some x) (hfin : (T k).2.2.2 = true) (hin2 : meth.name = "<init>") (hdecl : (T k).1 = own) {ty : FieldType} {v : Value} (hd : parseFieldDescriptor (T k).2.2.1 = some ty) (hn : narrow ty v = v) (hfit : fits ty v = true) (hl : k < fs.length) {fs2 : List Value} (hfs : fs.set k v = fs2) (hdg : decode cc pc = .ok (.putfield index, 3)) (kk : V p l e R s m args below meth c G nL Q cells slots n (hU σ a (.inr (ci, fs2))) (pc + 3) lv st) : V p l e R s m args below meth c G nL Q cells slots n σ pc lv (v :: .ref a :: st) := by
  intro H locs ls h1 h2 h3
  subst hfs
  obtain ⟨hx, hb, hml, hown, hts, hK, hb0, hN⟩ := C
  have hap := va_apart (own := own) hts hin ty0 hty hnm hK hc
  obtain ⟨r, g1, cell, q1, q2, q3, q4⟩ := (h1.2 a _ he).2
  have hr : r = (Cn, T, N) := Option.some.inj (g1.symm.trans hc)
  subst hr
  obtain ⟨hS, hfc, kC, hkC, hkind⟩ := hK.1 ci _ hc
  obtain ⟨cf, kf, fi, f, hi, hsl⟩ := hS k hk
  have hlay := hts _ (hin _ (u_in_lay hk))
  unfold u_lay at hlay
  rw [if_pos hfin] at hlay
  have hst := (u_facts hfc hkC (u_lays hts hin hk) hi).1
  have hcf : m.cls = cf := by
    obtain ⟨_, _, c2, _, _, _, -, -, hf2, -, -, -, hown2, -⟩ := Cond.laysFinal_spec hlay
    have e1 : c2 = cf := by have := hi.symm.trans hf2; simp at this; exact this.1.symm
    rw [hdecl] at hown2
    rw [← e1]; exact Option.some.inj (hown.symm.trans hown2)
  have h6 := u_fits hfc hkC hkind (Or.inr hlay) hi hd hn hfit
  refine W.putFinK hx hb hown (hts _ hlink) (hsame _ hi) hst hcf hin2 (by rw [q2]; exact h6) q1 q3 (by rw [hsl]; exact k2_hasslot (q4 k hk)) rfl rfl hdg fun H2 e1 e2 e3 => ?_
  rw [hsl] at e1 ⊢
  exact kk H2 _ ls (h1.put he e2 e3 ⟨_, hc, t_OB.to (V := updV (vp_V fs) k v) ⟨_, e1, q2, q3, t_set q4 hap hk v⟩ (fun j _ => vp_updV_set hl v j)⟩) (h2.put e2 e3 (h1.2 a _ he).1) h3
set_option maxHeartbeats 1000000 in
theorem r_iast (C : Cx p s m args c cc nL own G) {a len : Nat} {f : Nat → Int32} (ha : σ a = some (aI G len f)) {i x : Int32} (hi : vp_in i len) (hdg : decode cc pc = .ok (.iastore, 1)) (kk : V p l e R s m args below meth c G nL Q cells slots n (hU σ a (aI G len (upd f i.toNatClampNeg x))) (pc + 1) lv st) : V p l e R s m args below meth c G nL Q cells slots n σ pc lv (.int x :: .int i :: .ref a :: st) := by
  intro H locs ls h1 h2 h3
  refine W.iast C.1 C.2.1 (h1.2 a _ ha).2 ((C.2.2.2.2.2.1.2 0 _ rfl).1 len (fun j => .int (f j))) (fun q => by cases q) (by show ¬ (i < 0 ∨ (arrV _ _ _).slots.size ≤ _); rw [arrV_size]; exact hi) rfl rfl hdg fun H2 e1 z oq => ?_
  refine kk H2 _ ls (h1.put ha z oq ?_) (h2.put z oq (h1.2 a _ ha).1) h3
  show H2[a]? = some (vp_cell _ _)
  rw [e1]
  rw [vp_cell_i, vp_cell_i, arrV_store]
  congr 2
  funext q
  by_cases hq : q = i.toNatClampNeg
  · subst hq
    simp [updV, upd]
  · simp [updV, upd, hq]
set_option maxHeartbeats 1000000 in
theorem r_iastN (C : Cx p s m args c cc nL own G) {a len : Nat} {f : Nat → Int32} (ha : σ a = some (aI G len f)) {i : Nat} {x : Int32} (hi : i < len) (hb : len < 2 ^ 31) (hdg : decode cc pc = .ok (.iastore, 1)) (kk : V p l e R s m args below meth c G nL Q cells slots n (hU σ a (aI G len (upd f i x))) (pc + 1) lv st) : V p l e R s m args below meth c G nL Q cells slots n σ pc lv (.int x :: .int (nI i) :: .ref a :: st) := r_iast C ha (vp_in_nI hi hb) hdg (by rw [nI_clamp (Nat.lt_trans hi hb)]; exact kk)
set_option maxHeartbeats 1000000 in
theorem r_aast (C : Cx p s m args c cc nL own G) (t0 : Nat) {a len v ci : Nat} {r : vw_C} {vs : List Value} {f : Nat → Option Nat} (ha : σ a = some (aR t0 G len f)) (ht : (gK G.2.1)[t0]? = some (G.2.1 t0, .object r.1)) (hv : σ v = some (.inr (ci, vs))) (hc : vwCl[ci]? = some r) {i : Nat} (hi : i < len) (hb : len < 2 ^ 31) (hdg : decode cc pc = .ok (.aastore, 1)) (kk : V p l e R s m args below meth c G nL Q cells slots n (hU σ a (aR t0 G len (va_up f i (some v)))) (pc + 1) lv st) : V p l e R s m args below meth c G nL Q cells slots n σ pc lv (.ref v :: .int (nI i) :: .ref a :: st) := by
  intro H locs ls h1 h2 h3
  have hi2 := vp_in_nI hi hb
  have hlt : (nI i).toNatClampNeg < len := Nat.not_le.mp fun q => hi2 (Or.inr q)
  have h0 : ¬ nI i < 0 := fun q => hi2 (Or.inl q)
  obtain ⟨r2, hr2, cellV, g1, g2, g3, -⟩ := (h1.2 v _ hv).2
  have hK := C.2.2.2.2.2.1
  have hcls := (hK.1 ci r hc).2
  obtain ⟨kA, comp, k1, k2, k3, -⟩ := (hK.2 t0 _ ht).2
  have hcomp : comp = G.1.1 ci := Option.some.inj (k3.symm.trans hcls.1)
  subst hcomp
  obtain ⟨kC, hkC, -⟩ := hcls.2
  refine W.aast C.1 C.2.1 (h1.2 a _ ha).2 (fun q h => by cases h) (fun h => by cases h) k1 k2 rfl hkC ⟨h0, by show _ < (arrV _ _ _).slots.size; rw [arrV_size]; exact hlt⟩ g1 (fun q h => by rw [g3] at h; cases h) (by rw [g2]; exact hkC) (by rw [g2]; exact va_assign hcls) rfl rfl hdg fun H2 e1 z oq => ?_
  rw [nI_clamp (Nat.lt_trans hi hb)] at e1 ⊢
  refine kk H2 _ ls (h1.put ha z oq ?_) (h2.put z oq (h1.2 a _ ha).1) h3
  show H2[a]? = some (vp_cell _ _)
  rw [e1]
  rw [vp_cell_q, vp_cell_q, arrV_store]
  congr 2
  funext q
  by_cases hq : q = i
  · subst hq
    simp [updV, va_up, va_rf]
  · simp [updV, va_up, hq]
set_option maxHeartbeats 1000000 in
theorem r_aastN (C : Cx p s m args c cc nL own G) (t0 : Nat) {a len : Nat} {Cn : String} {f : Nat → Option Nat} (ha : σ a = some (aR t0 G len f)) (ht : (gK G.2.1)[t0]? = some (G.2.1 t0, .object Cn)) {i : Nat} (hi : i < len) (hb : len < 2 ^ 31) (hdg : decode cc pc = .ok (.aastore, 1)) (kk : V p l e R s m args below meth c G nL Q cells slots n (hU σ a (aR t0 G len (va_up f i none))) (pc + 1) lv st) : V p l e R s m args below meth c G nL Q cells slots n σ pc lv (.null :: .int (nI i) :: .ref a :: st) := by
  intro H locs ls h1 h2 h3
  have hi2 := vp_in_nI hi hb
  refine va_WaastN (C := Cn) C.1 C.2.1 (h1.2 a _ ha).2 ((C.2.2.2.2.2.1.2 t0 _ ht).1 len (fun j => va_rf (f j))) (fun h => by cases h) (by show ¬ (nI i < 0 ∨ (arrV _ _ _).slots.size ≤ _); rw [arrV_size]; exact hi2) rfl rfl hdg fun H2 e1 z oq => ?_
  rw [nI_clamp (Nat.lt_trans hi hb)] at e1 ⊢
  refine kk H2 _ ls (h1.put ha z oq ?_) (h2.put z oq (h1.2 a _ ha).1) h3
  show H2[a]? = some (vp_cell _ _)
  rw [e1]
  rw [vp_cell_q, vp_cell_q, arrV_store]
  congr 2
  funext q
  by_cases hq : q = i
  · subst hq
    simp [updV, va_up, va_rf]
  · simp [updV, va_up, hq]
set_option maxHeartbeats 1000000 in
theorem r_new (C : Cx p s m args c cc nL own G) {Cn : String} {T : u_T} {N ci index : Nat} (hin : ∀ w ∈ u_ws Cn T N, w ∈ wsL_law) (ty : Nat → FieldType) (hty : ∀ k, k < N → parseFieldDescriptor (T k).2.2.1 = some (ty k)) (hcl : Cond.classLink own index Cn ∈ wsL_law) (hinst : Cond.instantiable Cn N ∈ wsL_law) (hini : Cond.initialized Cn ∈ wsL_law) (hc : vwCl[ci]? = some (Cn, T, N)) {fs : List Value} (hfs : ∀ j, j < N → defaultValue (ty j) = vp_V fs j) (hcells : cells + 1 ≤ R.cells) (hslots : slots + N ≤ R.slots) (hdg : decode cc pc = .ok (.new index, 3)) (kk : V p l e R s m args below meth c G nL Q (cells + 1) (slots + N) (n + 1) (hU σ n (.inr (ci, fs))) (pc + 3) lv (.ref n :: st)) : V p l e R s m args below meth c G nL Q cells slots n σ pc lv st := by
  intro H locs ls h1 h2 h3
  obtain ⟨hx, hb, hml, hown, hts, hK, hb0, hN⟩ := C
  have hKn := hK.1 ci _ hc
  have hn := h1.1
  subst hn
  refine W.newcK hx hb hown (hts _ hcl) (hts _ hinst) (hts _ hini) rfl hdg hcells hslots hKn.2.1 rfl fun H1 kC hkC e1 z1 o1 => ?_
  exact kk H1 locs ls (h1.new (Nat.le_trans hb0 h2.1) z1 o1 ⟨_, hc, (u_born ty hts hin hKn hkC e1 hty).to hfs⟩) (gS_new h2 rfl z1 o1) h3
set_option maxHeartbeats 1000000 in
theorem r_newarrI (C : Cx p s m args c cc nL own G) (harr : Cond.arrayClass .int ∈ wsL_law) {N : Nat} (hN : N < 100000) (hcells : cells + 1 ≤ R.cells) (hslots : slots + N ≤ R.slots) (hdg : decode cc pc = .ok (.newarray .int, 2)) (kk : V p l e R s m args below meth c G nL Q (cells + 1) (slots + N) (n + 1) (hU σ n (aI G N (fun _ => 0))) (pc + 2) lv (.ref n :: st)) : V p l e R s m args below meth c G nL Q cells slots n σ pc lv (.int (nI N) :: st) := by
  intro H locs ls h1 h2 h3
  obtain ⟨hx, hb, hml, hown, hts, hK, hb0, hN⟩ := C
  have hn := h1.1
  subst hn
  have hb31 : N < 2 ^ 31 := by omega
  refine va_newaK (atype := .int) hx hb (hts _ harr) rfl hdg rfl (nI_pos hb31) (nI_clamp hb31) (show N * 4 ≤ 536870912 by omega) hcells hslots rfl fun H1 cA e1 z1 o1 hAr hNm => ?_
  have hcA : cA = G.2.1 0 := Option.some.inj (hNm.symm.trans (hK.2 0 _ rfl).2)
  subst hcA
  refine kk H1 locs ls (h1.new (Nat.le_trans hb0 h2.1) z1 o1 ?_) (gS_new h2 rfl z1 o1) h3
  show H1[H.size]? = some (vp_cell _ _)
  rw [vp_cell_i]
  exact e1
set_option maxHeartbeats 1000000 in
theorem r_newarrR (C : Cx p s m args c cc nL own G) (t0 : Nat) {Cn : String} {index : Nat} (ht : (gK G.2.1)[t0]? = some (G.2.1 t0, .object Cn)) (hclink : Cond.classLink own index Cn ∈ wsL_law) (hover : Cn ∈ aoL) {N : Nat} (hN : N < 100000) (hcells : cells + 1 ≤ R.cells) (hslots : slots + N ≤ R.slots) (hdg : decode cc pc = .ok (.anewarray index, 3)) (kk : V p l e R s m args below meth c G nL Q (cells + 1) (slots + N) (n + 1) (hU σ n (aR t0 G N (fun _ => none))) (pc + 3) lv (.ref n :: st)) : V p l e R s m args below meth c G nL Q cells slots n σ pc lv (.int (nI N) :: st) := by
  intro H locs ls h1 h2 h3
  obtain ⟨hx, hb, hml, hown, hts, hK, hb0, hN⟩ := C
  have hn := h1.1
  subst hn
  have hb31 : N < 2 ^ 31 := by omega
  have hcl : (nI N).toNatClampNeg = N := nI_clamp hb31
  refine W.anew hx hb hown (hts _ hclink) (va_AO.use (hN.2 _ hover)) rfl hdg rfl (nI_pos hb31) (by rw [hcl]; omega) hcells (by rw [hcl]; exact hslots) fun cA kA comp f1 f2 f3 f4 => ?_
  obtain ⟨kA2, comp2, k1, k2, k3, k4⟩ := (hK.2 t0 _ ht).2
  have hcA : cA = G.2.1 t0 := Option.some.inj (f1.symm.trans k4)
  subst hcA
  rw [hcl]
  generalize hH1 : H.push ({ cls := G.2.1 t0, slots := Array.replicate N .null, vm := .none } : Cell) = H1
  have z1 : H1.size = H.size + 1 := by rw [← hH1, Array.size_push]
  have e1 : H1[H.size]? = some (arrV (G.2.1 t0) N (fun _ => .null)) := by rw [← hH1, Array.getElem?_push_size, ← arrV_new]
  have o1 : ∀ q : Nat, q < H.size → H1[q]? = H[q]? := fun q hq => by rw [← hH1, Array.getElem?_push, if_neg (Nat.ne_of_lt hq)]
  refine kk H1 locs ls (h1.new (Nat.le_trans hb0 h2.1) z1 o1 ?_) (gS_new h2 rfl z1 o1) h3
  show H1[H.size]? = some (vp_cell _ _)
  rw [vp_cell_q]
  exact e1
theorem g_go {st0 : List Value} {ls : Array Slot} {H : Heap} {locs : List Loc} {a : Array Value} {mc ms : Nat} {post : Option Value → Nat → gS → Prop} (hr : va_Run p l e R s m args below meth c H locs cells slots mc ms (F0 m pc ls st0) st (gQ G post a) (gF G)) (hS : va_S (gF G) s.heap H locs)
    (kk : ∀ (v : Option Value) (n2 : Nat) (σ2 : gS) (H1 : Heap) (locs1 : List Loc), post v n2 σ2 → gH G n2 σ2 H1 → va_S (gF G) s.heap H1 locs1 → W p l e R s m args below meth c H1 locs1 (cells + mc) (slots + ms) Q (F0 m (pc + 3) ls (v.toList ++ st))) : W p l e R s m args below meth c H locs cells slots Q (F0 m pc ls st0) := by
  intro T hT X
  obtain ⟨v, st₀, t, T2, L, h0, X2, hL, e1, e2, ⟨⟨v2, n2, σ2, hv, hp, hh⟩, hz, hk⟩, stp⟩ := hr T hT X
  cases hv
  rw [h0] at hz hk
  obtain ⟨t2, a1, b1⟩ := kk v n2 σ2 T2.heap (locs ++ L) hp (by rw [e1]; exact hh)
    ⟨Nat.le_trans hS.1 (by rw [e1]; exact hz), fun q h1 h2 => by rw [e1, hk q (Nat.lt_of_lt_of_le h1 hS.1) h2]; exact hS.2.1 q h1 h2, fun q hq => by
      rcases List.mem_append.mp hq with h | h
      · exact hS.2.2 q h
      · exact hL q h⟩ T2 rfl X2
  exact ⟨t2, stp t2 a1, b1⟩
theorem gPre.blind {G : gG} {n : Nat} {σ : gS} {av : List Value} : FrameBlind (gPre G n σ av) := fun a U g mk q => by
  obtain ⟨q0, q1, q2, q3, q4⟩ := q
  exact ⟨q0, q1, q2, va_K.moved (u := U) (U := U.calling g mk a) (Vm.Alike.refl U.vm) q3, Nx.same (u := U) (U := U.calling g mk a) rfl q4⟩
theorem gPre.at {G : gG} {n : Nat} {σ : gS} {av : List Value} {s U : State} {H H0 : Heap} {locs : List Loc} (hU : U.heap = H) (hW : s.WarmedH U.vm) (h1 : gH G n σ H) (h2 : va_S (gF G) H0 H locs) (hb : G.2.2 ≤ H0.size) (hK : va_K G.1 vwCl (gK G.2.1) s) (hN : Nx s) : gPre G n σ av av.toArray U :=
  ⟨rfl, by rw [hU]; exact Nat.le_trans hb h2.1, by rw [hU]; exact h1, va_K.moved hW.alike hK, hN.warm hW⟩

theorem wm_good {y : MethodName} {bytes : ByteArray} {maxL : Nat} {ret : Option FieldType} (h : Cond.code y bytes maxL ret ∈ wsL_law) : GoodIn wsL_law (wm y bytes maxL ret) := fun w hw => by
  have hm : w ∈ wsL_law := (List.mem_cons.mp hw).elim (fun e => e ▸ h) id
  exact ⟨hm, wA_good w hm⟩
set_option maxHeartbeats 1000000 in
theorem r_callV (C : Cx p s m args c cc nL own G) {y : MethodName} {bytes : ByteArray} {maxL k index : Nat} {rm : Room} {As : List Value} {post : Option Value → Nat → gS → Prop} {ret : Option FieldType} {Cn : String} {b : Nat} (hM : GM l G y bytes maxL ret rm n σ (.ref b :: As) post) (g1 : Cond.methodLink own index y ∈ wsL_law) (g2 : Cond.instanceMethod y ∈ wsL_law) (g4 : Cond.initialized y.cls ∈ wsL_law) (g5 : Cond.code y bytes maxL ret ∈ wsL_law) (g3 : Cond.selects Cn y y ∈ wsL_law) (hd : y.cls = Cn ∧ y.cls ≠ "java/lang/invoke/MethodHandle" ∧ y.cls ≠ "java/lang/invoke/VarHandle" ∧ (parseMethodDescriptor y.desc).map (fun d => d.parameters.length) = some k) (hR : rm.frames + 1 ≤ R.frames ∧ 8 + (maxL + 11) + rm.locals ≤ R.locals) {ci : Nat} {T : u_T} {N : Nat} {fs : List Value} (hc : vwCl[ci]? = some (Cn, T, N)) (he : σ b = some (.inr (ci, fs))) (hn : As.length = k) {stk : List Value} (hstack : stk = As.reverse ++ .ref b :: st) (hW : (st.map fun v => v.category).sum ≤ 8) (hdg : decode cc pc = .ok (.invokevirtual index, 3)) (hf : cells + rm.cells ≤ R.cells ∧ slots + rm.slots ≤ R.slots) (kk : ∀ (v : Option Value) (n2 : Nat) (σ2 : gS), post v n2 σ2 → V p l e R s m args below meth c G nL Q (cells + rm.cells) (slots + rm.slots) n2 σ2 (pc + 3) lv (v.toList ++ st)) : V p l e R s m args below meth c G nL Q cells slots n σ pc lv stk := by
  intro H locs ls h1 h2 h3
  refine g_go (va_runV ⟨C.1, C.2.1, C.2.2.1, C.2.2.2.1, C.2.2.2.2.1⟩ hM ⟨(callB_of k C.2.2.2.2.1 (wm_good g5) rfl rfl rfl (C.2.2.2.2.1 _ g4) (C.2.2.2.2.1 _ g1) hd.2 hR), C.2.2.2.2.1 _ g2, C.2.2.2.2.1 _ g3⟩ ⟨gPre.blind, va_recv (q0 := 0) C.2.2.2.2.2.1 (h1.one he) hc rfl, fun U hU hW => gPre.at hU hW h1 h2 C.2.2.2.2.2.2.1 C.2.2.2.2.2.1 C.2.2.2.2.2.2.2⟩ rfl hn (h3.1) hstack (lv_room hW) hdg hf) h2 (fun v n2 σ2 H1 locs1 hp hh hs => kk v n2 σ2 hp H1 locs1 ls hh hs h3)
set_option maxHeartbeats 1000000 in
theorem r_callS (C : Cx p s m args c cc nL own G) {y : MethodName} {bytes : ByteArray} {maxL k index : Nat} {rm : Room} {As : List Value} {post : Option Value → Nat → gS → Prop} {ret : Option FieldType} {Cn : String} (hM : GM l G y bytes maxL ret rm n σ As post) (g1 : Cond.methodLink own index y ∈ wsL_law) (g2 : Cond.static y ∈ wsL_law) (g4 : Cond.initialized y.cls ∈ wsL_law) (g5 : Cond.code y bytes maxL ret ∈ wsL_law) (hd : y.cls = Cn ∧ y.cls ≠ "java/lang/invoke/MethodHandle" ∧ y.cls ≠ "java/lang/invoke/VarHandle" ∧ (parseMethodDescriptor y.desc).map (fun d => d.parameters.length) = some k) (hR : rm.frames + 1 ≤ R.frames ∧ 8 + (maxL + 11) + rm.locals ≤ R.locals) (hn : As.length = k) {stk : List Value} (hstack : stk = As.reverse ++ st) (hW : (st.map fun v => v.category).sum ≤ 8) (hdg : decode cc pc = .ok (.invokestatic index, 3)) (hf : cells + rm.cells ≤ R.cells ∧ slots + rm.slots ≤ R.slots) (kk : ∀ (v : Option Value) (n2 : Nat) (σ2 : gS), post v n2 σ2 → V p l e R s m args below meth c G nL Q (cells + rm.cells) (slots + rm.slots) n2 σ2 (pc + 3) lv (v.toList ++ st)) : V p l e R s m args below meth c G nL Q cells slots n σ pc lv stk := by
  intro H locs ls h1 h2 h3
  refine g_go (va_runS ⟨C.1, C.2.1, C.2.2.1, C.2.2.2.1, C.2.2.2.2.1⟩ hM ⟨(callB_of k C.2.2.2.2.1 (wm_good g5) rfl rfl rfl (C.2.2.2.2.1 _ g4) (C.2.2.2.2.1 _ g1) hd.2 hR), C.2.2.2.2.1 _ g2⟩ ⟨gPre.blind, fun U hU hW => gPre.at hU hW h1 h2 C.2.2.2.2.2.2.1 C.2.2.2.2.2.1 C.2.2.2.2.2.2.2⟩ rfl hn (h3.1) hstack (lv_room hW) hdg hf) h2 (fun v n2 σ2 H1 locs1 hp hh hs => kk v n2 σ2 hp H1 locs1 ls hh hs h3)
set_option maxHeartbeats 1000000 in
theorem r_callI (C : Cx p s m args c cc nL own G) {y : MethodName} {bytes : ByteArray} {maxL k index : Nat} {rm : Room} {As : List Value} {post : Option Value → Nat → gS → Prop} {Cn : String} {b : Nat} (hM : GM l G y bytes maxL none rm n σ (.ref b :: As) post) (g1 : Cond.methodLink own index y ∈ wsL_law) (g2 : Cond.instanceMethod y ∈ wsL_law) (g4 : Cond.initialized y.cls ∈ wsL_law) (g5 : Cond.code y bytes maxL none ∈ wsL_law) (g6 : y.name = "<init>") (hd : y.cls = Cn ∧ y.cls ≠ "java/lang/invoke/MethodHandle" ∧ y.cls ≠ "java/lang/invoke/VarHandle" ∧ (parseMethodDescriptor y.desc).map (fun d => d.parameters.length) = some k) (hR : rm.frames + 1 ≤ R.frames ∧ 8 + (maxL + 11) + rm.locals ≤ R.locals) (hn : As.length = k) {stk : List Value} (hstack : stk = As.reverse ++ .ref b :: st) (hW : (st.map fun v => v.category).sum ≤ 8) (hdg : decode cc pc = .ok (.invokespecial index, 3)) (hf : cells + rm.cells ≤ R.cells ∧ slots + rm.slots ≤ R.slots) (kk : ∀ (v : Option Value) (n2 : Nat) (σ2 : gS), post v n2 σ2 → V p l e R s m args below meth c G nL Q (cells + rm.cells) (slots + rm.slots) n2 σ2 (pc + 3) lv (v.toList ++ st)) : V p l e R s m args below meth c G nL Q cells slots n σ pc lv stk := by
  intro H locs ls h1 h2 h3
  refine g_go (va_runI ⟨C.1, C.2.1, C.2.2.1, C.2.2.2.1, C.2.2.2.2.1⟩ hM ⟨(callB_of k C.2.2.2.2.1 (wm_good g5) rfl rfl rfl (C.2.2.2.2.1 _ g4) (C.2.2.2.2.1 _ g1) hd.2 hR), g6, C.2.2.2.2.1 _ g2⟩ ⟨gPre.blind, fun U hU hW => gPre.at hU hW h1 h2 C.2.2.2.2.2.2.1 C.2.2.2.2.2.1 C.2.2.2.2.2.2.2⟩ rfl hn (h3.1) hstack (lv_room hW) hdg hf) h2 (fun v n2 σ2 H1 locs1 hp hh hs => kk v n2 σ2 hp H1 locs1 ls hh hs h3)
set_option maxHeartbeats 1000000 in
theorem r_callIN (C : Cx p s m args c cc nL own G) {y : MethodName} {bytes : ByteArray} {maxL k index : Nat} {rm : Room} {As : List Value} {post : Option Value → Nat → gS → Prop} {Cn : String} {b : Nat} (hM : GM l G y bytes maxL none rm n σ (.ref b :: As) post) (g1 : (own, index, y) ∈ nestL) (g2 : Cond.instanceMethod y ∈ wsL_law) (g4 : Cond.initialized y.cls ∈ wsL_law) (g5 : Cond.code y bytes maxL none ∈ wsL_law) (g6 : y.name = "<init>") (hd : y.cls = Cn ∧ y.cls ≠ "java/lang/invoke/MethodHandle" ∧ y.cls ≠ "java/lang/invoke/VarHandle" ∧ (parseMethodDescriptor y.desc).map (fun d => d.parameters.length) = some k) (hR : rm.frames + 1 ≤ R.frames ∧ 8 + (maxL + 11) + rm.locals ≤ R.locals) (hn : As.length = k) {stk : List Value} (hstack : stk = As.reverse ++ .ref b :: st) (hW : (st.map fun v => v.category).sum ≤ 8) (hdg : decode cc pc = .ok (.invokespecial index, 3)) (hf : cells + rm.cells ≤ R.cells ∧ slots + rm.slots ≤ R.slots) (kk : ∀ (v : Option Value) (n2 : Nat) (σ2 : gS), post v n2 σ2 → V p l e R s m args below meth c G nL Q (cells + rm.cells) (slots + rm.slots) n2 σ2 (pc + 3) lv (v.toList ++ st)) : V p l e R s m args below meth c G nL Q cells slots n σ pc lv stk := by
  intro H locs ls h1 h2 h3
  refine g_go (va_runIN ⟨C.1, C.2.1, C.2.2.1, C.2.2.2.1, C.2.2.2.2.1⟩ hM ⟨(va_cnB k C.2.2.2.2.1 (wm_good g5) rfl rfl rfl (C.2.2.2.2.2.2.2.1 _ g1) (C.2.2.2.2.1 _ g4) hd.2 hR), g6, C.2.2.2.2.1 _ g2⟩ ⟨gPre.blind, fun U hU hW => gPre.at hU hW h1 h2 C.2.2.2.2.2.2.1 C.2.2.2.2.2.1 C.2.2.2.2.2.2.2⟩ rfl hn (h3.1) hstack (lv_room hW) hdg hf) h2 (fun v n2 σ2 H1 locs1 hp hh hs => kk v n2 σ2 hp H1 locs1 ls hh hs h3)
set_option maxHeartbeats 1000000 in
theorem r_callSN (C : Cx p s m args c cc nL own G) {y : MethodName} {bytes : ByteArray} {maxL k index : Nat} {rm : Room} {As : List Value} {post : Option Value → Nat → gS → Prop} {ret : Option FieldType} {Cn : String} (hM : GM l G y bytes maxL ret rm n σ As post) (g1 : (own, index, y) ∈ nestL) (g2 : Cond.static y ∈ wsL_law) (g4 : Cond.initialized y.cls ∈ wsL_law) (g5 : Cond.code y bytes maxL ret ∈ wsL_law) (hd : y.cls = Cn ∧ y.cls ≠ "java/lang/invoke/MethodHandle" ∧ y.cls ≠ "java/lang/invoke/VarHandle" ∧ (parseMethodDescriptor y.desc).map (fun d => d.parameters.length) = some k) (hR : rm.frames + 1 ≤ R.frames ∧ 8 + (maxL + 11) + rm.locals ≤ R.locals) (hn : As.length = k) {stk : List Value} (hstack : stk = As.reverse ++ st) (hW : (st.map fun v => v.category).sum ≤ 8) (hdg : decode cc pc = .ok (.invokestatic index, 3)) (hf : cells + rm.cells ≤ R.cells ∧ slots + rm.slots ≤ R.slots) (kk : ∀ (v : Option Value) (n2 : Nat) (σ2 : gS), post v n2 σ2 → V p l e R s m args below meth c G nL Q (cells + rm.cells) (slots + rm.slots) n2 σ2 (pc + 3) lv (v.toList ++ st)) : V p l e R s m args below meth c G nL Q cells slots n σ pc lv stk := by
  intro H locs ls h1 h2 h3
  refine g_go (va_runSN ⟨C.1, C.2.1, C.2.2.1, C.2.2.2.1, C.2.2.2.2.1⟩ hM ⟨(va_cnB k C.2.2.2.2.1 (wm_good g5) rfl rfl rfl (C.2.2.2.2.2.2.2.1 _ g1) (C.2.2.2.2.1 _ g4) hd.2 hR), C.2.2.2.2.1 _ g2, trivial⟩ ⟨gPre.blind, fun U hU hW => gPre.at hU hW h1 h2 C.2.2.2.2.2.2.1 C.2.2.2.2.2.1 C.2.2.2.2.2.2.2⟩ rfl hn (h3.1) hstack (lv_room hW) hdg hf) h2 (fun v n2 σ2 H1 locs1 hp hh hs => kk v n2 σ2 hp H1 locs1 ls hh hs h3)
theorem V.eq {σ2 : gS} {n2 : Nat} {lv2 : List (Nat × Value)} {st2 : List Value} (h1 : σ = σ2) (h2 : n = n2) (h3 : lv = lv2) (h4 : st = st2) (kk : V p l e R s m args below meth c G nL Q cells slots n2 σ2 pc lv2 st2) : V p l e R s m args below meth c G nL Q cells slots n σ pc lv st := by subst h1; subst h2; subst h3; subst h4; exact kk
theorem V.hp {σ2 : gS} (h1 : σ = σ2) (kk : V p l e R s m args below meth c G nL Q cells slots n σ2 pc lv st) : V p l e R s m args below meth c G nL Q cells slots n σ pc lv st := by subst h1; exact kk
theorem V.top {x y : Int32} (h : x = y) (kk : V p l e R s m args below meth c G nL Q cells slots n σ pc lv (.int y :: st)) : V p l e R s m args below meth c G nL Q cells slots n σ pc lv (.int x :: st) := by subst h; exact kk
theorem V.sub {lv2 : List (Nat × Value)} (is : List Nat) (h : lv_pick lv is = lv2) (kk : V p l e R s m args below meth c G nL Q cells slots n σ pc lv2 st) : V p l e R s m args below meth c G nL Q cells slots n σ pc lv st := fun H locs ls h1 h2 h3 => kk H locs ls h1 h2 (lv_sub h3 is h)
theorem V.widen {k2 s2 : Nat} (h1 : cells ≤ k2) (h2 : slots ≤ s2) (kk : V p l e R s m args below meth c G nL Q k2 s2 n σ pc lv st) : V p l e R s m args below meth c G nL Q cells slots n σ pc lv st := fun H locs ls g1 g2 g3 => W.widen h1 h2 (kk H locs ls g1 g2 g3)
set_option maxHeartbeats 1000000 in
theorem r_iret {post : Option Value → Nat → gS → Prop} (C : Cx p s m args c cc nL own G) {x : Int32} (hr : meth.sig.returnType = some .int) (hlocks : meth.locks = false) {mc ms : Nat} (h1 : cells ≤ mc) (h2 : slots ≤ ms) (hdg : decode cc pc = .ok (.ireturn, 1)) (hp : post (some (.int x)) n σ) : V p l e R s m args below meth c G nL (MQ below (gQ G post) args s mc ms (gF G)) cells slots n σ pc lv [.int x] :=
  fun H locs ls g1 g2 g3 => W.widen h1 h2 (W.iret C.1 C.2.1 hr (fun t ht _ => ⟨⟨_, n, σ, rfl, hp, by rw [ht]; exact g1⟩, g2.F ht⟩) g2.2.2 hdg hlocks)
set_option maxHeartbeats 1000000 in
theorem r_zret {post : Option Value → Nat → gS → Prop} (C : Cx p s m args c cc nL own G) {x : Int32} (hn : narrow .boolean (.int x) = .int x) (hr : meth.sig.returnType = some .boolean) (hlocks : meth.locks = false) {mc ms : Nat} (h1 : cells ≤ mc) (h2 : slots ≤ ms) (hdg : decode cc pc = .ok (.ireturn, 1)) (hp : post (some (.int x)) n σ) : V p l e R s m args below meth c G nL (MQ below (gQ G post) args s mc ms (gF G)) cells slots n σ pc lv [.int x] :=
  fun H locs ls g1 g2 g3 => W.widen h1 h2 (W.zret C.1 C.2.1 hr hn (fun t ht _ => ⟨⟨_, n, σ, rfl, hp, by rw [ht]; exact g1⟩, g2.F ht⟩) g2.2.2 hdg hlocks)
set_option maxHeartbeats 1000000 in
theorem r_vret {post : Option Value → Nat → gS → Prop} (C : Cx p s m args c cc nL own G) (hr : meth.sig.returnType = none) (hlocks : meth.locks = false) {mc ms : Nat} (h1 : cells ≤ mc) (h2 : slots ≤ ms) (hdg : decode cc pc = .ok (.return_, 1)) (hp : post (none) n σ) : V p l e R s m args below meth c G nL (MQ below (gQ G post) args s mc ms (gF G)) cells slots n σ pc lv [] :=
  fun H locs ls g1 g2 g3 => W.widen h1 h2 (W.vret C.1 C.2.1 hr (fun t ht _ => ⟨⟨_, n, σ, rfl, hp, by rw [ht]; exact g1⟩, g2.F ht⟩) g2.2.2 hdg hlocks)
set_option maxHeartbeats 1000000 in
theorem r_aret {post : Option Value → Nat → gS → Prop} (C : Cx p s m args c cc nL own G) {rt : FieldType} {v : Value} (hrt : (∃ n, rt = .object n) ∨ ∃ t, rt = .array t) (hv : v = .null ∨ ∃ a, v = .ref a) (hr : meth.sig.returnType = some rt) (hlocks : meth.locks = false) {mc ms : Nat} (h1 : cells ≤ mc) (h2 : slots ≤ ms) (hdg : decode cc pc = .ok (.areturn, 1)) (hp : post (some v) n σ) : V p l e R s m args below meth c G nL (MQ below (gQ G post) args s mc ms (gF G)) cells slots n σ pc lv [v] :=
  fun H locs ls g1 g2 g3 => W.widen h1 h2 (W.aret C.1 C.2.1 hr hrt hv (fun t ht _ => ⟨⟨_, n, σ, rfl, hp, by rw [ht]; exact g1⟩, g2.F ht⟩) g2.2.2 hdg hlocks)
theorem GM.intro {l : Launch} {G : gG} {y : MethodName} {rm : Room} {n : Nat} {σ : gS} {av : List Value} {post : Option Value → Nat → gS → Prop} {cc : ByteArray} {maxL : Nat} {ret : Option FieldType}
    (hy : plainName y.cls = true) (hn : (lg_sl av).length ≤ maxL)
    (body : ∀ (p : Program) (e : Env) (s : State) (m : MethodId) (args : Array Value) (below : List Frame) (meth : Method) (c : Code), Cx p s m args c cc maxL y.cls G → meth.sig.returnType = ret → meth.locks = false → meth.name = y.name → ∀ po : Option Value → Nat → gS → Prop, (∀ v n2 σ2, post v n2 σ2 → po v n2 σ2) →
      V p l e rm s m args below meth c G maxL (MQ below (gQ G po) args s rm.cells rm.slots (gF G)) 0 0 n σ 0 (lv_args 0 av) []) : GM l G y cc maxL ret rm n σ av post := by
  refine Met.ofW (cc := cc) (maxL := maxL) (ret := ret) hy rfl ?_
  intro p e s m args below meth c s₁ B hml hv
  obtain ⟨rfl, hb0, hh, hK, hN⟩ := hv
  have hown : s.vm.findClass y.cls = some m.cls := findClass_of_methodNamed B.named
  have hl := lv_entry av (n := maxL) hn
  have X := body p e s m av.toArray below meth c ⟨B.exec, B.bytes, hml, hown, fun w hw => atoms_spec (ws := wm y cc maxL ret) B.pre w (List.mem_cons_of_mem _ hw), hK, hb0, hN⟩ B.returns B.notSynchronized (name_of_methodNamed B.named B.method).1 post (fun _ _ _ h => h)
  rw [lg_entry_eq]
  exact X s.heap [] _ hh va_S.rf hl
set_option maxHeartbeats 1000000 in
theorem r_objInit (C : Cx p s m args c cc nL own G) {idx : Nat} {b : Nat} (hl : Cond.methodLink own idx objectInit ∈ wsL_law) (hin : Cond.instanceMethod objectInit ∈ wsL_law) (hco : Cond.code objectInit ⟨#[0xb1]⟩ 1 none ∈ wsL_law) (hW : (st.map fun v => v.category).sum ≤ 8) (hdg : decode cc pc = .ok (.invokespecial idx, 3)) (hfr : 1 ≤ R.frames) (hlo : 20 ≤ R.locals) (kk : V p l e R s m args below meth c G nL Q cells slots n σ (pc + 3) lv st) : V p l e R s m args below meth c G nL Q cells slots n σ pc lv (.ref b :: st) := fun H locs ls h1 h2 h3 =>
  W.objInit C.1 C.2.1 C.2.2.2.1 (C.2.2.2.2.1 _ hl) (C.2.2.2.2.1 _ hin) (C.2.2.2.2.1 _ hco) rfl (by rw [C.2.2.1]; exact h3.1) rfl hdg hfr (by have := lv_room (m := m) (pc := pc) (ls := ls) (rest := .ref b :: st) hW; omega) (W.eq (g2 := F0 m (pc + 3) ls st) rfl (kk H locs ls h1 h2 h3))
def bI (b : Bool) : Int32 := if b then 1 else 0
theorem bI_nar (b : Bool) : narrow .boolean (.int (bI b)) = .int (bI b) := by cases b <;> rfl
theorem bI_0 {b : Bool} : bI b = 0 ↔ b = false := by cases b <;> simp [bI]
theorem bI_n (b : Bool) : bI b = nI b.toNat := by cases b <;> rfl
theorem nI_m1 {x : Nat} (h : 1 ≤ x) : nI x + Int32.ofInt (-1) = nI (x - 1) := by
  obtain ⟨k, rfl⟩ : ∃ k, x = k + 1 := ⟨x - 1, by omega⟩
  exact pk_m1 k
theorem nI_bv (a : Nat) : (nI a).toBitVec = BitVec.ofNat 32 a := rfl
theorem nI_and (a b : Nat) : nI a &&& nI b = nI (a &&& b) := by
  apply Int32.toBitVec_inj.mp
  rw [Int32.toBitVec_and, nI_bv, nI_bv, nI_bv]
  apply BitVec.eq_of_toNat_eq
  simp [BitVec.toNat_and, BitVec.toNat_ofNat, Nat.and_mod_two_pow]
theorem nI_or (a b : Nat) : nI a ||| nI b = nI (a ||| b) := by
  apply Int32.toBitVec_inj.mp
  rw [Int32.toBitVec_or, nI_bv, nI_bv, nI_bv]
  apply BitVec.eq_of_toNat_eq
  simp [BitVec.toNat_or, BitVec.toNat_ofNat, Nat.or_mod_two_pow]
theorem nI_xor (a b : Nat) : nI a ^^^ nI b = nI (a ^^^ b) := by
  apply Int32.toBitVec_inj.mp
  rw [Int32.toBitVec_xor, nI_bv, nI_bv, nI_bv]
  apply BitVec.eq_of_toNat_eq
  simp [BitVec.toNat_xor, BitVec.toNat_ofNat, Nat.xor_mod_two_pow]
theorem nI_sm : ∀ k, k < 32 → ((nI k &&& 31).toBitVec.smod 32).toNat = k := by decide +kernel
theorem nI_m31 : ∀ k, k < 32 → nI k &&& 31 = nI k := by decide +kernel
theorem nI_sm2 : ∀ k, k < 32 → ((nI k).toBitVec.smod 32).toNat = k := by decide +kernel
theorem nI_shl (a : Nat) {k : Nat} (hk : k < 32) : nI a <<< (nI k &&& 31) = nI (a * 2 ^ k) := by
  apply Int32.toBitVec_inj.mp
  apply BitVec.eq_of_toNat_eq
  rw [nI_m31 k hk, pk_shl (nI a) (nI k) k (nI_sm2 k hk), nI_bv, nI_bv]
  simp [BitVec.toNat_ofNat, Nat.mod_mul_mod]
theorem nI_shr {a k : Nat} (ha : a < 2 ^ 31) (hk : k < 32) : nI a >>> (nI k &&& 31) = nI (a / 2 ^ k) := by
  rw [nI_m31 k hk]
  exact pk_shrN ha (nI k) k (nI_sm2 k hk)

set_option maxHeartbeats 1000000 in
theorem r_iaddN (C : Cx p s m args c cc nL own G) {x y : Nat} (hdg : decode cc pc = .ok (.iadd, 1))  (kk : V p l e R s m args below meth c G nL Q cells slots n σ (pc + 1) lv (.int (nI (x + y)) :: st)) : V p l e R s m args below meth c G nL Q cells slots n σ pc lv (.int (nI y) :: .int (nI x) :: st) := r_iaddE C hdg (nI_add x y) kk
set_option maxHeartbeats 1000000 in
theorem r_imulN (C : Cx p s m args c cc nL own G) {x y : Nat} (hdg : decode cc pc = .ok (.imul, 1))  (kk : V p l e R s m args below meth c G nL Q cells slots n σ (pc + 1) lv (.int (nI (x * y)) :: st)) : V p l e R s m args below meth c G nL Q cells slots n σ pc lv (.int (nI y) :: .int (nI x) :: st) := r_imulE C hdg (pk_mul x y) kk
set_option maxHeartbeats 1000000 in
theorem r_iandN (C : Cx p s m args c cc nL own G) {x y : Nat} (hdg : decode cc pc = .ok (.iand, 1))  (kk : V p l e R s m args below meth c G nL Q cells slots n σ (pc + 1) lv (.int (nI (x &&& y)) :: st)) : V p l e R s m args below meth c G nL Q cells slots n σ pc lv (.int (nI y) :: .int (nI x) :: st) := r_iandE C hdg (nI_and x y) kk
set_option maxHeartbeats 1000000 in
theorem r_iorN (C : Cx p s m args c cc nL own G) {x y : Nat} (hdg : decode cc pc = .ok (.ior, 1))  (kk : V p l e R s m args below meth c G nL Q cells slots n σ (pc + 1) lv (.int (nI (x ||| y)) :: st)) : V p l e R s m args below meth c G nL Q cells slots n σ pc lv (.int (nI y) :: .int (nI x) :: st) := r_iorE C hdg (nI_or x y) kk
set_option maxHeartbeats 1000000 in
theorem r_ixorN (C : Cx p s m args c cc nL own G) {x y : Nat} (hdg : decode cc pc = .ok (.ixor, 1))  (kk : V p l e R s m args below meth c G nL Q cells slots n σ (pc + 1) lv (.int (nI (x ^^^ y)) :: st)) : V p l e R s m args below meth c G nL Q cells slots n σ pc lv (.int (nI y) :: .int (nI x) :: st) := r_ixorE C hdg (nI_xor x y) kk
set_option maxHeartbeats 1000000 in
theorem r_ishlN (C : Cx p s m args c cc nL own G) {x y : Nat} (hdg : decode cc pc = .ok (.ishl, 1)) (hy : y < 32) (kk : V p l e R s m args below meth c G nL Q cells slots n σ (pc + 1) lv (.int (nI (x * 2 ^ y)) :: st)) : V p l e R s m args below meth c G nL Q cells slots n σ pc lv (.int (nI y) :: .int (nI x) :: st) := r_ishlE C hdg (nI_shl x hy) kk
set_option maxHeartbeats 1000000 in
theorem r_ishrN (C : Cx p s m args c cc nL own G) {x y : Nat} (hdg : decode cc pc = .ok (.ishr, 1)) (hx : x < 2 ^ 31) (hy : y < 32) (kk : V p l e R s m args below meth c G nL Q cells slots n σ (pc + 1) lv (.int (nI (x / 2 ^ y)) :: st)) : V p l e R s m args below meth c G nL Q cells slots n σ pc lv (.int (nI y) :: .int (nI x) :: st) := r_ishrE C hdg (nI_shr hx hy) kk
set_option maxHeartbeats 1000000 in
theorem r_isubN (C : Cx p s m args c cc nL own G) {x y : Nat} (hdg : decode cc pc = .ok (.isub, 1)) (h : y ≤ x) (kk : V p l e R s m args below meth c G nL Q cells slots n σ (pc + 1) lv (.int (nI (x - y)) :: st)) : V p l e R s m args below meth c G nL Q cells slots n σ pc lv (.int (nI y) :: .int (nI x) :: st) := r_isubE C hdg (pk_sub h) kk
set_option maxHeartbeats 1000000 in
theorem r_idivN (C : Cx p s m args c cc nL own G) {x y : Nat} (hdg : decode cc pc = .ok (.idiv, 1)) (hx : x < 2 ^ 31) (h0 : 0 < y) (hy : y < 2 ^ 31) (kk : V p l e R s m args below meth c G nL Q cells slots n σ (pc + 1) lv (.int (nI (x / y)) :: st)) : V p l e R s m args below meth c G nL Q cells slots n σ pc lv (.int (nI y) :: .int (nI x) :: st) := r_idivE C hdg (nI_ne0 h0 hy) (pk_div hx h0 hy) kk
set_option maxHeartbeats 1000000 in
theorem r_iremN (C : Cx p s m args c cc nL own G) {x y : Nat} (hdg : decode cc pc = .ok (.irem, 1)) (hx : x < 2 ^ 31) (h0 : 0 < y) (hy : y < 2 ^ 31) (kk : V p l e R s m args below meth c G nL Q cells slots n σ (pc + 1) lv (.int (nI (x % y)) :: st)) : V p l e R s m args below meth c G nL Q cells slots n σ pc lv (.int (nI y) :: .int (nI x) :: st) := r_iremE C hdg (nI_ne0 h0 hy) (pk_rem hx h0 hy) kk
set_option maxHeartbeats 1000000 in
theorem r_icmp_eqN (C : Cx p s m args c cc nL own G) {x y : Nat} {off : Int} {tgt : Nat} (hdg : decode cc pc = .ok (.if_icmp .eq off, 3)) (ht : (pc : Int) + off = (tgt : Int)) (hx : x < 2 ^ 31) (hy : y < 2 ^ 31) (kt : x = y → V p l e R s m args below meth c G nL Q cells slots n σ tgt lv st) (kf : x ≠ y → V p l e R s m args below meth c G nL Q cells slots n σ (pc + 3) lv st) : V p l e R s m args below meth c G nL Q cells slots n σ pc lv (.int (nI y) :: .int (nI x) :: st) := r_icmp_eq C hdg ht (fun z => kt ((nI_eq hx hy).mp z)) (fun z => kf (fun w => z ((nI_eq hx hy).mpr w)))
set_option maxHeartbeats 1000000 in
theorem r_icmp_neN (C : Cx p s m args c cc nL own G) {x y : Nat} {off : Int} {tgt : Nat} (hdg : decode cc pc = .ok (.if_icmp .ne off, 3)) (ht : (pc : Int) + off = (tgt : Int)) (hx : x < 2 ^ 31) (hy : y < 2 ^ 31) (kt : x ≠ y → V p l e R s m args below meth c G nL Q cells slots n σ tgt lv st) (kf : x = y → V p l e R s m args below meth c G nL Q cells slots n σ (pc + 3) lv st) : V p l e R s m args below meth c G nL Q cells slots n σ pc lv (.int (nI y) :: .int (nI x) :: st) := r_icmp_ne C hdg ht (fun z => kt (fun w => z ((nI_eq hx hy).mpr w))) (fun z => kf ((nI_eq hx hy).mp z))
set_option maxHeartbeats 1000000 in
theorem r_icmp_ltN (C : Cx p s m args c cc nL own G) {x y : Nat} {off : Int} {tgt : Nat} (hdg : decode cc pc = .ok (.if_icmp .lt off, 3)) (ht : (pc : Int) + off = (tgt : Int)) (hx : x < 2 ^ 31) (hy : y < 2 ^ 31) (kt : x < y → V p l e R s m args below meth c G nL Q cells slots n σ tgt lv st) (kf : y ≤ x → V p l e R s m args below meth c G nL Q cells slots n σ (pc + 3) lv st) : V p l e R s m args below meth c G nL Q cells slots n σ pc lv (.int (nI y) :: .int (nI x) :: st) := r_icmp_lt C hdg ht (fun z => kt ((nI_ltI hx hy).mp z)) (fun z => kf (Nat.not_lt.mp fun w => z ((nI_ltI hx hy).mpr w)))
set_option maxHeartbeats 1000000 in
theorem r_icmp_geN (C : Cx p s m args c cc nL own G) {x y : Nat} {off : Int} {tgt : Nat} (hdg : decode cc pc = .ok (.if_icmp .ge off, 3)) (ht : (pc : Int) + off = (tgt : Int)) (hx : x < 2 ^ 31) (hy : y < 2 ^ 31) (kt : y ≤ x → V p l e R s m args below meth c G nL Q cells slots n σ tgt lv st) (kf : x < y → V p l e R s m args below meth c G nL Q cells slots n σ (pc + 3) lv st) : V p l e R s m args below meth c G nL Q cells slots n σ pc lv (.int (nI y) :: .int (nI x) :: st) := r_icmp_ge C hdg ht (fun z => kt ((nI_leI hy hx).mp z)) (fun z => kf (Nat.not_le.mp fun w => z ((nI_leI hy hx).mpr w)))
set_option maxHeartbeats 1000000 in
theorem r_icmp_gtN (C : Cx p s m args c cc nL own G) {x y : Nat} {off : Int} {tgt : Nat} (hdg : decode cc pc = .ok (.if_icmp .gt off, 3)) (ht : (pc : Int) + off = (tgt : Int)) (hx : x < 2 ^ 31) (hy : y < 2 ^ 31) (kt : y < x → V p l e R s m args below meth c G nL Q cells slots n σ tgt lv st) (kf : x ≤ y → V p l e R s m args below meth c G nL Q cells slots n σ (pc + 3) lv st) : V p l e R s m args below meth c G nL Q cells slots n σ pc lv (.int (nI y) :: .int (nI x) :: st) := r_icmp_gt C hdg ht (fun z => kt ((nI_ltI hy hx).mp z)) (fun z => kf (Nat.not_lt.mp fun w => z ((nI_ltI hy hx).mpr w)))
set_option maxHeartbeats 1000000 in
theorem r_icmp_leN (C : Cx p s m args c cc nL own G) {x y : Nat} {off : Int} {tgt : Nat} (hdg : decode cc pc = .ok (.if_icmp .le off, 3)) (ht : (pc : Int) + off = (tgt : Int)) (hx : x < 2 ^ 31) (hy : y < 2 ^ 31) (kt : x ≤ y → V p l e R s m args below meth c G nL Q cells slots n σ tgt lv st) (kf : y < x → V p l e R s m args below meth c G nL Q cells slots n σ (pc + 3) lv st) : V p l e R s m args below meth c G nL Q cells slots n σ pc lv (.int (nI y) :: .int (nI x) :: st) := r_icmp_le C hdg ht (fun z => kt ((nI_leI hx hy).mp z)) (fun z => kf (Nat.not_le.mp fun w => z ((nI_leI hx hy).mpr w)))
set_option maxHeartbeats 1000000 in
theorem r_if_eqN (C : Cx p s m args c cc nL own G) {x : Nat} {off : Int} {tgt : Nat} (hdg : decode cc pc = .ok (.ifCond .eq off, 3)) (ht : (pc : Int) + off = (tgt : Int)) (hx : x < 2 ^ 31) (kt : x = 0 → V p l e R s m args below meth c G nL Q cells slots n σ tgt lv st) (kf : x ≠ 0 → V p l e R s m args below meth c G nL Q cells slots n σ (pc + 3) lv st) : V p l e R s m args below meth c G nL Q cells slots n σ pc lv (.int (nI x) :: st) := r_if_eq C hdg ht (fun z => kt ((nI_eq hx (by decide)).mp z)) (fun z => kf (fun w => z ((nI_eq hx (by decide)).mpr w)))
set_option maxHeartbeats 1000000 in
theorem r_if_neN (C : Cx p s m args c cc nL own G) {x : Nat} {off : Int} {tgt : Nat} (hdg : decode cc pc = .ok (.ifCond .ne off, 3)) (ht : (pc : Int) + off = (tgt : Int)) (hx : x < 2 ^ 31) (kt : x ≠ 0 → V p l e R s m args below meth c G nL Q cells slots n σ tgt lv st) (kf : x = 0 → V p l e R s m args below meth c G nL Q cells slots n σ (pc + 3) lv st) : V p l e R s m args below meth c G nL Q cells slots n σ pc lv (.int (nI x) :: st) := r_if_ne C hdg ht (fun z => kt (fun w => z ((nI_eq hx (by decide)).mpr w))) (fun z => kf ((nI_eq hx (by decide)).mp z))
set_option maxHeartbeats 1000000 in
theorem r_if_gtN (C : Cx p s m args c cc nL own G) {x : Nat} {off : Int} {tgt : Nat} (hdg : decode cc pc = .ok (.ifCond .gt off, 3)) (ht : (pc : Int) + off = (tgt : Int)) (hx : x < 2 ^ 31) (kt : 0 < x → V p l e R s m args below meth c G nL Q cells slots n σ tgt lv st) (kf : x = 0 → V p l e R s m args below meth c G nL Q cells slots n σ (pc + 3) lv st) : V p l e R s m args below meth c G nL Q cells slots n σ pc lv (.int (nI x) :: st) := r_if_gt C hdg ht (fun z => kt ((nI_ltI (by decide) hx).mp z)) (fun z => kf (Nat.eq_zero_of_not_pos fun w => z ((nI_ltI (by decide) hx).mpr w)))
set_option maxHeartbeats 1000000 in
theorem r_if_leN (C : Cx p s m args c cc nL own G) {x : Nat} {off : Int} {tgt : Nat} (hdg : decode cc pc = .ok (.ifCond .le off, 3)) (ht : (pc : Int) + off = (tgt : Int)) (hx : x < 2 ^ 31) (kt : x = 0 → V p l e R s m args below meth c G nL Q cells slots n σ tgt lv st) (kf : 0 < x → V p l e R s m args below meth c G nL Q cells slots n σ (pc + 3) lv st) : V p l e R s m args below meth c G nL Q cells slots n σ pc lv (.int (nI x) :: st) := r_if_le C hdg ht (fun z => kt (Nat.le_zero.mp ((nI_leI hx (by decide)).mp z))) (fun z => kf (Nat.pos_of_ne_zero fun w => z ((nI_leI hx (by decide)).mpr (Nat.le_of_eq w))))
set_option maxHeartbeats 1000000 in
theorem r_if_ltN (C : Cx p s m args c cc nL own G) {x : Nat} {off : Int} (hdg : decode cc pc = .ok (.ifCond .lt off, 3)) {tgt : Nat} (ht : (pc : Int) + off = (tgt : Int)) (hx : x < 2 ^ 31) (kf : V p l e R s m args below meth c G nL Q cells slots n σ (pc + 3) lv st) : V p l e R s m args below meth c G nL Q cells slots n σ pc lv (.int (nI x) :: st) := r_if_lt C hdg ht (fun z => absurd z (nI_pos hx)) (fun _ => kf)
set_option maxHeartbeats 1000000 in
theorem r_if_geN (C : Cx p s m args c cc nL own G) {x : Nat} {off : Int} {tgt : Nat} (hdg : decode cc pc = .ok (.ifCond .ge off, 3)) (ht : (pc : Int) + off = (tgt : Int)) (hx : x < 2 ^ 31) (kt : V p l e R s m args below meth c G nL Q cells slots n σ tgt lv st) : V p l e R s m args below meth c G nL Q cells slots n σ pc lv (.int (nI x) :: st) := r_if_ge C hdg ht (fun _ => kt) (fun z => absurd (nI_pos' hx) z)
set_option maxHeartbeats 1000000 in
theorem r_if_eqB (C : Cx p s m args c cc nL own G) {b : Bool} {off : Int} {tgt : Nat} (hdg : decode cc pc = .ok (.ifCond .eq off, 3)) (ht : (pc : Int) + off = (tgt : Int)) (kt : b = false → V p l e R s m args below meth c G nL Q cells slots n σ tgt lv st) (kf : b = true → V p l e R s m args below meth c G nL Q cells slots n σ (pc + 3) lv st) : V p l e R s m args below meth c G nL Q cells slots n σ pc lv (.int (bI b) :: st) := r_if_eq C hdg ht (fun z => kt (bI_0.mp z)) (fun z => kf (by cases b <;> simp_all [bI]))
set_option maxHeartbeats 1000000 in
theorem r_if_neB (C : Cx p s m args c cc nL own G) {b : Bool} {off : Int} {tgt : Nat} (hdg : decode cc pc = .ok (.ifCond .ne off, 3)) (ht : (pc : Int) + off = (tgt : Int)) (kt : b = true → V p l e R s m args below meth c G nL Q cells slots n σ tgt lv st) (kf : b = false → V p l e R s m args below meth c G nL Q cells slots n σ (pc + 3) lv st) : V p l e R s m args below meth c G nL Q cells slots n σ pc lv (.int (bI b) :: st) := r_if_ne C hdg ht (fun z => kt (by cases b <;> simp_all [bI])) (fun z => kf (bI_0.mp z))
end GV
section GM2
variable {p : Program} {l : Launch} {e : Env} {R : Room} {s : State} {m : MethodId} {args : Array Value} {below : List Frame} {meth : Method} {c : Code} {G : gG} {nL : Nat} {Q : State → Prop} {cells slots n : Nat} {σ : gS} {pc : Nat} {lv : List (Nat × Value)} {st : List Value} {cc : ByteArray} {own : String}

end GM2
