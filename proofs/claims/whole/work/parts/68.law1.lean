theorem WX.obj {G : gG} {b0 n mi : Nat} {σ : gS} {Z : ZT} (h : WX G b0 n σ Z mi) : ∃ fs, σ b0 = some (.inr (6, fs)) := by
  obtain ⟨ph, tau, fp, fq, fx, rs, fpl, tn, op, dg, ftx, Kn, Kt, Ka, Kb, Kc, Kd, hp4, hE, -⟩ := h
  exact ⟨_, wx_at0 hE rfl⟩
theorem WM.obj {G : gG} {b0 : Nat} {σ : gS} {Z : ZT} (h : WM G b0 σ Z) : ∃ fs, σ (b0 + 44) = some (.inr (7, fs)) := by
  obtain ⟨xat, xreason, xdone, xkind, xn, xstrength, fs, fwas, fbegun, faside, ftext, fsize, fburnt, fnext, ffar, fthen, fqueue, frankAt, fturnAt, hE, -⟩ := h
  exact ⟨_, (congrFun hE (b0 + 44)).symm.trans (mW_o _ _ _ _ _)⟩
set_option maxHeartbeats 4000000 in
theorem law_stack {p : Program} {l : Launch} {e : Env} {s : State} {m : MethodId} {below : List Frame} {meth : Method} {c : Code} {G : gG} {Q : State → Prop} {b b0 L i n mi cells slots : Nat} {σ : gS} {xs : Nat → Int32} {Z : ZT} (C : Cx p s m #[Value.ref b] c code 4 RL G) (hX : va_X b L xs s s.heap) (hbl : b < s.heap.size) (hG : G.2.2 = s.heap.size) (hL : L ≤ 2048) (hi : 4 * i + 4 ≤ L) (hZ : ZOK Z) (hW : WX G b0 n σ Z mi) (hM : WM G b0 σ Z) (hc : cells ≤ 590000) (hs : slots ≤ 7200000) (k1 : ∀ n2 σ2 Z2, ZOK Z2 → WX G b0 n2 σ2 Z2 mi → WM G b0 σ2 Z2 → V p l e room_1 s m #[Value.ref b] below meth c G 4 Q (cells + 7) (slots + 7686) n2 σ2 745 [(0, .ref b), (1, .ref b0), (2, .ref (b0 + 44)), (3, .int (nI (4 * i)))] []) (k2 : ∀ n2 σ2 Z2, 1 ≤ mi → ZOK Z2 → WX G b0 n2 σ2 Z2 (mi - 1) → WM G b0 σ2 Z2 → V p l e room_1 s m #[Value.ref b] below meth c G 4 Q (cells + 7) (slots + 31935) n2 σ2 745 [(0, .ref b), (1, .ref b0), (2, .ref (b0 + 44)), (3, .int (nI (4 * i)))] []) : V p l e room_1 s m #[Value.ref b] below meth c G 4 Q cells slots n σ 132 [(0, .ref b), (1, .ref b0), (2, .ref (b0 + 44)), (3, .int (nI (4 * i)))] [] := by
  obtain ⟨ans, Z2, hZ2, hx, hm⟩ := op_stack (l := l) (G := G) (b0 := b0) hZ (xs (4 * i + 1)) (xs (4 * i + 2)) (xs (4 * i + 3))
  obtain ⟨fo, hob⟩ := hW.obj
  rcases hx n σ mi hW with hx | ⟨hmi, hx⟩
  · refine r_aload_n C dL_law_132 rfl 1 rfl ?_
    refine r_aload_n C dL_law_133 rfl 0 rfl ?_
    refine r_iload_n C dL_law_134 rfl 3 rfl ?_
    refine r_iconst (v := nI 1) C dL_law_135 (by decide) ?_
    refine r_iaddN C dL_law_136 ?_
    refine r_sld C hX hbl hG (i := 4 * i + 1) (by omega) (by omega) dL_law_137 ?_
    refine r_aload_n C dL_law_138 rfl 0 rfl ?_
    refine r_iload_n C dL_law_139 rfl 3 rfl ?_
    refine r_iconst (v := nI 2) C dL_law_140 (by decide) ?_
    refine r_iaddN C dL_law_141 ?_
    refine r_sld C hX hbl hG (i := 4 * i + 2) (by omega) (by omega) dL_law_142 ?_
    refine r_aload_n C dL_law_143 rfl 0 rfl ?_
    refine r_iload_n C dL_law_144 rfl 3 rfl ?_
    refine r_iconst (v := nI 3) C dL_law_145 (by decide) ?_
    refine r_iaddN C dL_law_146 ?_
    refine r_sld C hX hbl hG (i := 4 * i + 3) (by omega) (by omega) dL_law_147 ?_
    refine r_callV (As := [.int (xs (4 * i + 1)), .int (xs (4 * i + 2)), .int (xs (4 * i + 3))]) C hx wM_L_13 wI_X6_stack wN_X6 wC_X6_stack wV_X6_stack hd_X6_stack ⟨Nat.le_of_ble_eq_true rfl, Nat.le_of_ble_eq_true rfl⟩ rfl hob rfl rfl (Nat.le_of_ble_eq_true rfl) dL_law_148 ⟨by show cells + 7 ≤ 600000; omega, by show slots + 7686 ≤ 7302250; omega⟩ (fun rv n2 σ2 hp => ?_)
    obtain ⟨rfl, hn2, hW2, hfr⟩ := hp
    have hM2 := hM.fr hfr
    obtain ⟨fm, hmb⟩ := hM2.obj
    refine V.eq (σ2 := σ2) (n2 := n2) (st2 := [.int ans]) rfl rfl rfl rfl ?_
    refine r_aload_n C dL_law_151 rfl 2 rfl ?_
    refine r_aload_n C dL_law_152 rfl 0 rfl ?_
    refine r_iload_n C dL_law_153 rfl 3 rfl ?_
    refine r_iconst (v := nI 1) C dL_law_154 (by decide) ?_
    refine r_iaddN C dL_law_155 ?_
    refine r_sld C hX hbl hG (i := 4 * i + 1) (by omega) (by omega) dL_law_156 ?_
    refine r_aload_n C dL_law_157 rfl 0 rfl ?_
    refine r_iload_n C dL_law_158 rfl 3 rfl ?_
    refine r_iconst (v := nI 2) C dL_law_159 (by decide) ?_
    refine r_iaddN C dL_law_160 ?_
    refine r_sld C hX hbl hG (i := 4 * i + 2) (by omega) (by omega) dL_law_161 ?_
    refine r_aload_n C dL_law_162 rfl 0 rfl ?_
    refine r_iload_n C dL_law_163 rfl 3 rfl ?_
    refine r_iconst (v := nI 3) C dL_law_164 (by decide) ?_
    refine r_iaddN C dL_law_165 ?_
    refine r_sld C hX hbl hG (i := 4 * i + 3) (by omega) (by omega) dL_law_166 ?_
    refine r_callV (As := [.int (xs (4 * i + 1)), .int (xs (4 * i + 2)), .int (xs (4 * i + 3))]) C (hm n2 σ2 hM2) wM_L_17 wI_X7_stack wN_X7 wC_X7_stack wV_X7_stack hd_X7_stack ⟨Nat.le_of_ble_eq_true rfl, Nat.le_of_ble_eq_true rfl⟩ rfl hmb rfl rfl (Nat.le_of_ble_eq_true rfl) dL_law_167 ⟨by show cells + 7 + 0 ≤ 600000; omega, by show slots + 7686 + 0 ≤ 7302250; omega⟩ (fun rv n3 σ3 hp => ?_)
    obtain ⟨rfl, rfl, hM3, hfr3⟩ := hp
    have hW3 := hW2.fr (Nat.le_refl _) hfr3
    refine V.eq (σ2 := σ3) (st2 := [.int ans, .int ans]) rfl rfl rfl rfl ?_
    refine r_icmp_eq (tgt := 745) C dL_law_170 (by decide) (fun _ => ?_) (fun z => absurd rfl z)
    exact k1 _ _ _ hZ2 hW3 hM3
  · refine r_aload_n C dL_law_132 rfl 1 rfl ?_
    refine r_aload_n C dL_law_133 rfl 0 rfl ?_
    refine r_iload_n C dL_law_134 rfl 3 rfl ?_
    refine r_iconst (v := nI 1) C dL_law_135 (by decide) ?_
    refine r_iaddN C dL_law_136 ?_
    refine r_sld C hX hbl hG (i := 4 * i + 1) (by omega) (by omega) dL_law_137 ?_
    refine r_aload_n C dL_law_138 rfl 0 rfl ?_
    refine r_iload_n C dL_law_139 rfl 3 rfl ?_
    refine r_iconst (v := nI 2) C dL_law_140 (by decide) ?_
    refine r_iaddN C dL_law_141 ?_
    refine r_sld C hX hbl hG (i := 4 * i + 2) (by omega) (by omega) dL_law_142 ?_
    refine r_aload_n C dL_law_143 rfl 0 rfl ?_
    refine r_iload_n C dL_law_144 rfl 3 rfl ?_
    refine r_iconst (v := nI 3) C dL_law_145 (by decide) ?_
    refine r_iaddN C dL_law_146 ?_
    refine r_sld C hX hbl hG (i := 4 * i + 3) (by omega) (by omega) dL_law_147 ?_
    refine r_callV (As := [.int (xs (4 * i + 1)), .int (xs (4 * i + 2)), .int (xs (4 * i + 3))]) C hx wM_L_13 wI_X6_stack wN_X6 wC_X6_stack wV_X6_stack hd_X6_stack ⟨Nat.le_of_ble_eq_true rfl, Nat.le_of_ble_eq_true rfl⟩ rfl hob rfl rfl (Nat.le_of_ble_eq_true rfl) dL_law_148 ⟨by show cells + 7 ≤ 600000; omega, by show slots + 31935 ≤ 7302250; omega⟩ (fun rv n2 σ2 hp => ?_)
    obtain ⟨rfl, hn2, hW2, hfr⟩ := hp
    have hM2 := hM.fr hfr
    obtain ⟨fm, hmb⟩ := hM2.obj
    refine V.eq (σ2 := σ2) (n2 := n2) (st2 := [.int ans]) rfl rfl rfl rfl ?_
    refine r_aload_n C dL_law_151 rfl 2 rfl ?_
    refine r_aload_n C dL_law_152 rfl 0 rfl ?_
    refine r_iload_n C dL_law_153 rfl 3 rfl ?_
    refine r_iconst (v := nI 1) C dL_law_154 (by decide) ?_
    refine r_iaddN C dL_law_155 ?_
    refine r_sld C hX hbl hG (i := 4 * i + 1) (by omega) (by omega) dL_law_156 ?_
    refine r_aload_n C dL_law_157 rfl 0 rfl ?_
    refine r_iload_n C dL_law_158 rfl 3 rfl ?_
    refine r_iconst (v := nI 2) C dL_law_159 (by decide) ?_
    refine r_iaddN C dL_law_160 ?_
    refine r_sld C hX hbl hG (i := 4 * i + 2) (by omega) (by omega) dL_law_161 ?_
    refine r_aload_n C dL_law_162 rfl 0 rfl ?_
    refine r_iload_n C dL_law_163 rfl 3 rfl ?_
    refine r_iconst (v := nI 3) C dL_law_164 (by decide) ?_
    refine r_iaddN C dL_law_165 ?_
    refine r_sld C hX hbl hG (i := 4 * i + 3) (by omega) (by omega) dL_law_166 ?_
    refine r_callV (As := [.int (xs (4 * i + 1)), .int (xs (4 * i + 2)), .int (xs (4 * i + 3))]) C (hm n2 σ2 hM2) wM_L_17 wI_X7_stack wN_X7 wC_X7_stack wV_X7_stack hd_X7_stack ⟨Nat.le_of_ble_eq_true rfl, Nat.le_of_ble_eq_true rfl⟩ rfl hmb rfl rfl (Nat.le_of_ble_eq_true rfl) dL_law_167 ⟨by show cells + 7 + 0 ≤ 600000; omega, by show slots + 31935 + 0 ≤ 7302250; omega⟩ (fun rv n3 σ3 hp => ?_)
    obtain ⟨rfl, rfl, hM3, hfr3⟩ := hp
    have hW3 := hW2.fr (Nat.le_refl _) hfr3
    refine V.eq (σ2 := σ3) (st2 := [.int ans, .int ans]) rfl rfl rfl rfl ?_
    refine r_icmp_eq (tgt := 745) C dL_law_170 (by decide) (fun _ => ?_) (fun z => absurd rfl z)
    exact k2 _ _ _ hmi hZ2 hW3 hM3
set_option maxHeartbeats 4000000 in
theorem law_lay {p : Program} {l : Launch} {e : Env} {s : State} {m : MethodId} {below : List Frame} {meth : Method} {c : Code} {G : gG} {Q : State → Prop} {b b0 L i n mi cells slots : Nat} {σ : gS} {xs : Nat → Int32} {Z : ZT} (C : Cx p s m #[Value.ref b] c code 4 RL G) (hX : va_X b L xs s s.heap) (hbl : b < s.heap.size) (hG : G.2.2 = s.heap.size) (hL : L ≤ 2048) (hi : 4 * i + 4 ≤ L) (hZ : ZOK Z) (hW : WX G b0 n σ Z mi) (hM : WM G b0 σ Z) (hc : cells ≤ 590000) (hs : slots ≤ 7200000) (k1 : ∀ n2 σ2 Z2, ZOK Z2 → WX G b0 n2 σ2 Z2 mi → WM G b0 σ2 Z2 → V p l e room_1 s m #[Value.ref b] below meth c G 4 Q (cells + 7) (slots + 7686) n2 σ2 745 [(0, .ref b), (1, .ref b0), (2, .ref (b0 + 44)), (3, .int (nI (4 * i)))] []) (k2 : ∀ n2 σ2 Z2, 1 ≤ mi → ZOK Z2 → WX G b0 n2 σ2 Z2 (mi - 1) → WM G b0 σ2 Z2 → V p l e room_1 s m #[Value.ref b] below meth c G 4 Q (cells + 7) (slots + 31935) n2 σ2 745 [(0, .ref b), (1, .ref b0), (2, .ref (b0 + 44)), (3, .int (nI (4 * i)))] []) : V p l e room_1 s m #[Value.ref b] below meth c G 4 Q cells slots n σ 175 [(0, .ref b), (1, .ref b0), (2, .ref (b0 + 44)), (3, .int (nI (4 * i)))] [] := by
  obtain ⟨ans, Z2, hZ2, hx, hm⟩ := op_lay (l := l) (G := G) (b0 := b0) hZ (xs (4 * i + 1)) (xs (4 * i + 2)) (xs (4 * i + 3))
  obtain ⟨fo, hob⟩ := hW.obj
  rcases hx n σ mi hW with hx | ⟨hmi, hx⟩
  · refine r_aload_n C dL_law_175 rfl 1 rfl ?_
    refine r_aload_n C dL_law_176 rfl 0 rfl ?_
    refine r_iload_n C dL_law_177 rfl 3 rfl ?_
    refine r_iconst (v := nI 1) C dL_law_178 (by decide) ?_
    refine r_iaddN C dL_law_179 ?_
    refine r_sld C hX hbl hG (i := 4 * i + 1) (by omega) (by omega) dL_law_180 ?_
    refine r_aload_n C dL_law_181 rfl 0 rfl ?_
    refine r_iload_n C dL_law_182 rfl 3 rfl ?_
    refine r_iconst (v := nI 2) C dL_law_183 (by decide) ?_
    refine r_iaddN C dL_law_184 ?_
    refine r_sld C hX hbl hG (i := 4 * i + 2) (by omega) (by omega) dL_law_185 ?_
    refine r_aload_n C dL_law_186 rfl 0 rfl ?_
    refine r_iload_n C dL_law_187 rfl 3 rfl ?_
    refine r_iconst (v := nI 3) C dL_law_188 (by decide) ?_
    refine r_iaddN C dL_law_189 ?_
    refine r_sld C hX hbl hG (i := 4 * i + 3) (by omega) (by omega) dL_law_190 ?_
    refine r_callV (As := [.int (xs (4 * i + 1)), .int (xs (4 * i + 2)), .int (xs (4 * i + 3))]) C hx wM_L_18 wI_X6_lay wN_X6 wC_X6_lay wV_X6_lay hd_X6_lay ⟨Nat.le_of_ble_eq_true rfl, Nat.le_of_ble_eq_true rfl⟩ rfl hob rfl rfl (Nat.le_of_ble_eq_true rfl) dL_law_191 ⟨by show cells + 7 ≤ 600000; omega, by show slots + 7686 ≤ 7302250; omega⟩ (fun rv n2 σ2 hp => ?_)
    obtain ⟨rfl, hn2, hW2, hfr⟩ := hp
    have hM2 := hM.fr hfr
    obtain ⟨fm, hmb⟩ := hM2.obj
    refine V.eq (σ2 := σ2) (n2 := n2) (st2 := [.int ans]) rfl rfl rfl rfl ?_
    refine r_aload_n C dL_law_194 rfl 2 rfl ?_
    refine r_aload_n C dL_law_195 rfl 0 rfl ?_
    refine r_iload_n C dL_law_196 rfl 3 rfl ?_
    refine r_iconst (v := nI 1) C dL_law_197 (by decide) ?_
    refine r_iaddN C dL_law_198 ?_
    refine r_sld C hX hbl hG (i := 4 * i + 1) (by omega) (by omega) dL_law_199 ?_
    refine r_aload_n C dL_law_200 rfl 0 rfl ?_
    refine r_iload_n C dL_law_201 rfl 3 rfl ?_
    refine r_iconst (v := nI 2) C dL_law_202 (by decide) ?_
    refine r_iaddN C dL_law_203 ?_
    refine r_sld C hX hbl hG (i := 4 * i + 2) (by omega) (by omega) dL_law_204 ?_
    refine r_aload_n C dL_law_205 rfl 0 rfl ?_
    refine r_iload_n C dL_law_206 rfl 3 rfl ?_
    refine r_iconst (v := nI 3) C dL_law_207 (by decide) ?_
    refine r_iaddN C dL_law_208 ?_
    refine r_sld C hX hbl hG (i := 4 * i + 3) (by omega) (by omega) dL_law_209 ?_
    refine r_callV (As := [.int (xs (4 * i + 1)), .int (xs (4 * i + 2)), .int (xs (4 * i + 3))]) C (hm n2 σ2 hM2) wM_L_21 wI_X7_lay wN_X7 wC_X7_lay wV_X7_lay hd_X7_lay ⟨Nat.le_of_ble_eq_true rfl, Nat.le_of_ble_eq_true rfl⟩ rfl hmb rfl rfl (Nat.le_of_ble_eq_true rfl) dL_law_210 ⟨by show cells + 7 + 0 ≤ 600000; omega, by show slots + 7686 + 0 ≤ 7302250; omega⟩ (fun rv n3 σ3 hp => ?_)
    obtain ⟨rfl, rfl, hM3, hfr3⟩ := hp
    have hW3 := hW2.fr (Nat.le_refl _) hfr3
    refine V.eq (σ2 := σ3) (st2 := [.int ans, .int ans]) rfl rfl rfl rfl ?_
    refine r_icmp_eq (tgt := 745) C dL_law_213 (by decide) (fun _ => ?_) (fun z => absurd rfl z)
    exact k1 _ _ _ hZ2 hW3 hM3
  · refine r_aload_n C dL_law_175 rfl 1 rfl ?_
    refine r_aload_n C dL_law_176 rfl 0 rfl ?_
    refine r_iload_n C dL_law_177 rfl 3 rfl ?_
    refine r_iconst (v := nI 1) C dL_law_178 (by decide) ?_
    refine r_iaddN C dL_law_179 ?_
    refine r_sld C hX hbl hG (i := 4 * i + 1) (by omega) (by omega) dL_law_180 ?_
    refine r_aload_n C dL_law_181 rfl 0 rfl ?_
    refine r_iload_n C dL_law_182 rfl 3 rfl ?_
    refine r_iconst (v := nI 2) C dL_law_183 (by decide) ?_
    refine r_iaddN C dL_law_184 ?_
    refine r_sld C hX hbl hG (i := 4 * i + 2) (by omega) (by omega) dL_law_185 ?_
    refine r_aload_n C dL_law_186 rfl 0 rfl ?_
    refine r_iload_n C dL_law_187 rfl 3 rfl ?_
    refine r_iconst (v := nI 3) C dL_law_188 (by decide) ?_
    refine r_iaddN C dL_law_189 ?_
    refine r_sld C hX hbl hG (i := 4 * i + 3) (by omega) (by omega) dL_law_190 ?_
    refine r_callV (As := [.int (xs (4 * i + 1)), .int (xs (4 * i + 2)), .int (xs (4 * i + 3))]) C hx wM_L_18 wI_X6_lay wN_X6 wC_X6_lay wV_X6_lay hd_X6_lay ⟨Nat.le_of_ble_eq_true rfl, Nat.le_of_ble_eq_true rfl⟩ rfl hob rfl rfl (Nat.le_of_ble_eq_true rfl) dL_law_191 ⟨by show cells + 7 ≤ 600000; omega, by show slots + 31935 ≤ 7302250; omega⟩ (fun rv n2 σ2 hp => ?_)
    obtain ⟨rfl, hn2, hW2, hfr⟩ := hp
    have hM2 := hM.fr hfr
    obtain ⟨fm, hmb⟩ := hM2.obj
    refine V.eq (σ2 := σ2) (n2 := n2) (st2 := [.int ans]) rfl rfl rfl rfl ?_
    refine r_aload_n C dL_law_194 rfl 2 rfl ?_
    refine r_aload_n C dL_law_195 rfl 0 rfl ?_
    refine r_iload_n C dL_law_196 rfl 3 rfl ?_
    refine r_iconst (v := nI 1) C dL_law_197 (by decide) ?_
    refine r_iaddN C dL_law_198 ?_
    refine r_sld C hX hbl hG (i := 4 * i + 1) (by omega) (by omega) dL_law_199 ?_
    refine r_aload_n C dL_law_200 rfl 0 rfl ?_
    refine r_iload_n C dL_law_201 rfl 3 rfl ?_
    refine r_iconst (v := nI 2) C dL_law_202 (by decide) ?_
    refine r_iaddN C dL_law_203 ?_
    refine r_sld C hX hbl hG (i := 4 * i + 2) (by omega) (by omega) dL_law_204 ?_
    refine r_aload_n C dL_law_205 rfl 0 rfl ?_
    refine r_iload_n C dL_law_206 rfl 3 rfl ?_
    refine r_iconst (v := nI 3) C dL_law_207 (by decide) ?_
    refine r_iaddN C dL_law_208 ?_
    refine r_sld C hX hbl hG (i := 4 * i + 3) (by omega) (by omega) dL_law_209 ?_
    refine r_callV (As := [.int (xs (4 * i + 1)), .int (xs (4 * i + 2)), .int (xs (4 * i + 3))]) C (hm n2 σ2 hM2) wM_L_21 wI_X7_lay wN_X7 wC_X7_lay wV_X7_lay hd_X7_lay ⟨Nat.le_of_ble_eq_true rfl, Nat.le_of_ble_eq_true rfl⟩ rfl hmb rfl rfl (Nat.le_of_ble_eq_true rfl) dL_law_210 ⟨by show cells + 7 + 0 ≤ 600000; omega, by show slots + 31935 + 0 ≤ 7302250; omega⟩ (fun rv n3 σ3 hp => ?_)
    obtain ⟨rfl, rfl, hM3, hfr3⟩ := hp
    have hW3 := hW2.fr (Nat.le_refl _) hfr3
    refine V.eq (σ2 := σ3) (st2 := [.int ans, .int ans]) rfl rfl rfl rfl ?_
    refine r_icmp_eq (tgt := 745) C dL_law_213 (by decide) (fun _ => ?_) (fun z => absurd rfl z)
    exact k2 _ _ _ hmi hZ2 hW3 hM3
set_option maxHeartbeats 4000000 in
theorem law_turn {p : Program} {l : Launch} {e : Env} {s : State} {m : MethodId} {below : List Frame} {meth : Method} {c : Code} {G : gG} {Q : State → Prop} {b b0 L i n mi cells slots : Nat} {σ : gS} {xs : Nat → Int32} {Z : ZT} (C : Cx p s m #[Value.ref b] c code 4 RL G) (hX : va_X b L xs s s.heap) (hbl : b < s.heap.size) (hG : G.2.2 = s.heap.size) (hL : L ≤ 2048) (hi : 4 * i + 4 ≤ L) (hZ : ZOK Z) (hW : WX G b0 n σ Z mi) (hM : WM G b0 σ Z) (hc : cells ≤ 590000) (hs : slots ≤ 7200000) (k1 : ∀ n2 σ2 Z2, ZOK Z2 → WX G b0 n2 σ2 Z2 mi → WM G b0 σ2 Z2 → V p l e room_1 s m #[Value.ref b] below meth c G 4 Q (cells + 7) (slots + 7686) n2 σ2 745 [(0, .ref b), (1, .ref b0), (2, .ref (b0 + 44)), (3, .int (nI (4 * i)))] []) (k2 : ∀ n2 σ2 Z2, 1 ≤ mi → ZOK Z2 → WX G b0 n2 σ2 Z2 (mi - 1) → WM G b0 σ2 Z2 → V p l e room_1 s m #[Value.ref b] below meth c G 4 Q (cells + 7) (slots + 31935) n2 σ2 745 [(0, .ref b), (1, .ref b0), (2, .ref (b0 + 44)), (3, .int (nI (4 * i)))] []) : V p l e room_1 s m #[Value.ref b] below meth c G 4 Q cells slots n σ 218 [(0, .ref b), (1, .ref b0), (2, .ref (b0 + 44)), (3, .int (nI (4 * i)))] [] := by
  obtain ⟨ans, Z2, hZ2, hx, hm⟩ := op_turn (l := l) (G := G) (b0 := b0) hZ (xs (4 * i + 1)) (xs (4 * i + 2))
  obtain ⟨fo, hob⟩ := hW.obj
  rcases hx n σ mi hW with hx | ⟨hmi, hx⟩
  · refine r_aload_n C dL_law_218 rfl 1 rfl ?_
    refine r_aload_n C dL_law_219 rfl 0 rfl ?_
    refine r_iload_n C dL_law_220 rfl 3 rfl ?_
    refine r_iconst (v := nI 1) C dL_law_221 (by decide) ?_
    refine r_iaddN C dL_law_222 ?_
    refine r_sld C hX hbl hG (i := 4 * i + 1) (by omega) (by omega) dL_law_223 ?_
    refine r_aload_n C dL_law_224 rfl 0 rfl ?_
    refine r_iload_n C dL_law_225 rfl 3 rfl ?_
    refine r_iconst (v := nI 2) C dL_law_226 (by decide) ?_
    refine r_iaddN C dL_law_227 ?_
    refine r_sld C hX hbl hG (i := 4 * i + 2) (by omega) (by omega) dL_law_228 ?_
    refine r_callV (As := [.int (xs (4 * i + 1)), .int (xs (4 * i + 2))]) C hx wM_L_22 wI_X6_turn wN_X6 wC_X6_turn wV_X6_turn hd_X6_turn ⟨Nat.le_of_ble_eq_true rfl, Nat.le_of_ble_eq_true rfl⟩ rfl hob rfl rfl (Nat.le_of_ble_eq_true rfl) dL_law_229 ⟨by show cells + 7 ≤ 600000; omega, by show slots + 7686 ≤ 7302250; omega⟩ (fun rv n2 σ2 hp => ?_)
    obtain ⟨rfl, hn2, hW2, hfr⟩ := hp
    have hM2 := hM.fr hfr
    obtain ⟨fm, hmb⟩ := hM2.obj
    refine V.eq (σ2 := σ2) (n2 := n2) (st2 := [.int ans]) rfl rfl rfl rfl ?_
    refine r_aload_n C dL_law_232 rfl 2 rfl ?_
    refine r_aload_n C dL_law_233 rfl 0 rfl ?_
    refine r_iload_n C dL_law_234 rfl 3 rfl ?_
    refine r_iconst (v := nI 1) C dL_law_235 (by decide) ?_
    refine r_iaddN C dL_law_236 ?_
    refine r_sld C hX hbl hG (i := 4 * i + 1) (by omega) (by omega) dL_law_237 ?_
    refine r_aload_n C dL_law_238 rfl 0 rfl ?_
    refine r_iload_n C dL_law_239 rfl 3 rfl ?_
    refine r_iconst (v := nI 2) C dL_law_240 (by decide) ?_
    refine r_iaddN C dL_law_241 ?_
    refine r_sld C hX hbl hG (i := 4 * i + 2) (by omega) (by omega) dL_law_242 ?_
    refine r_callV (As := [.int (xs (4 * i + 1)), .int (xs (4 * i + 2))]) C (hm n2 σ2 hM2) wM_L_26 wI_X7_turn wN_X7 wC_X7_turn wV_X7_turn hd_X7_turn ⟨Nat.le_of_ble_eq_true rfl, Nat.le_of_ble_eq_true rfl⟩ rfl hmb rfl rfl (Nat.le_of_ble_eq_true rfl) dL_law_243 ⟨by show cells + 7 + 0 ≤ 600000; omega, by show slots + 7686 + 0 ≤ 7302250; omega⟩ (fun rv n3 σ3 hp => ?_)
    obtain ⟨rfl, rfl, hM3, hfr3⟩ := hp
    have hW3 := hW2.fr (Nat.le_refl _) hfr3
    refine V.eq (σ2 := σ3) (st2 := [.int ans, .int ans]) rfl rfl rfl rfl ?_
    refine r_icmp_eq (tgt := 745) C dL_law_246 (by decide) (fun _ => ?_) (fun z => absurd rfl z)
    exact k1 _ _ _ hZ2 hW3 hM3
  · refine r_aload_n C dL_law_218 rfl 1 rfl ?_
    refine r_aload_n C dL_law_219 rfl 0 rfl ?_
    refine r_iload_n C dL_law_220 rfl 3 rfl ?_
    refine r_iconst (v := nI 1) C dL_law_221 (by decide) ?_
    refine r_iaddN C dL_law_222 ?_
    refine r_sld C hX hbl hG (i := 4 * i + 1) (by omega) (by omega) dL_law_223 ?_
    refine r_aload_n C dL_law_224 rfl 0 rfl ?_
    refine r_iload_n C dL_law_225 rfl 3 rfl ?_
    refine r_iconst (v := nI 2) C dL_law_226 (by decide) ?_
    refine r_iaddN C dL_law_227 ?_
    refine r_sld C hX hbl hG (i := 4 * i + 2) (by omega) (by omega) dL_law_228 ?_
    refine r_callV (As := [.int (xs (4 * i + 1)), .int (xs (4 * i + 2))]) C hx wM_L_22 wI_X6_turn wN_X6 wC_X6_turn wV_X6_turn hd_X6_turn ⟨Nat.le_of_ble_eq_true rfl, Nat.le_of_ble_eq_true rfl⟩ rfl hob rfl rfl (Nat.le_of_ble_eq_true rfl) dL_law_229 ⟨by show cells + 7 ≤ 600000; omega, by show slots + 31935 ≤ 7302250; omega⟩ (fun rv n2 σ2 hp => ?_)
    obtain ⟨rfl, hn2, hW2, hfr⟩ := hp
    have hM2 := hM.fr hfr
    obtain ⟨fm, hmb⟩ := hM2.obj
    refine V.eq (σ2 := σ2) (n2 := n2) (st2 := [.int ans]) rfl rfl rfl rfl ?_
    refine r_aload_n C dL_law_232 rfl 2 rfl ?_
    refine r_aload_n C dL_law_233 rfl 0 rfl ?_
    refine r_iload_n C dL_law_234 rfl 3 rfl ?_
    refine r_iconst (v := nI 1) C dL_law_235 (by decide) ?_
    refine r_iaddN C dL_law_236 ?_
    refine r_sld C hX hbl hG (i := 4 * i + 1) (by omega) (by omega) dL_law_237 ?_
    refine r_aload_n C dL_law_238 rfl 0 rfl ?_
    refine r_iload_n C dL_law_239 rfl 3 rfl ?_
    refine r_iconst (v := nI 2) C dL_law_240 (by decide) ?_
    refine r_iaddN C dL_law_241 ?_
    refine r_sld C hX hbl hG (i := 4 * i + 2) (by omega) (by omega) dL_law_242 ?_
    refine r_callV (As := [.int (xs (4 * i + 1)), .int (xs (4 * i + 2))]) C (hm n2 σ2 hM2) wM_L_26 wI_X7_turn wN_X7 wC_X7_turn wV_X7_turn hd_X7_turn ⟨Nat.le_of_ble_eq_true rfl, Nat.le_of_ble_eq_true rfl⟩ rfl hmb rfl rfl (Nat.le_of_ble_eq_true rfl) dL_law_243 ⟨by show cells + 7 + 0 ≤ 600000; omega, by show slots + 31935 + 0 ≤ 7302250; omega⟩ (fun rv n3 σ3 hp => ?_)
    obtain ⟨rfl, rfl, hM3, hfr3⟩ := hp
    have hW3 := hW2.fr (Nat.le_refl _) hfr3
    refine V.eq (σ2 := σ3) (st2 := [.int ans, .int ans]) rfl rfl rfl rfl ?_
    refine r_icmp_eq (tgt := 745) C dL_law_246 (by decide) (fun _ => ?_) (fun z => absurd rfl z)
    exact k2 _ _ _ hmi hZ2 hW3 hM3
set_option maxHeartbeats 4000000 in
theorem law_doRow {p : Program} {l : Launch} {e : Env} {s : State} {m : MethodId} {below : List Frame} {meth : Method} {c : Code} {G : gG} {Q : State → Prop} {b b0 L i n mi cells slots : Nat} {σ : gS} {xs : Nat → Int32} {Z : ZT} (C : Cx p s m #[Value.ref b] c code 4 RL G) (hX : va_X b L xs s s.heap) (hbl : b < s.heap.size) (hG : G.2.2 = s.heap.size) (hL : L ≤ 2048) (hi : 4 * i + 4 ≤ L) (hZ : ZOK Z) (hW : WX G b0 n σ Z mi) (hM : WM G b0 σ Z) (hc : cells ≤ 590000) (hs : slots ≤ 7200000) (k1 : ∀ n2 σ2 Z2, ZOK Z2 → WX G b0 n2 σ2 Z2 mi → WM G b0 σ2 Z2 → V p l e room_1 s m #[Value.ref b] below meth c G 4 Q (cells + 7) (slots + 7686) n2 σ2 745 [(0, .ref b), (1, .ref b0), (2, .ref (b0 + 44)), (3, .int (nI (4 * i)))] []) (k2 : ∀ n2 σ2 Z2, 1 ≤ mi → ZOK Z2 → WX G b0 n2 σ2 Z2 (mi - 1) → WM G b0 σ2 Z2 → V p l e room_1 s m #[Value.ref b] below meth c G 4 Q (cells + 7) (slots + 31935) n2 σ2 745 [(0, .ref b), (1, .ref b0), (2, .ref (b0 + 44)), (3, .int (nI (4 * i)))] []) : V p l e room_1 s m #[Value.ref b] below meth c G 4 Q cells slots n σ 251 [(0, .ref b), (1, .ref b0), (2, .ref (b0 + 44)), (3, .int (nI (4 * i)))] [] := by
  obtain ⟨ans, Z2, hZ2, hx, hm⟩ := op_doRow (l := l) (G := G) (b0 := b0) hZ (xs (4 * i + 1)) (xs (4 * i + 2))
  obtain ⟨fo, hob⟩ := hW.obj
  rcases hx n σ mi hW with hx | ⟨hmi, hx⟩
  · refine r_aload_n C dL_law_251 rfl 1 rfl ?_
    refine r_aload_n C dL_law_252 rfl 0 rfl ?_
    refine r_iload_n C dL_law_253 rfl 3 rfl ?_
    refine r_iconst (v := nI 1) C dL_law_254 (by decide) ?_
    refine r_iaddN C dL_law_255 ?_
    refine r_sld C hX hbl hG (i := 4 * i + 1) (by omega) (by omega) dL_law_256 ?_
    refine r_aload_n C dL_law_257 rfl 0 rfl ?_
    refine r_iload_n C dL_law_258 rfl 3 rfl ?_
    refine r_iconst (v := nI 2) C dL_law_259 (by decide) ?_
    refine r_iaddN C dL_law_260 ?_
    refine r_sld C hX hbl hG (i := 4 * i + 2) (by omega) (by omega) dL_law_261 ?_
    refine r_callV (As := [.int (xs (4 * i + 1)), .int (xs (4 * i + 2))]) C hx wM_L_27 wI_X6_doRow wN_X6 wC_X6_doRow wV_X6_doRow hd_X6_doRow ⟨Nat.le_of_ble_eq_true rfl, Nat.le_of_ble_eq_true rfl⟩ rfl hob rfl rfl (Nat.le_of_ble_eq_true rfl) dL_law_262 ⟨by show cells + 7 ≤ 600000; omega, by show slots + 7686 ≤ 7302250; omega⟩ (fun rv n2 σ2 hp => ?_)
    obtain ⟨rfl, hn2, hW2, hfr⟩ := hp
    have hM2 := hM.fr hfr
    obtain ⟨fm, hmb⟩ := hM2.obj
    refine V.eq (σ2 := σ2) (n2 := n2) (st2 := [.int ans]) rfl rfl rfl rfl ?_
    refine r_aload_n C dL_law_265 rfl 2 rfl ?_
    refine r_aload_n C dL_law_266 rfl 0 rfl ?_
    refine r_iload_n C dL_law_267 rfl 3 rfl ?_
    refine r_iconst (v := nI 1) C dL_law_268 (by decide) ?_
    refine r_iaddN C dL_law_269 ?_
    refine r_sld C hX hbl hG (i := 4 * i + 1) (by omega) (by omega) dL_law_270 ?_
    refine r_aload_n C dL_law_271 rfl 0 rfl ?_
    refine r_iload_n C dL_law_272 rfl 3 rfl ?_
    refine r_iconst (v := nI 2) C dL_law_273 (by decide) ?_
    refine r_iaddN C dL_law_274 ?_
    refine r_sld C hX hbl hG (i := 4 * i + 2) (by omega) (by omega) dL_law_275 ?_
    refine r_callV (As := [.int (xs (4 * i + 1)), .int (xs (4 * i + 2))]) C (hm n2 σ2 hM2) wM_L_30 wI_X7_doRow wN_X7 wC_X7_doRow wV_X7_doRow hd_X7_doRow ⟨Nat.le_of_ble_eq_true rfl, Nat.le_of_ble_eq_true rfl⟩ rfl hmb rfl rfl (Nat.le_of_ble_eq_true rfl) dL_law_276 ⟨by show cells + 7 + 0 ≤ 600000; omega, by show slots + 7686 + 0 ≤ 7302250; omega⟩ (fun rv n3 σ3 hp => ?_)
    obtain ⟨rfl, rfl, hM3, hfr3⟩ := hp
    have hW3 := hW2.fr (Nat.le_refl _) hfr3
    refine V.eq (σ2 := σ3) (st2 := [.int ans, .int ans]) rfl rfl rfl rfl ?_
    refine r_icmp_eq (tgt := 745) C dL_law_279 (by decide) (fun _ => ?_) (fun z => absurd rfl z)
    exact k1 _ _ _ hZ2 hW3 hM3
  · refine r_aload_n C dL_law_251 rfl 1 rfl ?_
    refine r_aload_n C dL_law_252 rfl 0 rfl ?_
    refine r_iload_n C dL_law_253 rfl 3 rfl ?_
    refine r_iconst (v := nI 1) C dL_law_254 (by decide) ?_
    refine r_iaddN C dL_law_255 ?_
    refine r_sld C hX hbl hG (i := 4 * i + 1) (by omega) (by omega) dL_law_256 ?_
    refine r_aload_n C dL_law_257 rfl 0 rfl ?_
    refine r_iload_n C dL_law_258 rfl 3 rfl ?_
    refine r_iconst (v := nI 2) C dL_law_259 (by decide) ?_
    refine r_iaddN C dL_law_260 ?_
    refine r_sld C hX hbl hG (i := 4 * i + 2) (by omega) (by omega) dL_law_261 ?_
    refine r_callV (As := [.int (xs (4 * i + 1)), .int (xs (4 * i + 2))]) C hx wM_L_27 wI_X6_doRow wN_X6 wC_X6_doRow wV_X6_doRow hd_X6_doRow ⟨Nat.le_of_ble_eq_true rfl, Nat.le_of_ble_eq_true rfl⟩ rfl hob rfl rfl (Nat.le_of_ble_eq_true rfl) dL_law_262 ⟨by show cells + 7 ≤ 600000; omega, by show slots + 31935 ≤ 7302250; omega⟩ (fun rv n2 σ2 hp => ?_)
    obtain ⟨rfl, hn2, hW2, hfr⟩ := hp
    have hM2 := hM.fr hfr
    obtain ⟨fm, hmb⟩ := hM2.obj
    refine V.eq (σ2 := σ2) (n2 := n2) (st2 := [.int ans]) rfl rfl rfl rfl ?_
    refine r_aload_n C dL_law_265 rfl 2 rfl ?_
    refine r_aload_n C dL_law_266 rfl 0 rfl ?_
    refine r_iload_n C dL_law_267 rfl 3 rfl ?_
    refine r_iconst (v := nI 1) C dL_law_268 (by decide) ?_
    refine r_iaddN C dL_law_269 ?_
    refine r_sld C hX hbl hG (i := 4 * i + 1) (by omega) (by omega) dL_law_270 ?_
    refine r_aload_n C dL_law_271 rfl 0 rfl ?_
    refine r_iload_n C dL_law_272 rfl 3 rfl ?_
    refine r_iconst (v := nI 2) C dL_law_273 (by decide) ?_
    refine r_iaddN C dL_law_274 ?_
    refine r_sld C hX hbl hG (i := 4 * i + 2) (by omega) (by omega) dL_law_275 ?_
    refine r_callV (As := [.int (xs (4 * i + 1)), .int (xs (4 * i + 2))]) C (hm n2 σ2 hM2) wM_L_30 wI_X7_doRow wN_X7 wC_X7_doRow wV_X7_doRow hd_X7_doRow ⟨Nat.le_of_ble_eq_true rfl, Nat.le_of_ble_eq_true rfl⟩ rfl hmb rfl rfl (Nat.le_of_ble_eq_true rfl) dL_law_276 ⟨by show cells + 7 + 0 ≤ 600000; omega, by show slots + 31935 + 0 ≤ 7302250; omega⟩ (fun rv n3 σ3 hp => ?_)
    obtain ⟨rfl, rfl, hM3, hfr3⟩ := hp
    have hW3 := hW2.fr (Nat.le_refl _) hfr3
    refine V.eq (σ2 := σ3) (st2 := [.int ans, .int ans]) rfl rfl rfl rfl ?_
    refine r_icmp_eq (tgt := 745) C dL_law_279 (by decide) (fun _ => ?_) (fun z => absurd rfl z)
    exact k2 _ _ _ hmi hZ2 hW3 hM3
set_option maxHeartbeats 4000000 in
theorem law_stackOf {p : Program} {l : Launch} {e : Env} {s : State} {m : MethodId} {below : List Frame} {meth : Method} {c : Code} {G : gG} {Q : State → Prop} {b b0 L i n mi cells slots : Nat} {σ : gS} {xs : Nat → Int32} {Z : ZT} (C : Cx p s m #[Value.ref b] c code 4 RL G) (hX : va_X b L xs s s.heap) (hbl : b < s.heap.size) (hG : G.2.2 = s.heap.size) (hL : L ≤ 2048) (hi : 4 * i + 4 ≤ L) (hZ : ZOK Z) (hW : WX G b0 n σ Z mi) (hM : WM G b0 σ Z) (hc : cells ≤ 590000) (hs : slots ≤ 7200000) (k1 : ∀ n2 σ2 Z2, ZOK Z2 → WX G b0 n2 σ2 Z2 mi → WM G b0 σ2 Z2 → V p l e room_1 s m #[Value.ref b] below meth c G 4 Q (cells + 7) (slots + 7686) n2 σ2 745 [(0, .ref b), (1, .ref b0), (2, .ref (b0 + 44)), (3, .int (nI (4 * i)))] []) (k2 : ∀ n2 σ2 Z2, 1 ≤ mi → ZOK Z2 → WX G b0 n2 σ2 Z2 (mi - 1) → WM G b0 σ2 Z2 → V p l e room_1 s m #[Value.ref b] below meth c G 4 Q (cells + 7) (slots + 31935) n2 σ2 745 [(0, .ref b), (1, .ref b0), (2, .ref (b0 + 44)), (3, .int (nI (4 * i)))] []) : V p l e room_1 s m #[Value.ref b] below meth c G 4 Q cells slots n σ 284 [(0, .ref b), (1, .ref b0), (2, .ref (b0 + 44)), (3, .int (nI (4 * i)))] [] := by
  obtain ⟨ans, Z2, hZ2, hx, hm⟩ := op_stackOf (l := l) (G := G) (b0 := b0) hZ (xs (4 * i + 1)) (xs (4 * i + 2))
  obtain ⟨fo, hob⟩ := hW.obj
  rcases hx n σ mi hW with hx | ⟨hmi, hx⟩
  · refine r_aload_n C dL_law_284 rfl 1 rfl ?_
    refine r_aload_n C dL_law_285 rfl 0 rfl ?_
    refine r_iload_n C dL_law_286 rfl 3 rfl ?_
    refine r_iconst (v := nI 1) C dL_law_287 (by decide) ?_
    refine r_iaddN C dL_law_288 ?_
    refine r_sld C hX hbl hG (i := 4 * i + 1) (by omega) (by omega) dL_law_289 ?_
    refine r_aload_n C dL_law_290 rfl 0 rfl ?_
    refine r_iload_n C dL_law_291 rfl 3 rfl ?_
    refine r_iconst (v := nI 2) C dL_law_292 (by decide) ?_
    refine r_iaddN C dL_law_293 ?_
    refine r_sld C hX hbl hG (i := 4 * i + 2) (by omega) (by omega) dL_law_294 ?_
    refine r_callV (As := [.int (xs (4 * i + 1)), .int (xs (4 * i + 2))]) C hx wM_L_31 wI_X6_stackOf wN_X6 wC_X6_stackOf wV_X6_stackOf hd_X6_stackOf ⟨Nat.le_of_ble_eq_true rfl, Nat.le_of_ble_eq_true rfl⟩ rfl hob rfl rfl (Nat.le_of_ble_eq_true rfl) dL_law_295 ⟨by show cells + 7 ≤ 600000; omega, by show slots + 7686 ≤ 7302250; omega⟩ (fun rv n2 σ2 hp => ?_)
    obtain ⟨rfl, hn2, hW2, hfr⟩ := hp
    have hM2 := hM.fr hfr
    obtain ⟨fm, hmb⟩ := hM2.obj
    refine V.eq (σ2 := σ2) (n2 := n2) (st2 := [.int ans]) rfl rfl rfl rfl ?_
    refine r_aload_n C dL_law_298 rfl 2 rfl ?_
    refine r_aload_n C dL_law_299 rfl 0 rfl ?_
    refine r_iload_n C dL_law_300 rfl 3 rfl ?_
    refine r_iconst (v := nI 1) C dL_law_301 (by decide) ?_
    refine r_iaddN C dL_law_302 ?_
    refine r_sld C hX hbl hG (i := 4 * i + 1) (by omega) (by omega) dL_law_303 ?_
    refine r_aload_n C dL_law_304 rfl 0 rfl ?_
    refine r_iload_n C dL_law_305 rfl 3 rfl ?_
    refine r_iconst (v := nI 2) C dL_law_306 (by decide) ?_
    refine r_iaddN C dL_law_307 ?_
    refine r_sld C hX hbl hG (i := 4 * i + 2) (by omega) (by omega) dL_law_308 ?_
    refine r_callV (As := [.int (xs (4 * i + 1)), .int (xs (4 * i + 2))]) C (hm n2 σ2 hM2) wM_L_34 wI_X7_stackOf wN_X7 wC_X7_stackOf wV_X7_stackOf hd_X7_stackOf ⟨Nat.le_of_ble_eq_true rfl, Nat.le_of_ble_eq_true rfl⟩ rfl hmb rfl rfl (Nat.le_of_ble_eq_true rfl) dL_law_309 ⟨by show cells + 7 + 0 ≤ 600000; omega, by show slots + 7686 + 0 ≤ 7302250; omega⟩ (fun rv n3 σ3 hp => ?_)
    obtain ⟨rfl, rfl, hM3, hfr3⟩ := hp
    have hW3 := hW2.fr (Nat.le_refl _) hfr3
    refine V.eq (σ2 := σ3) (st2 := [.int ans, .int ans]) rfl rfl rfl rfl ?_
    refine r_icmp_eq (tgt := 745) C dL_law_312 (by decide) (fun _ => ?_) (fun z => absurd rfl z)
    exact k1 _ _ _ hZ2 hW3 hM3
  · refine r_aload_n C dL_law_284 rfl 1 rfl ?_
    refine r_aload_n C dL_law_285 rfl 0 rfl ?_
    refine r_iload_n C dL_law_286 rfl 3 rfl ?_
    refine r_iconst (v := nI 1) C dL_law_287 (by decide) ?_
    refine r_iaddN C dL_law_288 ?_
    refine r_sld C hX hbl hG (i := 4 * i + 1) (by omega) (by omega) dL_law_289 ?_
    refine r_aload_n C dL_law_290 rfl 0 rfl ?_
    refine r_iload_n C dL_law_291 rfl 3 rfl ?_
    refine r_iconst (v := nI 2) C dL_law_292 (by decide) ?_
    refine r_iaddN C dL_law_293 ?_
    refine r_sld C hX hbl hG (i := 4 * i + 2) (by omega) (by omega) dL_law_294 ?_
    refine r_callV (As := [.int (xs (4 * i + 1)), .int (xs (4 * i + 2))]) C hx wM_L_31 wI_X6_stackOf wN_X6 wC_X6_stackOf wV_X6_stackOf hd_X6_stackOf ⟨Nat.le_of_ble_eq_true rfl, Nat.le_of_ble_eq_true rfl⟩ rfl hob rfl rfl (Nat.le_of_ble_eq_true rfl) dL_law_295 ⟨by show cells + 7 ≤ 600000; omega, by show slots + 31935 ≤ 7302250; omega⟩ (fun rv n2 σ2 hp => ?_)
    obtain ⟨rfl, hn2, hW2, hfr⟩ := hp
    have hM2 := hM.fr hfr
    obtain ⟨fm, hmb⟩ := hM2.obj
    refine V.eq (σ2 := σ2) (n2 := n2) (st2 := [.int ans]) rfl rfl rfl rfl ?_
    refine r_aload_n C dL_law_298 rfl 2 rfl ?_
    refine r_aload_n C dL_law_299 rfl 0 rfl ?_
    refine r_iload_n C dL_law_300 rfl 3 rfl ?_
    refine r_iconst (v := nI 1) C dL_law_301 (by decide) ?_
    refine r_iaddN C dL_law_302 ?_
    refine r_sld C hX hbl hG (i := 4 * i + 1) (by omega) (by omega) dL_law_303 ?_
    refine r_aload_n C dL_law_304 rfl 0 rfl ?_
    refine r_iload_n C dL_law_305 rfl 3 rfl ?_
    refine r_iconst (v := nI 2) C dL_law_306 (by decide) ?_
    refine r_iaddN C dL_law_307 ?_
    refine r_sld C hX hbl hG (i := 4 * i + 2) (by omega) (by omega) dL_law_308 ?_
    refine r_callV (As := [.int (xs (4 * i + 1)), .int (xs (4 * i + 2))]) C (hm n2 σ2 hM2) wM_L_34 wI_X7_stackOf wN_X7 wC_X7_stackOf wV_X7_stackOf hd_X7_stackOf ⟨Nat.le_of_ble_eq_true rfl, Nat.le_of_ble_eq_true rfl⟩ rfl hmb rfl rfl (Nat.le_of_ble_eq_true rfl) dL_law_309 ⟨by show cells + 7 + 0 ≤ 600000; omega, by show slots + 31935 + 0 ≤ 7302250; omega⟩ (fun rv n3 σ3 hp => ?_)
    obtain ⟨rfl, rfl, hM3, hfr3⟩ := hp
    have hW3 := hW2.fr (Nat.le_refl _) hfr3
    refine V.eq (σ2 := σ3) (st2 := [.int ans, .int ans]) rfl rfl rfl rfl ?_
    refine r_icmp_eq (tgt := 745) C dL_law_312 (by decide) (fun _ => ?_) (fun z => absurd rfl z)
    exact k2 _ _ _ hmi hZ2 hW3 hM3
set_option maxHeartbeats 4000000 in
theorem law_cakeAt {p : Program} {l : Launch} {e : Env} {s : State} {m : MethodId} {below : List Frame} {meth : Method} {c : Code} {G : gG} {Q : State → Prop} {b b0 L i n mi cells slots : Nat} {σ : gS} {xs : Nat → Int32} {Z : ZT} (C : Cx p s m #[Value.ref b] c code 4 RL G) (hX : va_X b L xs s s.heap) (hbl : b < s.heap.size) (hG : G.2.2 = s.heap.size) (hL : L ≤ 2048) (hi : 4 * i + 4 ≤ L) (hZ : ZOK Z) (hW : WX G b0 n σ Z mi) (hM : WM G b0 σ Z) (hc : cells ≤ 590000) (hs : slots ≤ 7200000) (k1 : ∀ n2 σ2 Z2, ZOK Z2 → WX G b0 n2 σ2 Z2 mi → WM G b0 σ2 Z2 → V p l e room_1 s m #[Value.ref b] below meth c G 4 Q (cells + 7) (slots + 7686) n2 σ2 745 [(0, .ref b), (1, .ref b0), (2, .ref (b0 + 44)), (3, .int (nI (4 * i)))] []) (k2 : ∀ n2 σ2 Z2, 1 ≤ mi → ZOK Z2 → WX G b0 n2 σ2 Z2 (mi - 1) → WM G b0 σ2 Z2 → V p l e room_1 s m #[Value.ref b] below meth c G 4 Q (cells + 7) (slots + 31935) n2 σ2 745 [(0, .ref b), (1, .ref b0), (2, .ref (b0 + 44)), (3, .int (nI (4 * i)))] []) : V p l e room_1 s m #[Value.ref b] below meth c G 4 Q cells slots n σ 317 [(0, .ref b), (1, .ref b0), (2, .ref (b0 + 44)), (3, .int (nI (4 * i)))] [] := by
  obtain ⟨ans, Z2, hZ2, hx, hm⟩ := op_cakeAt (l := l) (G := G) (b0 := b0) hZ (xs (4 * i + 1)) (xs (4 * i + 2))
  obtain ⟨fo, hob⟩ := hW.obj
  rcases hx n σ mi hW with hx | ⟨hmi, hx⟩
  · refine r_aload_n C dL_law_317 rfl 1 rfl ?_
    refine r_aload_n C dL_law_318 rfl 0 rfl ?_
    refine r_iload_n C dL_law_319 rfl 3 rfl ?_
    refine r_iconst (v := nI 1) C dL_law_320 (by decide) ?_
    refine r_iaddN C dL_law_321 ?_
    refine r_sld C hX hbl hG (i := 4 * i + 1) (by omega) (by omega) dL_law_322 ?_
    refine r_aload_n C dL_law_323 rfl 0 rfl ?_
    refine r_iload_n C dL_law_324 rfl 3 rfl ?_
    refine r_iconst (v := nI 2) C dL_law_325 (by decide) ?_
    refine r_iaddN C dL_law_326 ?_
    refine r_sld C hX hbl hG (i := 4 * i + 2) (by omega) (by omega) dL_law_327 ?_
    refine r_callV (As := [.int (xs (4 * i + 1)), .int (xs (4 * i + 2))]) C hx wM_L_35 wI_X6_cakeAt wN_X6 wC_X6_cakeAt wV_X6_cakeAt hd_X6_cakeAt ⟨Nat.le_of_ble_eq_true rfl, Nat.le_of_ble_eq_true rfl⟩ rfl hob rfl rfl (Nat.le_of_ble_eq_true rfl) dL_law_328 ⟨by show cells + 7 ≤ 600000; omega, by show slots + 7686 ≤ 7302250; omega⟩ (fun rv n2 σ2 hp => ?_)
    obtain ⟨rfl, hn2, hW2, hfr⟩ := hp
    have hM2 := hM.fr hfr
    obtain ⟨fm, hmb⟩ := hM2.obj
    refine V.eq (σ2 := σ2) (n2 := n2) (st2 := [.int ans]) rfl rfl rfl rfl ?_
    refine r_aload_n C dL_law_331 rfl 2 rfl ?_
    refine r_aload_n C dL_law_332 rfl 0 rfl ?_
    refine r_iload_n C dL_law_333 rfl 3 rfl ?_
    refine r_iconst (v := nI 1) C dL_law_334 (by decide) ?_
    refine r_iaddN C dL_law_335 ?_
    refine r_sld C hX hbl hG (i := 4 * i + 1) (by omega) (by omega) dL_law_336 ?_
    refine r_aload_n C dL_law_337 rfl 0 rfl ?_
    refine r_iload_n C dL_law_338 rfl 3 rfl ?_
    refine r_iconst (v := nI 2) C dL_law_339 (by decide) ?_
    refine r_iaddN C dL_law_340 ?_
    refine r_sld C hX hbl hG (i := 4 * i + 2) (by omega) (by omega) dL_law_341 ?_
    refine r_callV (As := [.int (xs (4 * i + 1)), .int (xs (4 * i + 2))]) C (hm n2 σ2 hM2) wM_L_38 wI_X7_cakeAt wN_X7 wC_X7_cakeAt wV_X7_cakeAt hd_X7_cakeAt ⟨Nat.le_of_ble_eq_true rfl, Nat.le_of_ble_eq_true rfl⟩ rfl hmb rfl rfl (Nat.le_of_ble_eq_true rfl) dL_law_342 ⟨by show cells + 7 + 0 ≤ 600000; omega, by show slots + 7686 + 0 ≤ 7302250; omega⟩ (fun rv n3 σ3 hp => ?_)
    obtain ⟨rfl, rfl, hM3, hfr3⟩ := hp
    have hW3 := hW2.fr (Nat.le_refl _) hfr3
    refine V.eq (σ2 := σ3) (st2 := [.int ans, .int ans]) rfl rfl rfl rfl ?_
    refine r_icmp_eq (tgt := 745) C dL_law_345 (by decide) (fun _ => ?_) (fun z => absurd rfl z)
    exact k1 _ _ _ hZ2 hW3 hM3
  · refine r_aload_n C dL_law_317 rfl 1 rfl ?_
    refine r_aload_n C dL_law_318 rfl 0 rfl ?_
    refine r_iload_n C dL_law_319 rfl 3 rfl ?_
    refine r_iconst (v := nI 1) C dL_law_320 (by decide) ?_
    refine r_iaddN C dL_law_321 ?_
    refine r_sld C hX hbl hG (i := 4 * i + 1) (by omega) (by omega) dL_law_322 ?_
    refine r_aload_n C dL_law_323 rfl 0 rfl ?_
    refine r_iload_n C dL_law_324 rfl 3 rfl ?_
    refine r_iconst (v := nI 2) C dL_law_325 (by decide) ?_
    refine r_iaddN C dL_law_326 ?_
    refine r_sld C hX hbl hG (i := 4 * i + 2) (by omega) (by omega) dL_law_327 ?_
    refine r_callV (As := [.int (xs (4 * i + 1)), .int (xs (4 * i + 2))]) C hx wM_L_35 wI_X6_cakeAt wN_X6 wC_X6_cakeAt wV_X6_cakeAt hd_X6_cakeAt ⟨Nat.le_of_ble_eq_true rfl, Nat.le_of_ble_eq_true rfl⟩ rfl hob rfl rfl (Nat.le_of_ble_eq_true rfl) dL_law_328 ⟨by show cells + 7 ≤ 600000; omega, by show slots + 31935 ≤ 7302250; omega⟩ (fun rv n2 σ2 hp => ?_)
    obtain ⟨rfl, hn2, hW2, hfr⟩ := hp
    have hM2 := hM.fr hfr
    obtain ⟨fm, hmb⟩ := hM2.obj
    refine V.eq (σ2 := σ2) (n2 := n2) (st2 := [.int ans]) rfl rfl rfl rfl ?_
    refine r_aload_n C dL_law_331 rfl 2 rfl ?_
    refine r_aload_n C dL_law_332 rfl 0 rfl ?_
    refine r_iload_n C dL_law_333 rfl 3 rfl ?_
    refine r_iconst (v := nI 1) C dL_law_334 (by decide) ?_
    refine r_iaddN C dL_law_335 ?_
    refine r_sld C hX hbl hG (i := 4 * i + 1) (by omega) (by omega) dL_law_336 ?_
    refine r_aload_n C dL_law_337 rfl 0 rfl ?_
    refine r_iload_n C dL_law_338 rfl 3 rfl ?_
    refine r_iconst (v := nI 2) C dL_law_339 (by decide) ?_
    refine r_iaddN C dL_law_340 ?_
    refine r_sld C hX hbl hG (i := 4 * i + 2) (by omega) (by omega) dL_law_341 ?_
    refine r_callV (As := [.int (xs (4 * i + 1)), .int (xs (4 * i + 2))]) C (hm n2 σ2 hM2) wM_L_38 wI_X7_cakeAt wN_X7 wC_X7_cakeAt wV_X7_cakeAt hd_X7_cakeAt ⟨Nat.le_of_ble_eq_true rfl, Nat.le_of_ble_eq_true rfl⟩ rfl hmb rfl rfl (Nat.le_of_ble_eq_true rfl) dL_law_342 ⟨by show cells + 7 + 0 ≤ 600000; omega, by show slots + 31935 + 0 ≤ 7302250; omega⟩ (fun rv n3 σ3 hp => ?_)
    obtain ⟨rfl, rfl, hM3, hfr3⟩ := hp
    have hW3 := hW2.fr (Nat.le_refl _) hfr3
    refine V.eq (σ2 := σ3) (st2 := [.int ans, .int ans]) rfl rfl rfl rfl ?_
    refine r_icmp_eq (tgt := 745) C dL_law_345 (by decide) (fun _ => ?_) (fun z => absurd rfl z)
    exact k2 _ _ _ hmi hZ2 hW3 hM3
set_option maxHeartbeats 4000000 in
theorem law_gapsBehind {p : Program} {l : Launch} {e : Env} {s : State} {m : MethodId} {below : List Frame} {meth : Method} {c : Code} {G : gG} {Q : State → Prop} {b b0 L i n mi cells slots : Nat} {σ : gS} {xs : Nat → Int32} {Z : ZT} (C : Cx p s m #[Value.ref b] c code 4 RL G) (hX : va_X b L xs s s.heap) (hbl : b < s.heap.size) (hG : G.2.2 = s.heap.size) (hL : L ≤ 2048) (hi : 4 * i + 4 ≤ L) (hZ : ZOK Z) (hW : WX G b0 n σ Z mi) (hM : WM G b0 σ Z) (hc : cells ≤ 590000) (hs : slots ≤ 7200000) (k1 : ∀ n2 σ2 Z2, ZOK Z2 → WX G b0 n2 σ2 Z2 mi → WM G b0 σ2 Z2 → V p l e room_1 s m #[Value.ref b] below meth c G 4 Q (cells + 7) (slots + 7686) n2 σ2 745 [(0, .ref b), (1, .ref b0), (2, .ref (b0 + 44)), (3, .int (nI (4 * i)))] []) (k2 : ∀ n2 σ2 Z2, 1 ≤ mi → ZOK Z2 → WX G b0 n2 σ2 Z2 (mi - 1) → WM G b0 σ2 Z2 → V p l e room_1 s m #[Value.ref b] below meth c G 4 Q (cells + 7) (slots + 31935) n2 σ2 745 [(0, .ref b), (1, .ref b0), (2, .ref (b0 + 44)), (3, .int (nI (4 * i)))] []) : V p l e room_1 s m #[Value.ref b] below meth c G 4 Q cells slots n σ 350 [(0, .ref b), (1, .ref b0), (2, .ref (b0 + 44)), (3, .int (nI (4 * i)))] [] := by
  obtain ⟨ans, Z2, hZ2, hx, hm⟩ := op_gapsBehind (l := l) (G := G) (b0 := b0) hZ (xs (4 * i + 1)) (xs (4 * i + 2))
  obtain ⟨fo, hob⟩ := hW.obj
  rcases hx n σ mi hW with hx | ⟨hmi, hx⟩
  · refine r_aload_n C dL_law_350 rfl 1 rfl ?_
    refine r_aload_n C dL_law_351 rfl 0 rfl ?_
    refine r_iload_n C dL_law_352 rfl 3 rfl ?_
    refine r_iconst (v := nI 1) C dL_law_353 (by decide) ?_
    refine r_iaddN C dL_law_354 ?_
    refine r_sld C hX hbl hG (i := 4 * i + 1) (by omega) (by omega) dL_law_355 ?_
    refine r_aload_n C dL_law_356 rfl 0 rfl ?_
    refine r_iload_n C dL_law_357 rfl 3 rfl ?_
    refine r_iconst (v := nI 2) C dL_law_358 (by decide) ?_
    refine r_iaddN C dL_law_359 ?_
    refine r_sld C hX hbl hG (i := 4 * i + 2) (by omega) (by omega) dL_law_360 ?_
    refine r_callV (As := [.int (xs (4 * i + 1)), .int (xs (4 * i + 2))]) C hx wM_L_39 wI_X6_gapsBehind wN_X6 wC_X6_gapsBehind wV_X6_gapsBehind hd_X6_gapsBehind ⟨Nat.le_of_ble_eq_true rfl, Nat.le_of_ble_eq_true rfl⟩ rfl hob rfl rfl (Nat.le_of_ble_eq_true rfl) dL_law_361 ⟨by show cells + 7 ≤ 600000; omega, by show slots + 7686 ≤ 7302250; omega⟩ (fun rv n2 σ2 hp => ?_)
    obtain ⟨rfl, hn2, hW2, hfr⟩ := hp
    have hM2 := hM.fr hfr
    obtain ⟨fm, hmb⟩ := hM2.obj
    refine V.eq (σ2 := σ2) (n2 := n2) (st2 := [.int ans]) rfl rfl rfl rfl ?_
    refine r_aload_n C dL_law_364 rfl 2 rfl ?_
    refine r_aload_n C dL_law_365 rfl 0 rfl ?_
    refine r_iload_n C dL_law_366 rfl 3 rfl ?_
    refine r_iconst (v := nI 1) C dL_law_367 (by decide) ?_
    refine r_iaddN C dL_law_368 ?_
    refine r_sld C hX hbl hG (i := 4 * i + 1) (by omega) (by omega) dL_law_369 ?_
    refine r_aload_n C dL_law_370 rfl 0 rfl ?_
    refine r_iload_n C dL_law_371 rfl 3 rfl ?_
    refine r_iconst (v := nI 2) C dL_law_372 (by decide) ?_
    refine r_iaddN C dL_law_373 ?_
    refine r_sld C hX hbl hG (i := 4 * i + 2) (by omega) (by omega) dL_law_374 ?_
    refine r_callV (As := [.int (xs (4 * i + 1)), .int (xs (4 * i + 2))]) C (hm n2 σ2 hM2) wM_L_42 wI_X7_gapsBehind wN_X7 wC_X7_gapsBehind wV_X7_gapsBehind hd_X7_gapsBehind ⟨Nat.le_of_ble_eq_true rfl, Nat.le_of_ble_eq_true rfl⟩ rfl hmb rfl rfl (Nat.le_of_ble_eq_true rfl) dL_law_375 ⟨by show cells + 7 + 0 ≤ 600000; omega, by show slots + 7686 + 0 ≤ 7302250; omega⟩ (fun rv n3 σ3 hp => ?_)
    obtain ⟨rfl, rfl, hM3, hfr3⟩ := hp
    have hW3 := hW2.fr (Nat.le_refl _) hfr3
    refine V.eq (σ2 := σ3) (st2 := [.int ans, .int ans]) rfl rfl rfl rfl ?_
    refine r_icmp_eq (tgt := 745) C dL_law_378 (by decide) (fun _ => ?_) (fun z => absurd rfl z)
    exact k1 _ _ _ hZ2 hW3 hM3
  · refine r_aload_n C dL_law_350 rfl 1 rfl ?_
    refine r_aload_n C dL_law_351 rfl 0 rfl ?_
    refine r_iload_n C dL_law_352 rfl 3 rfl ?_
    refine r_iconst (v := nI 1) C dL_law_353 (by decide) ?_
    refine r_iaddN C dL_law_354 ?_
    refine r_sld C hX hbl hG (i := 4 * i + 1) (by omega) (by omega) dL_law_355 ?_
    refine r_aload_n C dL_law_356 rfl 0 rfl ?_
    refine r_iload_n C dL_law_357 rfl 3 rfl ?_
    refine r_iconst (v := nI 2) C dL_law_358 (by decide) ?_
    refine r_iaddN C dL_law_359 ?_
    refine r_sld C hX hbl hG (i := 4 * i + 2) (by omega) (by omega) dL_law_360 ?_
    refine r_callV (As := [.int (xs (4 * i + 1)), .int (xs (4 * i + 2))]) C hx wM_L_39 wI_X6_gapsBehind wN_X6 wC_X6_gapsBehind wV_X6_gapsBehind hd_X6_gapsBehind ⟨Nat.le_of_ble_eq_true rfl, Nat.le_of_ble_eq_true rfl⟩ rfl hob rfl rfl (Nat.le_of_ble_eq_true rfl) dL_law_361 ⟨by show cells + 7 ≤ 600000; omega, by show slots + 31935 ≤ 7302250; omega⟩ (fun rv n2 σ2 hp => ?_)
    obtain ⟨rfl, hn2, hW2, hfr⟩ := hp
    have hM2 := hM.fr hfr
    obtain ⟨fm, hmb⟩ := hM2.obj
    refine V.eq (σ2 := σ2) (n2 := n2) (st2 := [.int ans]) rfl rfl rfl rfl ?_
    refine r_aload_n C dL_law_364 rfl 2 rfl ?_
    refine r_aload_n C dL_law_365 rfl 0 rfl ?_
    refine r_iload_n C dL_law_366 rfl 3 rfl ?_
    refine r_iconst (v := nI 1) C dL_law_367 (by decide) ?_
    refine r_iaddN C dL_law_368 ?_
    refine r_sld C hX hbl hG (i := 4 * i + 1) (by omega) (by omega) dL_law_369 ?_
    refine r_aload_n C dL_law_370 rfl 0 rfl ?_
    refine r_iload_n C dL_law_371 rfl 3 rfl ?_
    refine r_iconst (v := nI 2) C dL_law_372 (by decide) ?_
    refine r_iaddN C dL_law_373 ?_
    refine r_sld C hX hbl hG (i := 4 * i + 2) (by omega) (by omega) dL_law_374 ?_
    refine r_callV (As := [.int (xs (4 * i + 1)), .int (xs (4 * i + 2))]) C (hm n2 σ2 hM2) wM_L_42 wI_X7_gapsBehind wN_X7 wC_X7_gapsBehind wV_X7_gapsBehind hd_X7_gapsBehind ⟨Nat.le_of_ble_eq_true rfl, Nat.le_of_ble_eq_true rfl⟩ rfl hmb rfl rfl (Nat.le_of_ble_eq_true rfl) dL_law_375 ⟨by show cells + 7 + 0 ≤ 600000; omega, by show slots + 31935 + 0 ≤ 7302250; omega⟩ (fun rv n3 σ3 hp => ?_)
    obtain ⟨rfl, rfl, hM3, hfr3⟩ := hp
    have hW3 := hW2.fr (Nat.le_refl _) hfr3
    refine V.eq (σ2 := σ3) (st2 := [.int ans, .int ans]) rfl rfl rfl rfl ?_
    refine r_icmp_eq (tgt := 745) C dL_law_378 (by decide) (fun _ => ?_) (fun z => absurd rfl z)
    exact k2 _ _ _ hmi hZ2 hW3 hM3
set_option maxHeartbeats 4000000 in
theorem law_fewest {p : Program} {l : Launch} {e : Env} {s : State} {m : MethodId} {below : List Frame} {meth : Method} {c : Code} {G : gG} {Q : State → Prop} {b b0 L i n mi cells slots : Nat} {σ : gS} {xs : Nat → Int32} {Z : ZT} (C : Cx p s m #[Value.ref b] c code 4 RL G) (hX : va_X b L xs s s.heap) (hbl : b < s.heap.size) (hG : G.2.2 = s.heap.size) (hL : L ≤ 2048) (hi : 4 * i + 4 ≤ L) (hZ : ZOK Z) (hW : WX G b0 n σ Z mi) (hM : WM G b0 σ Z) (hc : cells ≤ 590000) (hs : slots ≤ 7200000) (k1 : ∀ n2 σ2 Z2, ZOK Z2 → WX G b0 n2 σ2 Z2 mi → WM G b0 σ2 Z2 → V p l e room_1 s m #[Value.ref b] below meth c G 4 Q (cells + 7) (slots + 7686) n2 σ2 745 [(0, .ref b), (1, .ref b0), (2, .ref (b0 + 44)), (3, .int (nI (4 * i)))] []) (k2 : ∀ n2 σ2 Z2, 1 ≤ mi → ZOK Z2 → WX G b0 n2 σ2 Z2 (mi - 1) → WM G b0 σ2 Z2 → V p l e room_1 s m #[Value.ref b] below meth c G 4 Q (cells + 7) (slots + 31935) n2 σ2 745 [(0, .ref b), (1, .ref b0), (2, .ref (b0 + 44)), (3, .int (nI (4 * i)))] []) : V p l e room_1 s m #[Value.ref b] below meth c G 4 Q cells slots n σ 383 [(0, .ref b), (1, .ref b0), (2, .ref (b0 + 44)), (3, .int (nI (4 * i)))] [] := by
  obtain ⟨ans, Z2, hZ2, hx, hm⟩ := op_fewest (l := l) (G := G) (b0 := b0) hZ (xs (4 * i + 1)) (xs (4 * i + 2))
  obtain ⟨fo, hob⟩ := hW.obj
  rcases hx n σ mi hW with hx | ⟨hmi, hx⟩
  · refine r_aload_n C dL_law_383 rfl 1 rfl ?_
    refine r_aload_n C dL_law_384 rfl 0 rfl ?_
    refine r_iload_n C dL_law_385 rfl 3 rfl ?_
    refine r_iconst (v := nI 1) C dL_law_386 (by decide) ?_
    refine r_iaddN C dL_law_387 ?_
    refine r_sld C hX hbl hG (i := 4 * i + 1) (by omega) (by omega) dL_law_388 ?_
    refine r_aload_n C dL_law_389 rfl 0 rfl ?_
    refine r_iload_n C dL_law_390 rfl 3 rfl ?_
    refine r_iconst (v := nI 2) C dL_law_391 (by decide) ?_
    refine r_iaddN C dL_law_392 ?_
    refine r_sld C hX hbl hG (i := 4 * i + 2) (by omega) (by omega) dL_law_393 ?_
    refine r_callV (As := [.int (xs (4 * i + 1)), .int (xs (4 * i + 2))]) C hx wM_L_43 wI_X6_fewest wN_X6 wC_X6_fewest wV_X6_fewest hd_X6_fewest ⟨Nat.le_of_ble_eq_true rfl, Nat.le_of_ble_eq_true rfl⟩ rfl hob rfl rfl (Nat.le_of_ble_eq_true rfl) dL_law_394 ⟨by show cells + 7 ≤ 600000; omega, by show slots + 7686 ≤ 7302250; omega⟩ (fun rv n2 σ2 hp => ?_)
    obtain ⟨rfl, hn2, hW2, hfr⟩ := hp
    have hM2 := hM.fr hfr
    obtain ⟨fm, hmb⟩ := hM2.obj
    refine V.eq (σ2 := σ2) (n2 := n2) (st2 := [.int ans]) rfl rfl rfl rfl ?_
    refine r_aload_n C dL_law_397 rfl 2 rfl ?_
    refine r_aload_n C dL_law_398 rfl 0 rfl ?_
    refine r_iload_n C dL_law_399 rfl 3 rfl ?_
    refine r_iconst (v := nI 1) C dL_law_400 (by decide) ?_
    refine r_iaddN C dL_law_401 ?_
    refine r_sld C hX hbl hG (i := 4 * i + 1) (by omega) (by omega) dL_law_402 ?_
    refine r_aload_n C dL_law_403 rfl 0 rfl ?_
    refine r_iload_n C dL_law_404 rfl 3 rfl ?_
    refine r_iconst (v := nI 2) C dL_law_405 (by decide) ?_
    refine r_iaddN C dL_law_406 ?_
    refine r_sld C hX hbl hG (i := 4 * i + 2) (by omega) (by omega) dL_law_407 ?_
    refine r_callV (As := [.int (xs (4 * i + 1)), .int (xs (4 * i + 2))]) C (hm n2 σ2 hM2) wM_L_46 wI_X7_fewest wN_X7 wC_X7_fewest wV_X7_fewest hd_X7_fewest ⟨Nat.le_of_ble_eq_true rfl, Nat.le_of_ble_eq_true rfl⟩ rfl hmb rfl rfl (Nat.le_of_ble_eq_true rfl) dL_law_408 ⟨by show cells + 7 + 0 ≤ 600000; omega, by show slots + 7686 + 0 ≤ 7302250; omega⟩ (fun rv n3 σ3 hp => ?_)
    obtain ⟨rfl, rfl, hM3, hfr3⟩ := hp
    have hW3 := hW2.fr (Nat.le_refl _) hfr3
    refine V.eq (σ2 := σ3) (st2 := [.int ans, .int ans]) rfl rfl rfl rfl ?_
    refine r_icmp_eq (tgt := 745) C dL_law_411 (by decide) (fun _ => ?_) (fun z => absurd rfl z)
    exact k1 _ _ _ hZ2 hW3 hM3
  · refine r_aload_n C dL_law_383 rfl 1 rfl ?_
    refine r_aload_n C dL_law_384 rfl 0 rfl ?_
    refine r_iload_n C dL_law_385 rfl 3 rfl ?_
    refine r_iconst (v := nI 1) C dL_law_386 (by decide) ?_
    refine r_iaddN C dL_law_387 ?_
    refine r_sld C hX hbl hG (i := 4 * i + 1) (by omega) (by omega) dL_law_388 ?_
    refine r_aload_n C dL_law_389 rfl 0 rfl ?_
    refine r_iload_n C dL_law_390 rfl 3 rfl ?_
    refine r_iconst (v := nI 2) C dL_law_391 (by decide) ?_
    refine r_iaddN C dL_law_392 ?_
    refine r_sld C hX hbl hG (i := 4 * i + 2) (by omega) (by omega) dL_law_393 ?_
    refine r_callV (As := [.int (xs (4 * i + 1)), .int (xs (4 * i + 2))]) C hx wM_L_43 wI_X6_fewest wN_X6 wC_X6_fewest wV_X6_fewest hd_X6_fewest ⟨Nat.le_of_ble_eq_true rfl, Nat.le_of_ble_eq_true rfl⟩ rfl hob rfl rfl (Nat.le_of_ble_eq_true rfl) dL_law_394 ⟨by show cells + 7 ≤ 600000; omega, by show slots + 31935 ≤ 7302250; omega⟩ (fun rv n2 σ2 hp => ?_)
    obtain ⟨rfl, hn2, hW2, hfr⟩ := hp
    have hM2 := hM.fr hfr
    obtain ⟨fm, hmb⟩ := hM2.obj
    refine V.eq (σ2 := σ2) (n2 := n2) (st2 := [.int ans]) rfl rfl rfl rfl ?_
    refine r_aload_n C dL_law_397 rfl 2 rfl ?_
    refine r_aload_n C dL_law_398 rfl 0 rfl ?_
    refine r_iload_n C dL_law_399 rfl 3 rfl ?_
    refine r_iconst (v := nI 1) C dL_law_400 (by decide) ?_
    refine r_iaddN C dL_law_401 ?_
    refine r_sld C hX hbl hG (i := 4 * i + 1) (by omega) (by omega) dL_law_402 ?_
    refine r_aload_n C dL_law_403 rfl 0 rfl ?_
    refine r_iload_n C dL_law_404 rfl 3 rfl ?_
    refine r_iconst (v := nI 2) C dL_law_405 (by decide) ?_
    refine r_iaddN C dL_law_406 ?_
    refine r_sld C hX hbl hG (i := 4 * i + 2) (by omega) (by omega) dL_law_407 ?_
    refine r_callV (As := [.int (xs (4 * i + 1)), .int (xs (4 * i + 2))]) C (hm n2 σ2 hM2) wM_L_46 wI_X7_fewest wN_X7 wC_X7_fewest wV_X7_fewest hd_X7_fewest ⟨Nat.le_of_ble_eq_true rfl, Nat.le_of_ble_eq_true rfl⟩ rfl hmb rfl rfl (Nat.le_of_ble_eq_true rfl) dL_law_408 ⟨by show cells + 7 + 0 ≤ 600000; omega, by show slots + 31935 + 0 ≤ 7302250; omega⟩ (fun rv n3 σ3 hp => ?_)
    obtain ⟨rfl, rfl, hM3, hfr3⟩ := hp
    have hW3 := hW2.fr (Nat.le_refl _) hfr3
    refine V.eq (σ2 := σ3) (st2 := [.int ans, .int ans]) rfl rfl rfl rfl ?_
    refine r_icmp_eq (tgt := 745) C dL_law_411 (by decide) (fun _ => ?_) (fun z => absurd rfl z)
    exact k2 _ _ _ hmi hZ2 hW3 hM3
set_option maxHeartbeats 4000000 in
theorem law_leastWork {p : Program} {l : Launch} {e : Env} {s : State} {m : MethodId} {below : List Frame} {meth : Method} {c : Code} {G : gG} {Q : State → Prop} {b b0 L i n mi cells slots : Nat} {σ : gS} {xs : Nat → Int32} {Z : ZT} (C : Cx p s m #[Value.ref b] c code 4 RL G) (hX : va_X b L xs s s.heap) (hbl : b < s.heap.size) (hG : G.2.2 = s.heap.size) (hL : L ≤ 2048) (hi : 4 * i + 4 ≤ L) (hZ : ZOK Z) (hW : WX G b0 n σ Z mi) (hM : WM G b0 σ Z) (hc : cells ≤ 590000) (hs : slots ≤ 7200000) (k1 : ∀ n2 σ2 Z2, ZOK Z2 → WX G b0 n2 σ2 Z2 mi → WM G b0 σ2 Z2 → V p l e room_1 s m #[Value.ref b] below meth c G 4 Q (cells + 7) (slots + 7686) n2 σ2 745 [(0, .ref b), (1, .ref b0), (2, .ref (b0 + 44)), (3, .int (nI (4 * i)))] []) (k2 : ∀ n2 σ2 Z2, 1 ≤ mi → ZOK Z2 → WX G b0 n2 σ2 Z2 (mi - 1) → WM G b0 σ2 Z2 → V p l e room_1 s m #[Value.ref b] below meth c G 4 Q (cells + 7) (slots + 31935) n2 σ2 745 [(0, .ref b), (1, .ref b0), (2, .ref (b0 + 44)), (3, .int (nI (4 * i)))] []) : V p l e room_1 s m #[Value.ref b] below meth c G 4 Q cells slots n σ 416 [(0, .ref b), (1, .ref b0), (2, .ref (b0 + 44)), (3, .int (nI (4 * i)))] [] := by
  obtain ⟨ans, Z2, hZ2, hx, hm⟩ := op_leastWork (l := l) (G := G) (b0 := b0) hZ (xs (4 * i + 1))
  obtain ⟨fo, hob⟩ := hW.obj
  rcases hx n σ mi hW with hx | ⟨hmi, hx⟩
  · refine r_aload_n C dL_law_416 rfl 1 rfl ?_
    refine r_aload_n C dL_law_417 rfl 0 rfl ?_
    refine r_iload_n C dL_law_418 rfl 3 rfl ?_
    refine r_iconst (v := nI 1) C dL_law_419 (by decide) ?_
    refine r_iaddN C dL_law_420 ?_
    refine r_sld C hX hbl hG (i := 4 * i + 1) (by omega) (by omega) dL_law_421 ?_
    refine r_callV (As := [.int (xs (4 * i + 1))]) C hx wM_L_47 wI_X6_leastWork wN_X6 wC_X6_leastWork wV_X6_leastWork hd_X6_leastWork ⟨Nat.le_of_ble_eq_true rfl, Nat.le_of_ble_eq_true rfl⟩ rfl hob rfl rfl (Nat.le_of_ble_eq_true rfl) dL_law_422 ⟨by show cells + 7 ≤ 600000; omega, by show slots + 7686 ≤ 7302250; omega⟩ (fun rv n2 σ2 hp => ?_)
    obtain ⟨rfl, hn2, hW2, hfr⟩ := hp
    have hM2 := hM.fr hfr
    obtain ⟨fm, hmb⟩ := hM2.obj
    refine V.eq (σ2 := σ2) (n2 := n2) (st2 := [.int ans]) rfl rfl rfl rfl ?_
    refine r_aload_n C dL_law_425 rfl 2 rfl ?_
    refine r_aload_n C dL_law_426 rfl 0 rfl ?_
    refine r_iload_n C dL_law_427 rfl 3 rfl ?_
    refine r_iconst (v := nI 1) C dL_law_428 (by decide) ?_
    refine r_iaddN C dL_law_429 ?_
    refine r_sld C hX hbl hG (i := 4 * i + 1) (by omega) (by omega) dL_law_430 ?_
    refine r_callV (As := [.int (xs (4 * i + 1))]) C (hm n2 σ2 hM2) wM_L_51 wI_X7_leastWork wN_X7 wC_X7_leastWork wV_X7_leastWork hd_X7_leastWork ⟨Nat.le_of_ble_eq_true rfl, Nat.le_of_ble_eq_true rfl⟩ rfl hmb rfl rfl (Nat.le_of_ble_eq_true rfl) dL_law_431 ⟨by show cells + 7 + 0 ≤ 600000; omega, by show slots + 7686 + 0 ≤ 7302250; omega⟩ (fun rv n3 σ3 hp => ?_)
    obtain ⟨rfl, rfl, hM3, hfr3⟩ := hp
    have hW3 := hW2.fr (Nat.le_refl _) hfr3
    refine V.eq (σ2 := σ3) (st2 := [.int ans, .int ans]) rfl rfl rfl rfl ?_
    refine r_icmp_eq (tgt := 745) C dL_law_434 (by decide) (fun _ => ?_) (fun z => absurd rfl z)
    exact k1 _ _ _ hZ2 hW3 hM3
  · refine r_aload_n C dL_law_416 rfl 1 rfl ?_
    refine r_aload_n C dL_law_417 rfl 0 rfl ?_
    refine r_iload_n C dL_law_418 rfl 3 rfl ?_
    refine r_iconst (v := nI 1) C dL_law_419 (by decide) ?_
    refine r_iaddN C dL_law_420 ?_
    refine r_sld C hX hbl hG (i := 4 * i + 1) (by omega) (by omega) dL_law_421 ?_
    refine r_callV (As := [.int (xs (4 * i + 1))]) C hx wM_L_47 wI_X6_leastWork wN_X6 wC_X6_leastWork wV_X6_leastWork hd_X6_leastWork ⟨Nat.le_of_ble_eq_true rfl, Nat.le_of_ble_eq_true rfl⟩ rfl hob rfl rfl (Nat.le_of_ble_eq_true rfl) dL_law_422 ⟨by show cells + 7 ≤ 600000; omega, by show slots + 31935 ≤ 7302250; omega⟩ (fun rv n2 σ2 hp => ?_)
    obtain ⟨rfl, hn2, hW2, hfr⟩ := hp
    have hM2 := hM.fr hfr
    obtain ⟨fm, hmb⟩ := hM2.obj
    refine V.eq (σ2 := σ2) (n2 := n2) (st2 := [.int ans]) rfl rfl rfl rfl ?_
    refine r_aload_n C dL_law_425 rfl 2 rfl ?_
    refine r_aload_n C dL_law_426 rfl 0 rfl ?_
    refine r_iload_n C dL_law_427 rfl 3 rfl ?_
    refine r_iconst (v := nI 1) C dL_law_428 (by decide) ?_
    refine r_iaddN C dL_law_429 ?_
    refine r_sld C hX hbl hG (i := 4 * i + 1) (by omega) (by omega) dL_law_430 ?_
    refine r_callV (As := [.int (xs (4 * i + 1))]) C (hm n2 σ2 hM2) wM_L_51 wI_X7_leastWork wN_X7 wC_X7_leastWork wV_X7_leastWork hd_X7_leastWork ⟨Nat.le_of_ble_eq_true rfl, Nat.le_of_ble_eq_true rfl⟩ rfl hmb rfl rfl (Nat.le_of_ble_eq_true rfl) dL_law_431 ⟨by show cells + 7 + 0 ≤ 600000; omega, by show slots + 31935 + 0 ≤ 7302250; omega⟩ (fun rv n3 σ3 hp => ?_)
    obtain ⟨rfl, rfl, hM3, hfr3⟩ := hp
    have hW3 := hW2.fr (Nat.le_refl _) hfr3
    refine V.eq (σ2 := σ3) (st2 := [.int ans, .int ans]) rfl rfl rfl rfl ?_
    refine r_icmp_eq (tgt := 745) C dL_law_434 (by decide) (fun _ => ?_) (fun z => absurd rfl z)
    exact k2 _ _ _ hmi hZ2 hW3 hM3
set_option maxHeartbeats 4000000 in
theorem law_ways {p : Program} {l : Launch} {e : Env} {s : State} {m : MethodId} {below : List Frame} {meth : Method} {c : Code} {G : gG} {Q : State → Prop} {b b0 L i n mi cells slots : Nat} {σ : gS} {xs : Nat → Int32} {Z : ZT} (C : Cx p s m #[Value.ref b] c code 4 RL G) (hX : va_X b L xs s s.heap) (hbl : b < s.heap.size) (hG : G.2.2 = s.heap.size) (hL : L ≤ 2048) (hi : 4 * i + 4 ≤ L) (hZ : ZOK Z) (hW : WX G b0 n σ Z mi) (hM : WM G b0 σ Z) (hc : cells ≤ 590000) (hs : slots ≤ 7200000) (k1 : ∀ n2 σ2 Z2, ZOK Z2 → WX G b0 n2 σ2 Z2 mi → WM G b0 σ2 Z2 → V p l e room_1 s m #[Value.ref b] below meth c G 4 Q (cells + 7) (slots + 7686) n2 σ2 745 [(0, .ref b), (1, .ref b0), (2, .ref (b0 + 44)), (3, .int (nI (4 * i)))] []) (k2 : ∀ n2 σ2 Z2, 1 ≤ mi → ZOK Z2 → WX G b0 n2 σ2 Z2 (mi - 1) → WM G b0 σ2 Z2 → V p l e room_1 s m #[Value.ref b] below meth c G 4 Q (cells + 7) (slots + 31935) n2 σ2 745 [(0, .ref b), (1, .ref b0), (2, .ref (b0 + 44)), (3, .int (nI (4 * i)))] []) : V p l e room_1 s m #[Value.ref b] below meth c G 4 Q cells slots n σ 439 [(0, .ref b), (1, .ref b0), (2, .ref (b0 + 44)), (3, .int (nI (4 * i)))] [] := by
  obtain ⟨ans, Z2, hZ2, hx, hm⟩ := op_ways (l := l) (G := G) (b0 := b0) hZ (xs (4 * i + 1)) (xs (4 * i + 2))
  obtain ⟨fo, hob⟩ := hW.obj
  rcases hx n σ mi hW with hx | ⟨hmi, hx⟩
  · refine r_aload_n C dL_law_439 rfl 1 rfl ?_
    refine r_aload_n C dL_law_440 rfl 0 rfl ?_
    refine r_iload_n C dL_law_441 rfl 3 rfl ?_
    refine r_iconst (v := nI 1) C dL_law_442 (by decide) ?_
    refine r_iaddN C dL_law_443 ?_
    refine r_sld C hX hbl hG (i := 4 * i + 1) (by omega) (by omega) dL_law_444 ?_
    refine r_aload_n C dL_law_445 rfl 0 rfl ?_
    refine r_iload_n C dL_law_446 rfl 3 rfl ?_
    refine r_iconst (v := nI 2) C dL_law_447 (by decide) ?_
    refine r_iaddN C dL_law_448 ?_
    refine r_sld C hX hbl hG (i := 4 * i + 2) (by omega) (by omega) dL_law_449 ?_
    refine r_callV (As := [.int (xs (4 * i + 1)), .int (xs (4 * i + 2))]) C hx wM_L_52 wI_X6_ways wN_X6 wC_X6_ways wV_X6_ways hd_X6_ways ⟨Nat.le_of_ble_eq_true rfl, Nat.le_of_ble_eq_true rfl⟩ rfl hob rfl rfl (Nat.le_of_ble_eq_true rfl) dL_law_450 ⟨by show cells + 7 ≤ 600000; omega, by show slots + 7686 ≤ 7302250; omega⟩ (fun rv n2 σ2 hp => ?_)
    obtain ⟨rfl, hn2, hW2, hfr⟩ := hp
    have hM2 := hM.fr hfr
    obtain ⟨fm, hmb⟩ := hM2.obj
    refine V.eq (σ2 := σ2) (n2 := n2) (st2 := [.int ans]) rfl rfl rfl rfl ?_
    refine r_aload_n C dL_law_453 rfl 2 rfl ?_
    refine r_aload_n C dL_law_454 rfl 0 rfl ?_
    refine r_iload_n C dL_law_455 rfl 3 rfl ?_
    refine r_iconst (v := nI 1) C dL_law_456 (by decide) ?_
    refine r_iaddN C dL_law_457 ?_
    refine r_sld C hX hbl hG (i := 4 * i + 1) (by omega) (by omega) dL_law_458 ?_
    refine r_aload_n C dL_law_459 rfl 0 rfl ?_
    refine r_iload_n C dL_law_460 rfl 3 rfl ?_
    refine r_iconst (v := nI 2) C dL_law_461 (by decide) ?_
    refine r_iaddN C dL_law_462 ?_
    refine r_sld C hX hbl hG (i := 4 * i + 2) (by omega) (by omega) dL_law_463 ?_
    refine r_callV (As := [.int (xs (4 * i + 1)), .int (xs (4 * i + 2))]) C (hm n2 σ2 hM2) wM_L_55 wI_X7_ways wN_X7 wC_X7_ways wV_X7_ways hd_X7_ways ⟨Nat.le_of_ble_eq_true rfl, Nat.le_of_ble_eq_true rfl⟩ rfl hmb rfl rfl (Nat.le_of_ble_eq_true rfl) dL_law_464 ⟨by show cells + 7 + 0 ≤ 600000; omega, by show slots + 7686 + 0 ≤ 7302250; omega⟩ (fun rv n3 σ3 hp => ?_)
    obtain ⟨rfl, rfl, hM3, hfr3⟩ := hp
    have hW3 := hW2.fr (Nat.le_refl _) hfr3
    refine V.eq (σ2 := σ3) (st2 := [.int ans, .int ans]) rfl rfl rfl rfl ?_
    refine r_icmp_eq (tgt := 745) C dL_law_467 (by decide) (fun _ => ?_) (fun z => absurd rfl z)
    exact k1 _ _ _ hZ2 hW3 hM3
  · refine r_aload_n C dL_law_439 rfl 1 rfl ?_
    refine r_aload_n C dL_law_440 rfl 0 rfl ?_
    refine r_iload_n C dL_law_441 rfl 3 rfl ?_
    refine r_iconst (v := nI 1) C dL_law_442 (by decide) ?_
    refine r_iaddN C dL_law_443 ?_
    refine r_sld C hX hbl hG (i := 4 * i + 1) (by omega) (by omega) dL_law_444 ?_
    refine r_aload_n C dL_law_445 rfl 0 rfl ?_
    refine r_iload_n C dL_law_446 rfl 3 rfl ?_
    refine r_iconst (v := nI 2) C dL_law_447 (by decide) ?_
    refine r_iaddN C dL_law_448 ?_
    refine r_sld C hX hbl hG (i := 4 * i + 2) (by omega) (by omega) dL_law_449 ?_
    refine r_callV (As := [.int (xs (4 * i + 1)), .int (xs (4 * i + 2))]) C hx wM_L_52 wI_X6_ways wN_X6 wC_X6_ways wV_X6_ways hd_X6_ways ⟨Nat.le_of_ble_eq_true rfl, Nat.le_of_ble_eq_true rfl⟩ rfl hob rfl rfl (Nat.le_of_ble_eq_true rfl) dL_law_450 ⟨by show cells + 7 ≤ 600000; omega, by show slots + 31935 ≤ 7302250; omega⟩ (fun rv n2 σ2 hp => ?_)
    obtain ⟨rfl, hn2, hW2, hfr⟩ := hp
    have hM2 := hM.fr hfr
    obtain ⟨fm, hmb⟩ := hM2.obj
    refine V.eq (σ2 := σ2) (n2 := n2) (st2 := [.int ans]) rfl rfl rfl rfl ?_
    refine r_aload_n C dL_law_453 rfl 2 rfl ?_
    refine r_aload_n C dL_law_454 rfl 0 rfl ?_
    refine r_iload_n C dL_law_455 rfl 3 rfl ?_
    refine r_iconst (v := nI 1) C dL_law_456 (by decide) ?_
    refine r_iaddN C dL_law_457 ?_
    refine r_sld C hX hbl hG (i := 4 * i + 1) (by omega) (by omega) dL_law_458 ?_
    refine r_aload_n C dL_law_459 rfl 0 rfl ?_
    refine r_iload_n C dL_law_460 rfl 3 rfl ?_
    refine r_iconst (v := nI 2) C dL_law_461 (by decide) ?_
    refine r_iaddN C dL_law_462 ?_
    refine r_sld C hX hbl hG (i := 4 * i + 2) (by omega) (by omega) dL_law_463 ?_
    refine r_callV (As := [.int (xs (4 * i + 1)), .int (xs (4 * i + 2))]) C (hm n2 σ2 hM2) wM_L_55 wI_X7_ways wN_X7 wC_X7_ways wV_X7_ways hd_X7_ways ⟨Nat.le_of_ble_eq_true rfl, Nat.le_of_ble_eq_true rfl⟩ rfl hmb rfl rfl (Nat.le_of_ble_eq_true rfl) dL_law_464 ⟨by show cells + 7 + 0 ≤ 600000; omega, by show slots + 31935 + 0 ≤ 7302250; omega⟩ (fun rv n3 σ3 hp => ?_)
    obtain ⟨rfl, rfl, hM3, hfr3⟩ := hp
    have hW3 := hW2.fr (Nat.le_refl _) hfr3
    refine V.eq (σ2 := σ3) (st2 := [.int ans, .int ans]) rfl rfl rfl rfl ?_
    refine r_icmp_eq (tgt := 745) C dL_law_467 (by decide) (fun _ => ?_) (fun z => absurd rfl z)
    exact k2 _ _ _ hmi hZ2 hW3 hM3
set_option maxHeartbeats 4000000 in
theorem law_lookedAt {p : Program} {l : Launch} {e : Env} {s : State} {m : MethodId} {below : List Frame} {meth : Method} {c : Code} {G : gG} {Q : State → Prop} {b b0 L i n mi cells slots : Nat} {σ : gS} {xs : Nat → Int32} {Z : ZT} (C : Cx p s m #[Value.ref b] c code 4 RL G) (hX : va_X b L xs s s.heap) (hbl : b < s.heap.size) (hG : G.2.2 = s.heap.size) (hL : L ≤ 2048) (hi : 4 * i + 4 ≤ L) (hZ : ZOK Z) (hW : WX G b0 n σ Z mi) (hM : WM G b0 σ Z) (hc : cells ≤ 590000) (hs : slots ≤ 7200000) (k1 : ∀ n2 σ2 Z2, ZOK Z2 → WX G b0 n2 σ2 Z2 mi → WM G b0 σ2 Z2 → V p l e room_1 s m #[Value.ref b] below meth c G 4 Q (cells + 7) (slots + 7686) n2 σ2 745 [(0, .ref b), (1, .ref b0), (2, .ref (b0 + 44)), (3, .int (nI (4 * i)))] []) (k2 : ∀ n2 σ2 Z2, 1 ≤ mi → ZOK Z2 → WX G b0 n2 σ2 Z2 (mi - 1) → WM G b0 σ2 Z2 → V p l e room_1 s m #[Value.ref b] below meth c G 4 Q (cells + 7) (slots + 31935) n2 σ2 745 [(0, .ref b), (1, .ref b0), (2, .ref (b0 + 44)), (3, .int (nI (4 * i)))] []) : V p l e room_1 s m #[Value.ref b] below meth c G 4 Q cells slots n σ 472 [(0, .ref b), (1, .ref b0), (2, .ref (b0 + 44)), (3, .int (nI (4 * i)))] [] := by
  obtain ⟨ans, Z2, hZ2, hx, hm⟩ := op_lookedAt (l := l) (G := G) (b0 := b0) hZ (xs (4 * i + 1)) (xs (4 * i + 2))
  obtain ⟨fo, hob⟩ := hW.obj
  rcases hx n σ mi hW with hx | ⟨hmi, hx⟩
  · refine r_aload_n C dL_law_472 rfl 1 rfl ?_
    refine r_aload_n C dL_law_473 rfl 0 rfl ?_
    refine r_iload_n C dL_law_474 rfl 3 rfl ?_
    refine r_iconst (v := nI 1) C dL_law_475 (by decide) ?_
    refine r_iaddN C dL_law_476 ?_
    refine r_sld C hX hbl hG (i := 4 * i + 1) (by omega) (by omega) dL_law_477 ?_
    refine r_aload_n C dL_law_478 rfl 0 rfl ?_
    refine r_iload_n C dL_law_479 rfl 3 rfl ?_
    refine r_iconst (v := nI 2) C dL_law_480 (by decide) ?_
    refine r_iaddN C dL_law_481 ?_
    refine r_sld C hX hbl hG (i := 4 * i + 2) (by omega) (by omega) dL_law_482 ?_
    refine r_callV (As := [.int (xs (4 * i + 1)), .int (xs (4 * i + 2))]) C hx wM_L_56 wI_X6_lookedAt wN_X6 wC_X6_lookedAt wV_X6_lookedAt hd_X6_lookedAt ⟨Nat.le_of_ble_eq_true rfl, Nat.le_of_ble_eq_true rfl⟩ rfl hob rfl rfl (Nat.le_of_ble_eq_true rfl) dL_law_483 ⟨by show cells + 7 ≤ 600000; omega, by show slots + 7686 ≤ 7302250; omega⟩ (fun rv n2 σ2 hp => ?_)
    obtain ⟨rfl, hn2, hW2, hfr⟩ := hp
    have hM2 := hM.fr hfr
    obtain ⟨fm, hmb⟩ := hM2.obj
    refine V.eq (σ2 := σ2) (n2 := n2) (st2 := [.int ans]) rfl rfl rfl rfl ?_
    refine r_aload_n C dL_law_486 rfl 2 rfl ?_
    refine r_aload_n C dL_law_487 rfl 0 rfl ?_
    refine r_iload_n C dL_law_488 rfl 3 rfl ?_
    refine r_iconst (v := nI 1) C dL_law_489 (by decide) ?_
    refine r_iaddN C dL_law_490 ?_
    refine r_sld C hX hbl hG (i := 4 * i + 1) (by omega) (by omega) dL_law_491 ?_
    refine r_aload_n C dL_law_492 rfl 0 rfl ?_
    refine r_iload_n C dL_law_493 rfl 3 rfl ?_
    refine r_iconst (v := nI 2) C dL_law_494 (by decide) ?_
    refine r_iaddN C dL_law_495 ?_
    refine r_sld C hX hbl hG (i := 4 * i + 2) (by omega) (by omega) dL_law_496 ?_
    refine r_callV (As := [.int (xs (4 * i + 1)), .int (xs (4 * i + 2))]) C (hm n2 σ2 hM2) wM_L_59 wI_X7_lookedAt wN_X7 wC_X7_lookedAt wV_X7_lookedAt hd_X7_lookedAt ⟨Nat.le_of_ble_eq_true rfl, Nat.le_of_ble_eq_true rfl⟩ rfl hmb rfl rfl (Nat.le_of_ble_eq_true rfl) dL_law_497 ⟨by show cells + 7 + 0 ≤ 600000; omega, by show slots + 7686 + 0 ≤ 7302250; omega⟩ (fun rv n3 σ3 hp => ?_)
    obtain ⟨rfl, rfl, hM3, hfr3⟩ := hp
    have hW3 := hW2.fr (Nat.le_refl _) hfr3
    refine V.eq (σ2 := σ3) (st2 := [.int ans, .int ans]) rfl rfl rfl rfl ?_
    refine r_icmp_eq (tgt := 745) C dL_law_500 (by decide) (fun _ => ?_) (fun z => absurd rfl z)
    exact k1 _ _ _ hZ2 hW3 hM3
  · refine r_aload_n C dL_law_472 rfl 1 rfl ?_
    refine r_aload_n C dL_law_473 rfl 0 rfl ?_
    refine r_iload_n C dL_law_474 rfl 3 rfl ?_
    refine r_iconst (v := nI 1) C dL_law_475 (by decide) ?_
    refine r_iaddN C dL_law_476 ?_
    refine r_sld C hX hbl hG (i := 4 * i + 1) (by omega) (by omega) dL_law_477 ?_
    refine r_aload_n C dL_law_478 rfl 0 rfl ?_
    refine r_iload_n C dL_law_479 rfl 3 rfl ?_
    refine r_iconst (v := nI 2) C dL_law_480 (by decide) ?_
    refine r_iaddN C dL_law_481 ?_
    refine r_sld C hX hbl hG (i := 4 * i + 2) (by omega) (by omega) dL_law_482 ?_
    refine r_callV (As := [.int (xs (4 * i + 1)), .int (xs (4 * i + 2))]) C hx wM_L_56 wI_X6_lookedAt wN_X6 wC_X6_lookedAt wV_X6_lookedAt hd_X6_lookedAt ⟨Nat.le_of_ble_eq_true rfl, Nat.le_of_ble_eq_true rfl⟩ rfl hob rfl rfl (Nat.le_of_ble_eq_true rfl) dL_law_483 ⟨by show cells + 7 ≤ 600000; omega, by show slots + 31935 ≤ 7302250; omega⟩ (fun rv n2 σ2 hp => ?_)
    obtain ⟨rfl, hn2, hW2, hfr⟩ := hp
    have hM2 := hM.fr hfr
    obtain ⟨fm, hmb⟩ := hM2.obj
    refine V.eq (σ2 := σ2) (n2 := n2) (st2 := [.int ans]) rfl rfl rfl rfl ?_
    refine r_aload_n C dL_law_486 rfl 2 rfl ?_
    refine r_aload_n C dL_law_487 rfl 0 rfl ?_
    refine r_iload_n C dL_law_488 rfl 3 rfl ?_
    refine r_iconst (v := nI 1) C dL_law_489 (by decide) ?_
    refine r_iaddN C dL_law_490 ?_
    refine r_sld C hX hbl hG (i := 4 * i + 1) (by omega) (by omega) dL_law_491 ?_
    refine r_aload_n C dL_law_492 rfl 0 rfl ?_
    refine r_iload_n C dL_law_493 rfl 3 rfl ?_
    refine r_iconst (v := nI 2) C dL_law_494 (by decide) ?_
    refine r_iaddN C dL_law_495 ?_
    refine r_sld C hX hbl hG (i := 4 * i + 2) (by omega) (by omega) dL_law_496 ?_
    refine r_callV (As := [.int (xs (4 * i + 1)), .int (xs (4 * i + 2))]) C (hm n2 σ2 hM2) wM_L_59 wI_X7_lookedAt wN_X7 wC_X7_lookedAt wV_X7_lookedAt hd_X7_lookedAt ⟨Nat.le_of_ble_eq_true rfl, Nat.le_of_ble_eq_true rfl⟩ rfl hmb rfl rfl (Nat.le_of_ble_eq_true rfl) dL_law_497 ⟨by show cells + 7 + 0 ≤ 600000; omega, by show slots + 31935 + 0 ≤ 7302250; omega⟩ (fun rv n3 σ3 hp => ?_)
    obtain ⟨rfl, rfl, hM3, hfr3⟩ := hp
    have hW3 := hW2.fr (Nat.le_refl _) hfr3
    refine V.eq (σ2 := σ3) (st2 := [.int ans, .int ans]) rfl rfl rfl rfl ?_
    refine r_icmp_eq (tgt := 745) C dL_law_500 (by decide) (fun _ => ?_) (fun z => absurd rfl z)
    exact k2 _ _ _ hmi hZ2 hW3 hM3
set_option maxHeartbeats 4000000 in
theorem law_simple {p : Program} {l : Launch} {e : Env} {s : State} {m : MethodId} {below : List Frame} {meth : Method} {c : Code} {G : gG} {Q : State → Prop} {b b0 L i n mi cells slots : Nat} {σ : gS} {xs : Nat → Int32} {Z : ZT} (C : Cx p s m #[Value.ref b] c code 4 RL G) (hX : va_X b L xs s s.heap) (hbl : b < s.heap.size) (hG : G.2.2 = s.heap.size) (hL : L ≤ 2048) (hi : 4 * i + 4 ≤ L) (hZ : ZOK Z) (hW : WX G b0 n σ Z mi) (hM : WM G b0 σ Z) (hc : cells ≤ 590000) (hs : slots ≤ 7200000) (k1 : ∀ n2 σ2 Z2, ZOK Z2 → WX G b0 n2 σ2 Z2 mi → WM G b0 σ2 Z2 → V p l e room_1 s m #[Value.ref b] below meth c G 4 Q (cells + 7) (slots + 7686) n2 σ2 745 [(0, .ref b), (1, .ref b0), (2, .ref (b0 + 44)), (3, .int (nI (4 * i)))] []) (k2 : ∀ n2 σ2 Z2, 1 ≤ mi → ZOK Z2 → WX G b0 n2 σ2 Z2 (mi - 1) → WM G b0 σ2 Z2 → V p l e room_1 s m #[Value.ref b] below meth c G 4 Q (cells + 7) (slots + 31935) n2 σ2 745 [(0, .ref b), (1, .ref b0), (2, .ref (b0 + 44)), (3, .int (nI (4 * i)))] []) : V p l e room_1 s m #[Value.ref b] below meth c G 4 Q cells slots n σ 505 [(0, .ref b), (1, .ref b0), (2, .ref (b0 + 44)), (3, .int (nI (4 * i)))] [] := by
  obtain ⟨ans, Z2, hZ2, hx, hm⟩ := op_simple (l := l) (G := G) (b0 := b0) hZ (xs (4 * i + 1)) (xs (4 * i + 2))
  obtain ⟨fo, hob⟩ := hW.obj
  rcases hx n σ mi hW with hx | ⟨hmi, hx⟩
  · refine r_aload_n C dL_law_505 rfl 1 rfl ?_
    refine r_aload_n C dL_law_506 rfl 0 rfl ?_
    refine r_iload_n C dL_law_507 rfl 3 rfl ?_
    refine r_iconst (v := nI 1) C dL_law_508 (by decide) ?_
    refine r_iaddN C dL_law_509 ?_
    refine r_sld C hX hbl hG (i := 4 * i + 1) (by omega) (by omega) dL_law_510 ?_
    refine r_aload_n C dL_law_511 rfl 0 rfl ?_
    refine r_iload_n C dL_law_512 rfl 3 rfl ?_
    refine r_iconst (v := nI 2) C dL_law_513 (by decide) ?_
    refine r_iaddN C dL_law_514 ?_
    refine r_sld C hX hbl hG (i := 4 * i + 2) (by omega) (by omega) dL_law_515 ?_
    refine r_callV (As := [.int (xs (4 * i + 1)), .int (xs (4 * i + 2))]) C hx wM_L_60 wI_X6_simple wN_X6 wC_X6_simple wV_X6_simple hd_X6_simple ⟨Nat.le_of_ble_eq_true rfl, Nat.le_of_ble_eq_true rfl⟩ rfl hob rfl rfl (Nat.le_of_ble_eq_true rfl) dL_law_516 ⟨by show cells + 7 ≤ 600000; omega, by show slots + 7686 ≤ 7302250; omega⟩ (fun rv n2 σ2 hp => ?_)
    obtain ⟨rfl, hn2, hW2, hfr⟩ := hp
    have hM2 := hM.fr hfr
    obtain ⟨fm, hmb⟩ := hM2.obj
    refine V.eq (σ2 := σ2) (n2 := n2) (st2 := [.int ans]) rfl rfl rfl rfl ?_
    refine r_aload_n C dL_law_519 rfl 2 rfl ?_
    refine r_aload_n C dL_law_520 rfl 0 rfl ?_
    refine r_iload_n C dL_law_521 rfl 3 rfl ?_
    refine r_iconst (v := nI 1) C dL_law_522 (by decide) ?_
    refine r_iaddN C dL_law_523 ?_
    refine r_sld C hX hbl hG (i := 4 * i + 1) (by omega) (by omega) dL_law_524 ?_
    refine r_aload_n C dL_law_525 rfl 0 rfl ?_
    refine r_iload_n C dL_law_526 rfl 3 rfl ?_
    refine r_iconst (v := nI 2) C dL_law_527 (by decide) ?_
    refine r_iaddN C dL_law_528 ?_
    refine r_sld C hX hbl hG (i := 4 * i + 2) (by omega) (by omega) dL_law_529 ?_
    refine r_callV (As := [.int (xs (4 * i + 1)), .int (xs (4 * i + 2))]) C (hm n2 σ2 hM2) wM_L_63 wI_X7_simple wN_X7 wC_X7_simple wV_X7_simple hd_X7_simple ⟨Nat.le_of_ble_eq_true rfl, Nat.le_of_ble_eq_true rfl⟩ rfl hmb rfl rfl (Nat.le_of_ble_eq_true rfl) dL_law_530 ⟨by show cells + 7 + 0 ≤ 600000; omega, by show slots + 7686 + 0 ≤ 7302250; omega⟩ (fun rv n3 σ3 hp => ?_)
    obtain ⟨rfl, rfl, hM3, hfr3⟩ := hp
    have hW3 := hW2.fr (Nat.le_refl _) hfr3
    refine V.eq (σ2 := σ3) (st2 := [.int ans, .int ans]) rfl rfl rfl rfl ?_
    refine r_icmp_eq (tgt := 745) C dL_law_533 (by decide) (fun _ => ?_) (fun z => absurd rfl z)
    exact k1 _ _ _ hZ2 hW3 hM3
  · refine r_aload_n C dL_law_505 rfl 1 rfl ?_
    refine r_aload_n C dL_law_506 rfl 0 rfl ?_
    refine r_iload_n C dL_law_507 rfl 3 rfl ?_
    refine r_iconst (v := nI 1) C dL_law_508 (by decide) ?_
    refine r_iaddN C dL_law_509 ?_
    refine r_sld C hX hbl hG (i := 4 * i + 1) (by omega) (by omega) dL_law_510 ?_
    refine r_aload_n C dL_law_511 rfl 0 rfl ?_
    refine r_iload_n C dL_law_512 rfl 3 rfl ?_
    refine r_iconst (v := nI 2) C dL_law_513 (by decide) ?_
    refine r_iaddN C dL_law_514 ?_
    refine r_sld C hX hbl hG (i := 4 * i + 2) (by omega) (by omega) dL_law_515 ?_
    refine r_callV (As := [.int (xs (4 * i + 1)), .int (xs (4 * i + 2))]) C hx wM_L_60 wI_X6_simple wN_X6 wC_X6_simple wV_X6_simple hd_X6_simple ⟨Nat.le_of_ble_eq_true rfl, Nat.le_of_ble_eq_true rfl⟩ rfl hob rfl rfl (Nat.le_of_ble_eq_true rfl) dL_law_516 ⟨by show cells + 7 ≤ 600000; omega, by show slots + 31935 ≤ 7302250; omega⟩ (fun rv n2 σ2 hp => ?_)
    obtain ⟨rfl, hn2, hW2, hfr⟩ := hp
    have hM2 := hM.fr hfr
    obtain ⟨fm, hmb⟩ := hM2.obj
    refine V.eq (σ2 := σ2) (n2 := n2) (st2 := [.int ans]) rfl rfl rfl rfl ?_
    refine r_aload_n C dL_law_519 rfl 2 rfl ?_
    refine r_aload_n C dL_law_520 rfl 0 rfl ?_
    refine r_iload_n C dL_law_521 rfl 3 rfl ?_
    refine r_iconst (v := nI 1) C dL_law_522 (by decide) ?_
    refine r_iaddN C dL_law_523 ?_
    refine r_sld C hX hbl hG (i := 4 * i + 1) (by omega) (by omega) dL_law_524 ?_
    refine r_aload_n C dL_law_525 rfl 0 rfl ?_
    refine r_iload_n C dL_law_526 rfl 3 rfl ?_
    refine r_iconst (v := nI 2) C dL_law_527 (by decide) ?_
    refine r_iaddN C dL_law_528 ?_
    refine r_sld C hX hbl hG (i := 4 * i + 2) (by omega) (by omega) dL_law_529 ?_
    refine r_callV (As := [.int (xs (4 * i + 1)), .int (xs (4 * i + 2))]) C (hm n2 σ2 hM2) wM_L_63 wI_X7_simple wN_X7 wC_X7_simple wV_X7_simple hd_X7_simple ⟨Nat.le_of_ble_eq_true rfl, Nat.le_of_ble_eq_true rfl⟩ rfl hmb rfl rfl (Nat.le_of_ble_eq_true rfl) dL_law_530 ⟨by show cells + 7 + 0 ≤ 600000; omega, by show slots + 31935 + 0 ≤ 7302250; omega⟩ (fun rv n3 σ3 hp => ?_)
    obtain ⟨rfl, rfl, hM3, hfr3⟩ := hp
    have hW3 := hW2.fr (Nat.le_refl _) hfr3
    refine V.eq (σ2 := σ3) (st2 := [.int ans, .int ans]) rfl rfl rfl rfl ?_
    refine r_icmp_eq (tgt := 745) C dL_law_533 (by decide) (fun _ => ?_) (fun z => absurd rfl z)
    exact k2 _ _ _ hmi hZ2 hW3 hM3
set_option maxHeartbeats 4000000 in
theorem law_bestTurn {p : Program} {l : Launch} {e : Env} {s : State} {m : MethodId} {below : List Frame} {meth : Method} {c : Code} {G : gG} {Q : State → Prop} {b b0 L i n mi cells slots : Nat} {σ : gS} {xs : Nat → Int32} {Z : ZT} (C : Cx p s m #[Value.ref b] c code 4 RL G) (hX : va_X b L xs s s.heap) (hbl : b < s.heap.size) (hG : G.2.2 = s.heap.size) (hL : L ≤ 2048) (hi : 4 * i + 4 ≤ L) (hZ : ZOK Z) (hW : WX G b0 n σ Z mi) (hM : WM G b0 σ Z) (hc : cells ≤ 590000) (hs : slots ≤ 7200000) (k1 : ∀ n2 σ2 Z2, ZOK Z2 → WX G b0 n2 σ2 Z2 mi → WM G b0 σ2 Z2 → V p l e room_1 s m #[Value.ref b] below meth c G 4 Q (cells + 7) (slots + 7686) n2 σ2 745 [(0, .ref b), (1, .ref b0), (2, .ref (b0 + 44)), (3, .int (nI (4 * i)))] []) (k2 : ∀ n2 σ2 Z2, 1 ≤ mi → ZOK Z2 → WX G b0 n2 σ2 Z2 (mi - 1) → WM G b0 σ2 Z2 → V p l e room_1 s m #[Value.ref b] below meth c G 4 Q (cells + 7) (slots + 31935) n2 σ2 745 [(0, .ref b), (1, .ref b0), (2, .ref (b0 + 44)), (3, .int (nI (4 * i)))] []) : V p l e room_1 s m #[Value.ref b] below meth c G 4 Q cells slots n σ 538 [(0, .ref b), (1, .ref b0), (2, .ref (b0 + 44)), (3, .int (nI (4 * i)))] [] := by
  obtain ⟨ans, Z2, hZ2, hx, hm⟩ := op_bestTurn (l := l) (G := G) (b0 := b0) hZ (xs (4 * i + 1))
  obtain ⟨fo, hob⟩ := hW.obj
  rcases hx n σ mi hW with hx | ⟨hmi, hx⟩
  · refine r_aload_n C dL_law_538 rfl 1 rfl ?_
    refine r_aload_n C dL_law_539 rfl 0 rfl ?_
    refine r_iload_n C dL_law_540 rfl 3 rfl ?_
    refine r_iconst (v := nI 1) C dL_law_541 (by decide) ?_
    refine r_iaddN C dL_law_542 ?_
    refine r_sld C hX hbl hG (i := 4 * i + 1) (by omega) (by omega) dL_law_543 ?_
    refine r_callV (As := [.int (xs (4 * i + 1))]) C hx wM_L_64 wI_X6_bestTurn wN_X6 wC_X6_bestTurn wV_X6_bestTurn hd_X6_bestTurn ⟨Nat.le_of_ble_eq_true rfl, Nat.le_of_ble_eq_true rfl⟩ rfl hob rfl rfl (Nat.le_of_ble_eq_true rfl) dL_law_544 ⟨by show cells + 7 ≤ 600000; omega, by show slots + 7686 ≤ 7302250; omega⟩ (fun rv n2 σ2 hp => ?_)
    obtain ⟨rfl, hn2, hW2, hfr⟩ := hp
    have hM2 := hM.fr hfr
    obtain ⟨fm, hmb⟩ := hM2.obj
    refine V.eq (σ2 := σ2) (n2 := n2) (st2 := [.int ans]) rfl rfl rfl rfl ?_
    refine r_aload_n C dL_law_547 rfl 2 rfl ?_
    refine r_aload_n C dL_law_548 rfl 0 rfl ?_
    refine r_iload_n C dL_law_549 rfl 3 rfl ?_
    refine r_iconst (v := nI 1) C dL_law_550 (by decide) ?_
    refine r_iaddN C dL_law_551 ?_
    refine r_sld C hX hbl hG (i := 4 * i + 1) (by omega) (by omega) dL_law_552 ?_
    refine r_callV (As := [.int (xs (4 * i + 1))]) C (hm n2 σ2 hM2) wM_L_67 wI_X7_bestTurn wN_X7 wC_X7_bestTurn wV_X7_bestTurn hd_X7_bestTurn ⟨Nat.le_of_ble_eq_true rfl, Nat.le_of_ble_eq_true rfl⟩ rfl hmb rfl rfl (Nat.le_of_ble_eq_true rfl) dL_law_553 ⟨by show cells + 7 + 0 ≤ 600000; omega, by show slots + 7686 + 0 ≤ 7302250; omega⟩ (fun rv n3 σ3 hp => ?_)
    obtain ⟨rfl, rfl, hM3, hfr3⟩ := hp
    have hW3 := hW2.fr (Nat.le_refl _) hfr3
    refine V.eq (σ2 := σ3) (st2 := [.int ans, .int ans]) rfl rfl rfl rfl ?_
    refine r_icmp_eq (tgt := 745) C dL_law_556 (by decide) (fun _ => ?_) (fun z => absurd rfl z)
    exact k1 _ _ _ hZ2 hW3 hM3
  · refine r_aload_n C dL_law_538 rfl 1 rfl ?_
    refine r_aload_n C dL_law_539 rfl 0 rfl ?_
    refine r_iload_n C dL_law_540 rfl 3 rfl ?_
    refine r_iconst (v := nI 1) C dL_law_541 (by decide) ?_
    refine r_iaddN C dL_law_542 ?_
    refine r_sld C hX hbl hG (i := 4 * i + 1) (by omega) (by omega) dL_law_543 ?_
    refine r_callV (As := [.int (xs (4 * i + 1))]) C hx wM_L_64 wI_X6_bestTurn wN_X6 wC_X6_bestTurn wV_X6_bestTurn hd_X6_bestTurn ⟨Nat.le_of_ble_eq_true rfl, Nat.le_of_ble_eq_true rfl⟩ rfl hob rfl rfl (Nat.le_of_ble_eq_true rfl) dL_law_544 ⟨by show cells + 7 ≤ 600000; omega, by show slots + 31935 ≤ 7302250; omega⟩ (fun rv n2 σ2 hp => ?_)
    obtain ⟨rfl, hn2, hW2, hfr⟩ := hp
    have hM2 := hM.fr hfr
    obtain ⟨fm, hmb⟩ := hM2.obj
    refine V.eq (σ2 := σ2) (n2 := n2) (st2 := [.int ans]) rfl rfl rfl rfl ?_
    refine r_aload_n C dL_law_547 rfl 2 rfl ?_
    refine r_aload_n C dL_law_548 rfl 0 rfl ?_
    refine r_iload_n C dL_law_549 rfl 3 rfl ?_
    refine r_iconst (v := nI 1) C dL_law_550 (by decide) ?_
    refine r_iaddN C dL_law_551 ?_
    refine r_sld C hX hbl hG (i := 4 * i + 1) (by omega) (by omega) dL_law_552 ?_
    refine r_callV (As := [.int (xs (4 * i + 1))]) C (hm n2 σ2 hM2) wM_L_67 wI_X7_bestTurn wN_X7 wC_X7_bestTurn wV_X7_bestTurn hd_X7_bestTurn ⟨Nat.le_of_ble_eq_true rfl, Nat.le_of_ble_eq_true rfl⟩ rfl hmb rfl rfl (Nat.le_of_ble_eq_true rfl) dL_law_553 ⟨by show cells + 7 + 0 ≤ 600000; omega, by show slots + 31935 + 0 ≤ 7302250; omega⟩ (fun rv n3 σ3 hp => ?_)
    obtain ⟨rfl, rfl, hM3, hfr3⟩ := hp
    have hW3 := hW2.fr (Nat.le_refl _) hfr3
    refine V.eq (σ2 := σ3) (st2 := [.int ans, .int ans]) rfl rfl rfl rfl ?_
    refine r_icmp_eq (tgt := 745) C dL_law_556 (by decide) (fun _ => ?_) (fun z => absurd rfl z)
    exact k2 _ _ _ hmi hZ2 hW3 hM3
set_option maxHeartbeats 4000000 in
theorem law_ranked {p : Program} {l : Launch} {e : Env} {s : State} {m : MethodId} {below : List Frame} {meth : Method} {c : Code} {G : gG} {Q : State → Prop} {b b0 L i n mi cells slots : Nat} {σ : gS} {xs : Nat → Int32} {Z : ZT} (C : Cx p s m #[Value.ref b] c code 4 RL G) (hX : va_X b L xs s s.heap) (hbl : b < s.heap.size) (hG : G.2.2 = s.heap.size) (hL : L ≤ 2048) (hi : 4 * i + 4 ≤ L) (hZ : ZOK Z) (hW : WX G b0 n σ Z mi) (hM : WM G b0 σ Z) (hc : cells ≤ 590000) (hs : slots ≤ 7200000) (k1 : ∀ n2 σ2 Z2, ZOK Z2 → WX G b0 n2 σ2 Z2 mi → WM G b0 σ2 Z2 → V p l e room_1 s m #[Value.ref b] below meth c G 4 Q (cells + 7) (slots + 7686) n2 σ2 745 [(0, .ref b), (1, .ref b0), (2, .ref (b0 + 44)), (3, .int (nI (4 * i)))] []) (k2 : ∀ n2 σ2 Z2, 1 ≤ mi → ZOK Z2 → WX G b0 n2 σ2 Z2 (mi - 1) → WM G b0 σ2 Z2 → V p l e room_1 s m #[Value.ref b] below meth c G 4 Q (cells + 7) (slots + 31935) n2 σ2 745 [(0, .ref b), (1, .ref b0), (2, .ref (b0 + 44)), (3, .int (nI (4 * i)))] []) : V p l e room_1 s m #[Value.ref b] below meth c G 4 Q cells slots n σ 561 [(0, .ref b), (1, .ref b0), (2, .ref (b0 + 44)), (3, .int (nI (4 * i)))] [] := by
  obtain ⟨ans, Z2, hZ2, hx, hm⟩ := op_ranked (l := l) (G := G) (b0 := b0) hZ (xs (4 * i + 1)) (xs (4 * i + 2)) (xs (4 * i + 3))
  obtain ⟨fo, hob⟩ := hW.obj
  rcases hx n σ mi hW with hx | ⟨hmi, hx⟩
  · refine r_aload_n C dL_law_561 rfl 1 rfl ?_
    refine r_aload_n C dL_law_562 rfl 0 rfl ?_
    refine r_iload_n C dL_law_563 rfl 3 rfl ?_
    refine r_iconst (v := nI 1) C dL_law_564 (by decide) ?_
    refine r_iaddN C dL_law_565 ?_
    refine r_sld C hX hbl hG (i := 4 * i + 1) (by omega) (by omega) dL_law_566 ?_
    refine r_aload_n C dL_law_567 rfl 0 rfl ?_
    refine r_iload_n C dL_law_568 rfl 3 rfl ?_
    refine r_iconst (v := nI 2) C dL_law_569 (by decide) ?_
    refine r_iaddN C dL_law_570 ?_
    refine r_sld C hX hbl hG (i := 4 * i + 2) (by omega) (by omega) dL_law_571 ?_
    refine r_aload_n C dL_law_572 rfl 0 rfl ?_
    refine r_iload_n C dL_law_573 rfl 3 rfl ?_
    refine r_iconst (v := nI 3) C dL_law_574 (by decide) ?_
    refine r_iaddN C dL_law_575 ?_
    refine r_sld C hX hbl hG (i := 4 * i + 3) (by omega) (by omega) dL_law_576 ?_
    refine r_callV (As := [.int (xs (4 * i + 1)), .int (xs (4 * i + 2)), .int (xs (4 * i + 3))]) C hx wM_L_68 wI_X6_ranked wN_X6 wC_X6_ranked wV_X6_ranked hd_X6_ranked ⟨Nat.le_of_ble_eq_true rfl, Nat.le_of_ble_eq_true rfl⟩ rfl hob rfl rfl (Nat.le_of_ble_eq_true rfl) dL_law_577 ⟨by show cells + 7 ≤ 600000; omega, by show slots + 7686 ≤ 7302250; omega⟩ (fun rv n2 σ2 hp => ?_)
    obtain ⟨rfl, hn2, hW2, hfr⟩ := hp
    have hM2 := hM.fr hfr
    obtain ⟨fm, hmb⟩ := hM2.obj
    refine V.eq (σ2 := σ2) (n2 := n2) (st2 := [.int ans]) rfl rfl rfl rfl ?_
    refine r_aload_n C dL_law_580 rfl 2 rfl ?_
    refine r_aload_n C dL_law_581 rfl 0 rfl ?_
    refine r_iload_n C dL_law_582 rfl 3 rfl ?_
    refine r_iconst (v := nI 1) C dL_law_583 (by decide) ?_
    refine r_iaddN C dL_law_584 ?_
    refine r_sld C hX hbl hG (i := 4 * i + 1) (by omega) (by omega) dL_law_585 ?_
    refine r_aload_n C dL_law_586 rfl 0 rfl ?_
    refine r_iload_n C dL_law_587 rfl 3 rfl ?_
    refine r_iconst (v := nI 2) C dL_law_588 (by decide) ?_
    refine r_iaddN C dL_law_589 ?_
    refine r_sld C hX hbl hG (i := 4 * i + 2) (by omega) (by omega) dL_law_590 ?_
    refine r_aload_n C dL_law_591 rfl 0 rfl ?_
    refine r_iload_n C dL_law_592 rfl 3 rfl ?_
    refine r_iconst (v := nI 3) C dL_law_593 (by decide) ?_
    refine r_iaddN C dL_law_594 ?_
    refine r_sld C hX hbl hG (i := 4 * i + 3) (by omega) (by omega) dL_law_595 ?_
    refine r_callV (As := [.int (xs (4 * i + 1)), .int (xs (4 * i + 2)), .int (xs (4 * i + 3))]) C (hm n2 σ2 hM2) wM_L_71 wI_X7_ranked wN_X7 wC_X7_ranked wV_X7_ranked hd_X7_ranked ⟨Nat.le_of_ble_eq_true rfl, Nat.le_of_ble_eq_true rfl⟩ rfl hmb rfl rfl (Nat.le_of_ble_eq_true rfl) dL_law_596 ⟨by show cells + 7 + 0 ≤ 600000; omega, by show slots + 7686 + 0 ≤ 7302250; omega⟩ (fun rv n3 σ3 hp => ?_)
    obtain ⟨rfl, rfl, hM3, hfr3⟩ := hp
    have hW3 := hW2.fr (Nat.le_refl _) hfr3
    refine V.eq (σ2 := σ3) (st2 := [.int ans, .int ans]) rfl rfl rfl rfl ?_
    refine r_icmp_eq (tgt := 745) C dL_law_599 (by decide) (fun _ => ?_) (fun z => absurd rfl z)
    exact k1 _ _ _ hZ2 hW3 hM3
  · refine r_aload_n C dL_law_561 rfl 1 rfl ?_
    refine r_aload_n C dL_law_562 rfl 0 rfl ?_
    refine r_iload_n C dL_law_563 rfl 3 rfl ?_
    refine r_iconst (v := nI 1) C dL_law_564 (by decide) ?_
    refine r_iaddN C dL_law_565 ?_
    refine r_sld C hX hbl hG (i := 4 * i + 1) (by omega) (by omega) dL_law_566 ?_
    refine r_aload_n C dL_law_567 rfl 0 rfl ?_
    refine r_iload_n C dL_law_568 rfl 3 rfl ?_
    refine r_iconst (v := nI 2) C dL_law_569 (by decide) ?_
    refine r_iaddN C dL_law_570 ?_
    refine r_sld C hX hbl hG (i := 4 * i + 2) (by omega) (by omega) dL_law_571 ?_
    refine r_aload_n C dL_law_572 rfl 0 rfl ?_
    refine r_iload_n C dL_law_573 rfl 3 rfl ?_
    refine r_iconst (v := nI 3) C dL_law_574 (by decide) ?_
    refine r_iaddN C dL_law_575 ?_
    refine r_sld C hX hbl hG (i := 4 * i + 3) (by omega) (by omega) dL_law_576 ?_
    refine r_callV (As := [.int (xs (4 * i + 1)), .int (xs (4 * i + 2)), .int (xs (4 * i + 3))]) C hx wM_L_68 wI_X6_ranked wN_X6 wC_X6_ranked wV_X6_ranked hd_X6_ranked ⟨Nat.le_of_ble_eq_true rfl, Nat.le_of_ble_eq_true rfl⟩ rfl hob rfl rfl (Nat.le_of_ble_eq_true rfl) dL_law_577 ⟨by show cells + 7 ≤ 600000; omega, by show slots + 31935 ≤ 7302250; omega⟩ (fun rv n2 σ2 hp => ?_)
    obtain ⟨rfl, hn2, hW2, hfr⟩ := hp
    have hM2 := hM.fr hfr
    obtain ⟨fm, hmb⟩ := hM2.obj
    refine V.eq (σ2 := σ2) (n2 := n2) (st2 := [.int ans]) rfl rfl rfl rfl ?_
    refine r_aload_n C dL_law_580 rfl 2 rfl ?_
    refine r_aload_n C dL_law_581 rfl 0 rfl ?_
    refine r_iload_n C dL_law_582 rfl 3 rfl ?_
    refine r_iconst (v := nI 1) C dL_law_583 (by decide) ?_
    refine r_iaddN C dL_law_584 ?_
    refine r_sld C hX hbl hG (i := 4 * i + 1) (by omega) (by omega) dL_law_585 ?_
    refine r_aload_n C dL_law_586 rfl 0 rfl ?_
    refine r_iload_n C dL_law_587 rfl 3 rfl ?_
    refine r_iconst (v := nI 2) C dL_law_588 (by decide) ?_
    refine r_iaddN C dL_law_589 ?_
    refine r_sld C hX hbl hG (i := 4 * i + 2) (by omega) (by omega) dL_law_590 ?_
    refine r_aload_n C dL_law_591 rfl 0 rfl ?_
    refine r_iload_n C dL_law_592 rfl 3 rfl ?_
    refine r_iconst (v := nI 3) C dL_law_593 (by decide) ?_
    refine r_iaddN C dL_law_594 ?_
    refine r_sld C hX hbl hG (i := 4 * i + 3) (by omega) (by omega) dL_law_595 ?_
    refine r_callV (As := [.int (xs (4 * i + 1)), .int (xs (4 * i + 2)), .int (xs (4 * i + 3))]) C (hm n2 σ2 hM2) wM_L_71 wI_X7_ranked wN_X7 wC_X7_ranked wV_X7_ranked hd_X7_ranked ⟨Nat.le_of_ble_eq_true rfl, Nat.le_of_ble_eq_true rfl⟩ rfl hmb rfl rfl (Nat.le_of_ble_eq_true rfl) dL_law_596 ⟨by show cells + 7 + 0 ≤ 600000; omega, by show slots + 31935 + 0 ≤ 7302250; omega⟩ (fun rv n3 σ3 hp => ?_)
    obtain ⟨rfl, rfl, hM3, hfr3⟩ := hp
    have hW3 := hW2.fr (Nat.le_refl _) hfr3
    refine V.eq (σ2 := σ3) (st2 := [.int ans, .int ans]) rfl rfl rfl rfl ?_
    refine r_icmp_eq (tgt := 745) C dL_law_599 (by decide) (fun _ => ?_) (fun z => absurd rfl z)
    exact k2 _ _ _ hmi hZ2 hW3 hM3
set_option maxHeartbeats 4000000 in
theorem law_ofDistance {p : Program} {l : Launch} {e : Env} {s : State} {m : MethodId} {below : List Frame} {meth : Method} {c : Code} {G : gG} {Q : State → Prop} {b b0 L i n mi cells slots : Nat} {σ : gS} {xs : Nat → Int32} {Z : ZT} (C : Cx p s m #[Value.ref b] c code 4 RL G) (hX : va_X b L xs s s.heap) (hbl : b < s.heap.size) (hG : G.2.2 = s.heap.size) (hL : L ≤ 2048) (hi : 4 * i + 4 ≤ L) (hZ : ZOK Z) (hW : WX G b0 n σ Z mi) (hM : WM G b0 σ Z) (hc : cells ≤ 590000) (hs : slots ≤ 7200000) (k1 : ∀ n2 σ2 Z2, ZOK Z2 → WX G b0 n2 σ2 Z2 mi → WM G b0 σ2 Z2 → V p l e room_1 s m #[Value.ref b] below meth c G 4 Q (cells + 7) (slots + 7686) n2 σ2 745 [(0, .ref b), (1, .ref b0), (2, .ref (b0 + 44)), (3, .int (nI (4 * i)))] []) (k2 : ∀ n2 σ2 Z2, 1 ≤ mi → ZOK Z2 → WX G b0 n2 σ2 Z2 (mi - 1) → WM G b0 σ2 Z2 → V p l e room_1 s m #[Value.ref b] below meth c G 4 Q (cells + 7) (slots + 31935) n2 σ2 745 [(0, .ref b), (1, .ref b0), (2, .ref (b0 + 44)), (3, .int (nI (4 * i)))] []) : V p l e room_1 s m #[Value.ref b] below meth c G 4 Q cells slots n σ 604 [(0, .ref b), (1, .ref b0), (2, .ref (b0 + 44)), (3, .int (nI (4 * i)))] [] := by
  obtain ⟨ans, Z2, hZ2, hx, hm⟩ := op_ofDistance (l := l) (G := G) (b0 := b0) hZ (xs (4 * i + 1)) (xs (4 * i + 2))
  obtain ⟨fo, hob⟩ := hW.obj
  rcases hx n σ mi hW with hx | ⟨hmi, hx⟩
  · refine r_aload_n C dL_law_604 rfl 1 rfl ?_
    refine r_aload_n C dL_law_605 rfl 0 rfl ?_
    refine r_iload_n C dL_law_606 rfl 3 rfl ?_
    refine r_iconst (v := nI 1) C dL_law_607 (by decide) ?_
    refine r_iaddN C dL_law_608 ?_
    refine r_sld C hX hbl hG (i := 4 * i + 1) (by omega) (by omega) dL_law_609 ?_
    refine r_aload_n C dL_law_610 rfl 0 rfl ?_
    refine r_iload_n C dL_law_611 rfl 3 rfl ?_
    refine r_iconst (v := nI 2) C dL_law_612 (by decide) ?_
    refine r_iaddN C dL_law_613 ?_
    refine r_sld C hX hbl hG (i := 4 * i + 2) (by omega) (by omega) dL_law_614 ?_
    refine r_callV (As := [.int (xs (4 * i + 1)), .int (xs (4 * i + 2))]) C hx wM_L_72 wI_X6_ofDistance wN_X6 wC_X6_ofDistance wV_X6_ofDistance hd_X6_ofDistance ⟨Nat.le_of_ble_eq_true rfl, Nat.le_of_ble_eq_true rfl⟩ rfl hob rfl rfl (Nat.le_of_ble_eq_true rfl) dL_law_615 ⟨by show cells + 7 ≤ 600000; omega, by show slots + 7686 ≤ 7302250; omega⟩ (fun rv n2 σ2 hp => ?_)
    obtain ⟨rfl, hn2, hW2, hfr⟩ := hp
    have hM2 := hM.fr hfr
    obtain ⟨fm, hmb⟩ := hM2.obj
    refine V.eq (σ2 := σ2) (n2 := n2) (st2 := [.int ans]) rfl rfl rfl rfl ?_
    refine r_aload_n C dL_law_618 rfl 2 rfl ?_
    refine r_aload_n C dL_law_619 rfl 0 rfl ?_
    refine r_iload_n C dL_law_620 rfl 3 rfl ?_
    refine r_iconst (v := nI 1) C dL_law_621 (by decide) ?_
    refine r_iaddN C dL_law_622 ?_
    refine r_sld C hX hbl hG (i := 4 * i + 1) (by omega) (by omega) dL_law_623 ?_
    refine r_aload_n C dL_law_624 rfl 0 rfl ?_
    refine r_iload_n C dL_law_625 rfl 3 rfl ?_
    refine r_iconst (v := nI 2) C dL_law_626 (by decide) ?_
    refine r_iaddN C dL_law_627 ?_
    refine r_sld C hX hbl hG (i := 4 * i + 2) (by omega) (by omega) dL_law_628 ?_
    refine r_callV (As := [.int (xs (4 * i + 1)), .int (xs (4 * i + 2))]) C (hm n2 σ2 hM2) wM_L_75 wI_X7_ofDistance wN_X7 wC_X7_ofDistance wV_X7_ofDistance hd_X7_ofDistance ⟨Nat.le_of_ble_eq_true rfl, Nat.le_of_ble_eq_true rfl⟩ rfl hmb rfl rfl (Nat.le_of_ble_eq_true rfl) dL_law_629 ⟨by show cells + 7 + 0 ≤ 600000; omega, by show slots + 7686 + 0 ≤ 7302250; omega⟩ (fun rv n3 σ3 hp => ?_)
    obtain ⟨rfl, rfl, hM3, hfr3⟩ := hp
    have hW3 := hW2.fr (Nat.le_refl _) hfr3
    refine V.eq (σ2 := σ3) (st2 := [.int ans, .int ans]) rfl rfl rfl rfl ?_
    refine r_icmp_eq (tgt := 745) C dL_law_632 (by decide) (fun _ => ?_) (fun z => absurd rfl z)
    exact k1 _ _ _ hZ2 hW3 hM3
  · refine r_aload_n C dL_law_604 rfl 1 rfl ?_
    refine r_aload_n C dL_law_605 rfl 0 rfl ?_
    refine r_iload_n C dL_law_606 rfl 3 rfl ?_
    refine r_iconst (v := nI 1) C dL_law_607 (by decide) ?_
    refine r_iaddN C dL_law_608 ?_
    refine r_sld C hX hbl hG (i := 4 * i + 1) (by omega) (by omega) dL_law_609 ?_
    refine r_aload_n C dL_law_610 rfl 0 rfl ?_
    refine r_iload_n C dL_law_611 rfl 3 rfl ?_
    refine r_iconst (v := nI 2) C dL_law_612 (by decide) ?_
    refine r_iaddN C dL_law_613 ?_
    refine r_sld C hX hbl hG (i := 4 * i + 2) (by omega) (by omega) dL_law_614 ?_
    refine r_callV (As := [.int (xs (4 * i + 1)), .int (xs (4 * i + 2))]) C hx wM_L_72 wI_X6_ofDistance wN_X6 wC_X6_ofDistance wV_X6_ofDistance hd_X6_ofDistance ⟨Nat.le_of_ble_eq_true rfl, Nat.le_of_ble_eq_true rfl⟩ rfl hob rfl rfl (Nat.le_of_ble_eq_true rfl) dL_law_615 ⟨by show cells + 7 ≤ 600000; omega, by show slots + 31935 ≤ 7302250; omega⟩ (fun rv n2 σ2 hp => ?_)
    obtain ⟨rfl, hn2, hW2, hfr⟩ := hp
    have hM2 := hM.fr hfr
    obtain ⟨fm, hmb⟩ := hM2.obj
    refine V.eq (σ2 := σ2) (n2 := n2) (st2 := [.int ans]) rfl rfl rfl rfl ?_
    refine r_aload_n C dL_law_618 rfl 2 rfl ?_
    refine r_aload_n C dL_law_619 rfl 0 rfl ?_
    refine r_iload_n C dL_law_620 rfl 3 rfl ?_
    refine r_iconst (v := nI 1) C dL_law_621 (by decide) ?_
    refine r_iaddN C dL_law_622 ?_
    refine r_sld C hX hbl hG (i := 4 * i + 1) (by omega) (by omega) dL_law_623 ?_
    refine r_aload_n C dL_law_624 rfl 0 rfl ?_
    refine r_iload_n C dL_law_625 rfl 3 rfl ?_
    refine r_iconst (v := nI 2) C dL_law_626 (by decide) ?_
    refine r_iaddN C dL_law_627 ?_
    refine r_sld C hX hbl hG (i := 4 * i + 2) (by omega) (by omega) dL_law_628 ?_
    refine r_callV (As := [.int (xs (4 * i + 1)), .int (xs (4 * i + 2))]) C (hm n2 σ2 hM2) wM_L_75 wI_X7_ofDistance wN_X7 wC_X7_ofDistance wV_X7_ofDistance hd_X7_ofDistance ⟨Nat.le_of_ble_eq_true rfl, Nat.le_of_ble_eq_true rfl⟩ rfl hmb rfl rfl (Nat.le_of_ble_eq_true rfl) dL_law_629 ⟨by show cells + 7 + 0 ≤ 600000; omega, by show slots + 31935 + 0 ≤ 7302250; omega⟩ (fun rv n3 σ3 hp => ?_)
    obtain ⟨rfl, rfl, hM3, hfr3⟩ := hp
    have hW3 := hW2.fr (Nat.le_refl _) hfr3
    refine V.eq (σ2 := σ3) (st2 := [.int ans, .int ans]) rfl rfl rfl rfl ?_
    refine r_icmp_eq (tgt := 745) C dL_law_632 (by decide) (fun _ => ?_) (fun z => absurd rfl z)
    exact k2 _ _ _ hmi hZ2 hW3 hM3
set_option maxHeartbeats 4000000 in
theorem law_count {p : Program} {l : Launch} {e : Env} {s : State} {m : MethodId} {below : List Frame} {meth : Method} {c : Code} {G : gG} {Q : State → Prop} {b b0 L i n mi cells slots : Nat} {σ : gS} {xs : Nat → Int32} {Z : ZT} (C : Cx p s m #[Value.ref b] c code 4 RL G) (hX : va_X b L xs s s.heap) (hbl : b < s.heap.size) (hG : G.2.2 = s.heap.size) (hL : L ≤ 2048) (hi : 4 * i + 4 ≤ L) (hZ : ZOK Z) (hW : WX G b0 n σ Z mi) (hM : WM G b0 σ Z) (hc : cells ≤ 590000) (hs : slots ≤ 7200000) (k1 : ∀ n2 σ2 Z2, ZOK Z2 → WX G b0 n2 σ2 Z2 mi → WM G b0 σ2 Z2 → V p l e room_1 s m #[Value.ref b] below meth c G 4 Q (cells + 7) (slots + 7686) n2 σ2 745 [(0, .ref b), (1, .ref b0), (2, .ref (b0 + 44)), (3, .int (nI (4 * i)))] []) (k2 : ∀ n2 σ2 Z2, 1 ≤ mi → ZOK Z2 → WX G b0 n2 σ2 Z2 (mi - 1) → WM G b0 σ2 Z2 → V p l e room_1 s m #[Value.ref b] below meth c G 4 Q (cells + 7) (slots + 31935) n2 σ2 745 [(0, .ref b), (1, .ref b0), (2, .ref (b0 + 44)), (3, .int (nI (4 * i)))] []) : V p l e room_1 s m #[Value.ref b] below meth c G 4 Q cells slots n σ 637 [(0, .ref b), (1, .ref b0), (2, .ref (b0 + 44)), (3, .int (nI (4 * i)))] [] := by
  obtain ⟨ans, Z2, hZ2, hx, hm⟩ := op_count (l := l) (G := G) (b0 := b0) hZ (xs (4 * i + 1))
  obtain ⟨fo, hob⟩ := hW.obj
  rcases hx n σ mi hW with hx | ⟨hmi, hx⟩
  · refine r_aload_n C dL_law_637 rfl 1 rfl ?_
    refine r_aload_n C dL_law_638 rfl 0 rfl ?_
    refine r_iload_n C dL_law_639 rfl 3 rfl ?_
    refine r_iconst (v := nI 1) C dL_law_640 (by decide) ?_
    refine r_iaddN C dL_law_641 ?_
    refine r_sld C hX hbl hG (i := 4 * i + 1) (by omega) (by omega) dL_law_642 ?_
    refine r_callV (As := [.int (xs (4 * i + 1))]) C hx wM_L_76 wI_X6_count wN_X6 wC_X6_count wV_X6_count hd_X6_count ⟨Nat.le_of_ble_eq_true rfl, Nat.le_of_ble_eq_true rfl⟩ rfl hob rfl rfl (Nat.le_of_ble_eq_true rfl) dL_law_643 ⟨by show cells + 7 ≤ 600000; omega, by show slots + 7686 ≤ 7302250; omega⟩ (fun rv n2 σ2 hp => ?_)
    obtain ⟨rfl, hn2, hW2, hfr⟩ := hp
    have hM2 := hM.fr hfr
    obtain ⟨fm, hmb⟩ := hM2.obj
    refine V.eq (σ2 := σ2) (n2 := n2) (st2 := [.int ans]) rfl rfl rfl rfl ?_
    refine r_aload_n C dL_law_646 rfl 2 rfl ?_
    refine r_aload_n C dL_law_647 rfl 0 rfl ?_
    refine r_iload_n C dL_law_648 rfl 3 rfl ?_
    refine r_iconst (v := nI 1) C dL_law_649 (by decide) ?_
    refine r_iaddN C dL_law_650 ?_
    refine r_sld C hX hbl hG (i := 4 * i + 1) (by omega) (by omega) dL_law_651 ?_
    refine r_callV (As := [.int (xs (4 * i + 1))]) C (hm n2 σ2 hM2) wM_L_79 wI_X7_count wN_X7 wC_X7_count wV_X7_count hd_X7_count ⟨Nat.le_of_ble_eq_true rfl, Nat.le_of_ble_eq_true rfl⟩ rfl hmb rfl rfl (Nat.le_of_ble_eq_true rfl) dL_law_652 ⟨by show cells + 7 + 0 ≤ 600000; omega, by show slots + 7686 + 0 ≤ 7302250; omega⟩ (fun rv n3 σ3 hp => ?_)
    obtain ⟨rfl, rfl, hM3, hfr3⟩ := hp
    have hW3 := hW2.fr (Nat.le_refl _) hfr3
    refine V.eq (σ2 := σ3) (st2 := [.int ans, .int ans]) rfl rfl rfl rfl ?_
    refine r_icmp_eq (tgt := 745) C dL_law_655 (by decide) (fun _ => ?_) (fun z => absurd rfl z)
    exact k1 _ _ _ hZ2 hW3 hM3
  · refine r_aload_n C dL_law_637 rfl 1 rfl ?_
    refine r_aload_n C dL_law_638 rfl 0 rfl ?_
    refine r_iload_n C dL_law_639 rfl 3 rfl ?_
    refine r_iconst (v := nI 1) C dL_law_640 (by decide) ?_
    refine r_iaddN C dL_law_641 ?_
    refine r_sld C hX hbl hG (i := 4 * i + 1) (by omega) (by omega) dL_law_642 ?_
    refine r_callV (As := [.int (xs (4 * i + 1))]) C hx wM_L_76 wI_X6_count wN_X6 wC_X6_count wV_X6_count hd_X6_count ⟨Nat.le_of_ble_eq_true rfl, Nat.le_of_ble_eq_true rfl⟩ rfl hob rfl rfl (Nat.le_of_ble_eq_true rfl) dL_law_643 ⟨by show cells + 7 ≤ 600000; omega, by show slots + 31935 ≤ 7302250; omega⟩ (fun rv n2 σ2 hp => ?_)
    obtain ⟨rfl, hn2, hW2, hfr⟩ := hp
    have hM2 := hM.fr hfr
    obtain ⟨fm, hmb⟩ := hM2.obj
    refine V.eq (σ2 := σ2) (n2 := n2) (st2 := [.int ans]) rfl rfl rfl rfl ?_
    refine r_aload_n C dL_law_646 rfl 2 rfl ?_
    refine r_aload_n C dL_law_647 rfl 0 rfl ?_
    refine r_iload_n C dL_law_648 rfl 3 rfl ?_
    refine r_iconst (v := nI 1) C dL_law_649 (by decide) ?_
    refine r_iaddN C dL_law_650 ?_
    refine r_sld C hX hbl hG (i := 4 * i + 1) (by omega) (by omega) dL_law_651 ?_
    refine r_callV (As := [.int (xs (4 * i + 1))]) C (hm n2 σ2 hM2) wM_L_79 wI_X7_count wN_X7 wC_X7_count wV_X7_count hd_X7_count ⟨Nat.le_of_ble_eq_true rfl, Nat.le_of_ble_eq_true rfl⟩ rfl hmb rfl rfl (Nat.le_of_ble_eq_true rfl) dL_law_652 ⟨by show cells + 7 + 0 ≤ 600000; omega, by show slots + 31935 + 0 ≤ 7302250; omega⟩ (fun rv n3 σ3 hp => ?_)
    obtain ⟨rfl, rfl, hM3, hfr3⟩ := hp
    have hW3 := hW2.fr (Nat.le_refl _) hfr3
    refine V.eq (σ2 := σ3) (st2 := [.int ans, .int ans]) rfl rfl rfl rfl ?_
    refine r_icmp_eq (tgt := 745) C dL_law_655 (by decide) (fun _ => ?_) (fun z => absurd rfl z)
    exact k2 _ _ _ hmi hZ2 hW3 hM3
set_option maxHeartbeats 4000000 in
theorem law_undo {p : Program} {l : Launch} {e : Env} {s : State} {m : MethodId} {below : List Frame} {meth : Method} {c : Code} {G : gG} {Q : State → Prop} {b b0 L i n mi cells slots : Nat} {σ : gS} {xs : Nat → Int32} {Z : ZT} (C : Cx p s m #[Value.ref b] c code 4 RL G) (hX : va_X b L xs s s.heap) (hbl : b < s.heap.size) (hG : G.2.2 = s.heap.size) (hL : L ≤ 2048) (hi : 4 * i + 4 ≤ L) (hZ : ZOK Z) (hW : WX G b0 n σ Z mi) (hM : WM G b0 σ Z) (hc : cells ≤ 590000) (hs : slots ≤ 7200000) (k1 : ∀ n2 σ2 Z2, ZOK Z2 → WX G b0 n2 σ2 Z2 mi → WM G b0 σ2 Z2 → V p l e room_1 s m #[Value.ref b] below meth c G 4 Q (cells + 7) (slots + 7686) n2 σ2 745 [(0, .ref b), (1, .ref b0), (2, .ref (b0 + 44)), (3, .int (nI (4 * i)))] []) (k2 : ∀ n2 σ2 Z2, 1 ≤ mi → ZOK Z2 → WX G b0 n2 σ2 Z2 (mi - 1) → WM G b0 σ2 Z2 → V p l e room_1 s m #[Value.ref b] below meth c G 4 Q (cells + 7) (slots + 31935) n2 σ2 745 [(0, .ref b), (1, .ref b0), (2, .ref (b0 + 44)), (3, .int (nI (4 * i)))] []) : V p l e room_1 s m #[Value.ref b] below meth c G 4 Q cells slots n σ 660 [(0, .ref b), (1, .ref b0), (2, .ref (b0 + 44)), (3, .int (nI (4 * i)))] [] := by
  obtain ⟨ans, Z2, hZ2, hx, hm⟩ := op_undo (l := l) (G := G) (b0 := b0) hZ
  obtain ⟨fo, hob⟩ := hW.obj
  rcases hx n σ mi hW with hx | ⟨hmi, hx⟩
  · refine r_aload_n C dL_law_660 rfl 1 rfl ?_
    refine r_callV (As := []) C hx wM_L_80 wI_X6_undo wN_X6 wC_X6_undo wV_X6_undo hd_X6_undo ⟨Nat.le_of_ble_eq_true rfl, Nat.le_of_ble_eq_true rfl⟩ rfl hob rfl rfl (Nat.le_of_ble_eq_true rfl) dL_law_661 ⟨by show cells + 7 ≤ 600000; omega, by show slots + 7686 ≤ 7302250; omega⟩ (fun rv n2 σ2 hp => ?_)
    obtain ⟨rfl, hn2, hW2, hfr⟩ := hp
    have hM2 := hM.fr hfr
    obtain ⟨fm, hmb⟩ := hM2.obj
    refine V.eq (σ2 := σ2) (n2 := n2) (st2 := [.int ans]) rfl rfl rfl rfl ?_
    refine r_aload_n C dL_law_664 rfl 2 rfl ?_
    refine r_callV (As := []) C (hm n2 σ2 hM2) wM_L_84 wI_X7_undo wN_X7 wC_X7_undo wV_X7_undo hd_X7_undo ⟨Nat.le_of_ble_eq_true rfl, Nat.le_of_ble_eq_true rfl⟩ rfl hmb rfl rfl (Nat.le_of_ble_eq_true rfl) dL_law_665 ⟨by show cells + 7 + 0 ≤ 600000; omega, by show slots + 7686 + 0 ≤ 7302250; omega⟩ (fun rv n3 σ3 hp => ?_)
    obtain ⟨rfl, rfl, hM3, hfr3⟩ := hp
    have hW3 := hW2.fr (Nat.le_refl _) hfr3
    refine V.eq (σ2 := σ3) (st2 := [.int ans, .int ans]) rfl rfl rfl rfl ?_
    refine r_icmp_eq (tgt := 745) C dL_law_668 (by decide) (fun _ => ?_) (fun z => absurd rfl z)
    exact k1 _ _ _ hZ2 hW3 hM3
  · refine r_aload_n C dL_law_660 rfl 1 rfl ?_
    refine r_callV (As := []) C hx wM_L_80 wI_X6_undo wN_X6 wC_X6_undo wV_X6_undo hd_X6_undo ⟨Nat.le_of_ble_eq_true rfl, Nat.le_of_ble_eq_true rfl⟩ rfl hob rfl rfl (Nat.le_of_ble_eq_true rfl) dL_law_661 ⟨by show cells + 7 ≤ 600000; omega, by show slots + 31935 ≤ 7302250; omega⟩ (fun rv n2 σ2 hp => ?_)
    obtain ⟨rfl, hn2, hW2, hfr⟩ := hp
    have hM2 := hM.fr hfr
    obtain ⟨fm, hmb⟩ := hM2.obj
    refine V.eq (σ2 := σ2) (n2 := n2) (st2 := [.int ans]) rfl rfl rfl rfl ?_
    refine r_aload_n C dL_law_664 rfl 2 rfl ?_
    refine r_callV (As := []) C (hm n2 σ2 hM2) wM_L_84 wI_X7_undo wN_X7 wC_X7_undo wV_X7_undo hd_X7_undo ⟨Nat.le_of_ble_eq_true rfl, Nat.le_of_ble_eq_true rfl⟩ rfl hmb rfl rfl (Nat.le_of_ble_eq_true rfl) dL_law_665 ⟨by show cells + 7 + 0 ≤ 600000; omega, by show slots + 31935 + 0 ≤ 7302250; omega⟩ (fun rv n3 σ3 hp => ?_)
    obtain ⟨rfl, rfl, hM3, hfr3⟩ := hp
    have hW3 := hW2.fr (Nat.le_refl _) hfr3
    refine V.eq (σ2 := σ3) (st2 := [.int ans, .int ans]) rfl rfl rfl rfl ?_
    refine r_icmp_eq (tgt := 745) C dL_law_668 (by decide) (fun _ => ?_) (fun z => absurd rfl z)
    exact k2 _ _ _ hmi hZ2 hW3 hM3
set_option maxHeartbeats 4000000 in
theorem law_type {p : Program} {l : Launch} {e : Env} {s : State} {m : MethodId} {below : List Frame} {meth : Method} {c : Code} {G : gG} {Q : State → Prop} {b b0 L i n mi cells slots : Nat} {σ : gS} {xs : Nat → Int32} {Z : ZT} (C : Cx p s m #[Value.ref b] c code 4 RL G) (hX : va_X b L xs s s.heap) (hbl : b < s.heap.size) (hG : G.2.2 = s.heap.size) (hL : L ≤ 2048) (hi : 4 * i + 4 ≤ L) (hZ : ZOK Z) (hW : WX G b0 n σ Z mi) (hM : WM G b0 σ Z) (hc : cells ≤ 590000) (hs : slots ≤ 7200000) (k1 : ∀ n2 σ2 Z2, ZOK Z2 → WX G b0 n2 σ2 Z2 mi → WM G b0 σ2 Z2 → V p l e room_1 s m #[Value.ref b] below meth c G 4 Q (cells + 7) (slots + 7686) n2 σ2 745 [(0, .ref b), (1, .ref b0), (2, .ref (b0 + 44)), (3, .int (nI (4 * i)))] []) (k2 : ∀ n2 σ2 Z2, 1 ≤ mi → ZOK Z2 → WX G b0 n2 σ2 Z2 (mi - 1) → WM G b0 σ2 Z2 → V p l e room_1 s m #[Value.ref b] below meth c G 4 Q (cells + 7) (slots + 31935) n2 σ2 745 [(0, .ref b), (1, .ref b0), (2, .ref (b0 + 44)), (3, .int (nI (4 * i)))] []) : V p l e room_1 s m #[Value.ref b] below meth c G 4 Q cells slots n σ 673 [(0, .ref b), (1, .ref b0), (2, .ref (b0 + 44)), (3, .int (nI (4 * i)))] [] := by
  obtain ⟨ans, Z2, hZ2, hx, hm⟩ := op_type (l := l) (G := G) (b0 := b0) hZ (xs (4 * i + 1))
  obtain ⟨fo, hob⟩ := hW.obj
  rcases hx n σ mi hW with hx | ⟨hmi, hx⟩
  · refine r_aload_n C dL_law_673 rfl 1 rfl ?_
    refine r_aload_n C dL_law_674 rfl 0 rfl ?_
    refine r_iload_n C dL_law_675 rfl 3 rfl ?_
    refine r_iconst (v := nI 1) C dL_law_676 (by decide) ?_
    refine r_iaddN C dL_law_677 ?_
    refine r_sld C hX hbl hG (i := 4 * i + 1) (by omega) (by omega) dL_law_678 ?_
    refine r_callV (As := [.int (xs (4 * i + 1))]) C hx wM_L_85 wI_X6_type wN_X6 wC_X6_type wV_X6_type hd_X6_type ⟨Nat.le_of_ble_eq_true rfl, Nat.le_of_ble_eq_true rfl⟩ rfl hob rfl rfl (Nat.le_of_ble_eq_true rfl) dL_law_679 ⟨by show cells + 7 ≤ 600000; omega, by show slots + 7686 ≤ 7302250; omega⟩ (fun rv n2 σ2 hp => ?_)
    obtain ⟨rfl, hn2, hW2, hfr⟩ := hp
    have hM2 := hM.fr hfr
    obtain ⟨fm, hmb⟩ := hM2.obj
    refine V.eq (σ2 := σ2) (n2 := n2) (st2 := [.int ans]) rfl rfl rfl rfl ?_
    refine r_aload_n C dL_law_682 rfl 2 rfl ?_
    refine r_aload_n C dL_law_683 rfl 0 rfl ?_
    refine r_iload_n C dL_law_684 rfl 3 rfl ?_
    refine r_iconst (v := nI 1) C dL_law_685 (by decide) ?_
    refine r_iaddN C dL_law_686 ?_
    refine r_sld C hX hbl hG (i := 4 * i + 1) (by omega) (by omega) dL_law_687 ?_
    refine r_callV (As := [.int (xs (4 * i + 1))]) C (hm n2 σ2 hM2) wM_L_88 wI_X7_type wN_X7 wC_X7_type wV_X7_type hd_X7_type ⟨Nat.le_of_ble_eq_true rfl, Nat.le_of_ble_eq_true rfl⟩ rfl hmb rfl rfl (Nat.le_of_ble_eq_true rfl) dL_law_688 ⟨by show cells + 7 + 0 ≤ 600000; omega, by show slots + 7686 + 0 ≤ 7302250; omega⟩ (fun rv n3 σ3 hp => ?_)
    obtain ⟨rfl, rfl, hM3, hfr3⟩ := hp
    have hW3 := hW2.fr (Nat.le_refl _) hfr3
    refine V.eq (σ2 := σ3) (st2 := [.int ans, .int ans]) rfl rfl rfl rfl ?_
    refine r_icmp_eq (tgt := 745) C dL_law_691 (by decide) (fun _ => ?_) (fun z => absurd rfl z)
    exact k1 _ _ _ hZ2 hW3 hM3
  · refine r_aload_n C dL_law_673 rfl 1 rfl ?_
    refine r_aload_n C dL_law_674 rfl 0 rfl ?_
    refine r_iload_n C dL_law_675 rfl 3 rfl ?_
    refine r_iconst (v := nI 1) C dL_law_676 (by decide) ?_
    refine r_iaddN C dL_law_677 ?_
    refine r_sld C hX hbl hG (i := 4 * i + 1) (by omega) (by omega) dL_law_678 ?_
    refine r_callV (As := [.int (xs (4 * i + 1))]) C hx wM_L_85 wI_X6_type wN_X6 wC_X6_type wV_X6_type hd_X6_type ⟨Nat.le_of_ble_eq_true rfl, Nat.le_of_ble_eq_true rfl⟩ rfl hob rfl rfl (Nat.le_of_ble_eq_true rfl) dL_law_679 ⟨by show cells + 7 ≤ 600000; omega, by show slots + 31935 ≤ 7302250; omega⟩ (fun rv n2 σ2 hp => ?_)
    obtain ⟨rfl, hn2, hW2, hfr⟩ := hp
    have hM2 := hM.fr hfr
    obtain ⟨fm, hmb⟩ := hM2.obj
    refine V.eq (σ2 := σ2) (n2 := n2) (st2 := [.int ans]) rfl rfl rfl rfl ?_
    refine r_aload_n C dL_law_682 rfl 2 rfl ?_
    refine r_aload_n C dL_law_683 rfl 0 rfl ?_
    refine r_iload_n C dL_law_684 rfl 3 rfl ?_
    refine r_iconst (v := nI 1) C dL_law_685 (by decide) ?_
    refine r_iaddN C dL_law_686 ?_
    refine r_sld C hX hbl hG (i := 4 * i + 1) (by omega) (by omega) dL_law_687 ?_
    refine r_callV (As := [.int (xs (4 * i + 1))]) C (hm n2 σ2 hM2) wM_L_88 wI_X7_type wN_X7 wC_X7_type wV_X7_type hd_X7_type ⟨Nat.le_of_ble_eq_true rfl, Nat.le_of_ble_eq_true rfl⟩ rfl hmb rfl rfl (Nat.le_of_ble_eq_true rfl) dL_law_688 ⟨by show cells + 7 + 0 ≤ 600000; omega, by show slots + 31935 + 0 ≤ 7302250; omega⟩ (fun rv n3 σ3 hp => ?_)
    obtain ⟨rfl, rfl, hM3, hfr3⟩ := hp
    have hW3 := hW2.fr (Nat.le_refl _) hfr3
    refine V.eq (σ2 := σ3) (st2 := [.int ans, .int ans]) rfl rfl rfl rfl ?_
    refine r_icmp_eq (tgt := 745) C dL_law_691 (by decide) (fun _ => ?_) (fun z => absurd rfl z)
    exact k2 _ _ _ hmi hZ2 hW3 hM3
set_option maxHeartbeats 4000000 in
theorem law_clearText {p : Program} {l : Launch} {e : Env} {s : State} {m : MethodId} {below : List Frame} {meth : Method} {c : Code} {G : gG} {Q : State → Prop} {b b0 L i n mi cells slots : Nat} {σ : gS} {xs : Nat → Int32} {Z : ZT} (C : Cx p s m #[Value.ref b] c code 4 RL G) (hX : va_X b L xs s s.heap) (hbl : b < s.heap.size) (hG : G.2.2 = s.heap.size) (hL : L ≤ 2048) (hi : 4 * i + 4 ≤ L) (hZ : ZOK Z) (hW : WX G b0 n σ Z mi) (hM : WM G b0 σ Z) (hc : cells ≤ 590000) (hs : slots ≤ 7200000) (k1 : ∀ n2 σ2 Z2, ZOK Z2 → WX G b0 n2 σ2 Z2 mi → WM G b0 σ2 Z2 → V p l e room_1 s m #[Value.ref b] below meth c G 4 Q (cells + 7) (slots + 7686) n2 σ2 745 [(0, .ref b), (1, .ref b0), (2, .ref (b0 + 44)), (3, .int (nI (4 * i)))] []) (k2 : ∀ n2 σ2 Z2, 1 ≤ mi → ZOK Z2 → WX G b0 n2 σ2 Z2 (mi - 1) → WM G b0 σ2 Z2 → V p l e room_1 s m #[Value.ref b] below meth c G 4 Q (cells + 7) (slots + 31935) n2 σ2 745 [(0, .ref b), (1, .ref b0), (2, .ref (b0 + 44)), (3, .int (nI (4 * i)))] []) : V p l e room_1 s m #[Value.ref b] below meth c G 4 Q cells slots n σ 696 [(0, .ref b), (1, .ref b0), (2, .ref (b0 + 44)), (3, .int (nI (4 * i)))] [] := by
  obtain ⟨ans, Z2, hZ2, hx, hm⟩ := op_clearText (l := l) (G := G) (b0 := b0) hZ
  obtain ⟨fo, hob⟩ := hW.obj
  rcases hx n σ mi hW with hx | ⟨hmi, hx⟩
  · refine r_aload_n C dL_law_696 rfl 1 rfl ?_
    refine r_callV (As := []) C hx wM_L_89 wI_X6_clearText wN_X6 wC_X6_clearText wV_X6_clearText hd_X6_clearText ⟨Nat.le_of_ble_eq_true rfl, Nat.le_of_ble_eq_true rfl⟩ rfl hob rfl rfl (Nat.le_of_ble_eq_true rfl) dL_law_697 ⟨by show cells + 7 ≤ 600000; omega, by show slots + 7686 ≤ 7302250; omega⟩ (fun rv n2 σ2 hp => ?_)
    obtain ⟨rfl, hn2, hW2, hfr⟩ := hp
    have hM2 := hM.fr hfr
    obtain ⟨fm, hmb⟩ := hM2.obj
    refine V.eq (σ2 := σ2) (n2 := n2) (st2 := [.int ans]) rfl rfl rfl rfl ?_
    refine r_aload_n C dL_law_700 rfl 2 rfl ?_
    refine r_callV (As := []) C (hm n2 σ2 hM2) wM_L_92 wI_X7_clearText wN_X7 wC_X7_clearText wV_X7_clearText hd_X7_clearText ⟨Nat.le_of_ble_eq_true rfl, Nat.le_of_ble_eq_true rfl⟩ rfl hmb rfl rfl (Nat.le_of_ble_eq_true rfl) dL_law_701 ⟨by show cells + 7 + 0 ≤ 600000; omega, by show slots + 7686 + 0 ≤ 7302250; omega⟩ (fun rv n3 σ3 hp => ?_)
    obtain ⟨rfl, rfl, hM3, hfr3⟩ := hp
    have hW3 := hW2.fr (Nat.le_refl _) hfr3
    refine V.eq (σ2 := σ3) (st2 := [.int ans, .int ans]) rfl rfl rfl rfl ?_
    refine r_icmp_eq (tgt := 745) C dL_law_704 (by decide) (fun _ => ?_) (fun z => absurd rfl z)
    exact k1 _ _ _ hZ2 hW3 hM3
  · refine r_aload_n C dL_law_696 rfl 1 rfl ?_
    refine r_callV (As := []) C hx wM_L_89 wI_X6_clearText wN_X6 wC_X6_clearText wV_X6_clearText hd_X6_clearText ⟨Nat.le_of_ble_eq_true rfl, Nat.le_of_ble_eq_true rfl⟩ rfl hob rfl rfl (Nat.le_of_ble_eq_true rfl) dL_law_697 ⟨by show cells + 7 ≤ 600000; omega, by show slots + 31935 ≤ 7302250; omega⟩ (fun rv n2 σ2 hp => ?_)
    obtain ⟨rfl, hn2, hW2, hfr⟩ := hp
    have hM2 := hM.fr hfr
    obtain ⟨fm, hmb⟩ := hM2.obj
    refine V.eq (σ2 := σ2) (n2 := n2) (st2 := [.int ans]) rfl rfl rfl rfl ?_
    refine r_aload_n C dL_law_700 rfl 2 rfl ?_
    refine r_callV (As := []) C (hm n2 σ2 hM2) wM_L_92 wI_X7_clearText wN_X7 wC_X7_clearText wV_X7_clearText hd_X7_clearText ⟨Nat.le_of_ble_eq_true rfl, Nat.le_of_ble_eq_true rfl⟩ rfl hmb rfl rfl (Nat.le_of_ble_eq_true rfl) dL_law_701 ⟨by show cells + 7 + 0 ≤ 600000; omega, by show slots + 31935 + 0 ≤ 7302250; omega⟩ (fun rv n3 σ3 hp => ?_)
    obtain ⟨rfl, rfl, hM3, hfr3⟩ := hp
    have hW3 := hW2.fr (Nat.le_refl _) hfr3
    refine V.eq (σ2 := σ3) (st2 := [.int ans, .int ans]) rfl rfl rfl rfl ?_
    refine r_icmp_eq (tgt := 745) C dL_law_704 (by decide) (fun _ => ?_) (fun z => absurd rfl z)
    exact k2 _ _ _ hmi hZ2 hW3 hM3
set_option maxHeartbeats 4000000 in
theorem law_fault {p : Program} {l : Launch} {e : Env} {s : State} {m : MethodId} {below : List Frame} {meth : Method} {c : Code} {G : gG} {Q : State → Prop} {b b0 L i n mi cells slots : Nat} {σ : gS} {xs : Nat → Int32} {Z : ZT} (C : Cx p s m #[Value.ref b] c code 4 RL G) (hX : va_X b L xs s s.heap) (hbl : b < s.heap.size) (hG : G.2.2 = s.heap.size) (hL : L ≤ 2048) (hi : 4 * i + 4 ≤ L) (hZ : ZOK Z) (hW : WX G b0 n σ Z mi) (hM : WM G b0 σ Z) (hc : cells ≤ 590000) (hs : slots ≤ 7200000) (k1 : ∀ n2 σ2 Z2, ZOK Z2 → WX G b0 n2 σ2 Z2 mi → WM G b0 σ2 Z2 → V p l e room_1 s m #[Value.ref b] below meth c G 4 Q (cells + 7) (slots + 7686) n2 σ2 745 [(0, .ref b), (1, .ref b0), (2, .ref (b0 + 44)), (3, .int (nI (4 * i)))] []) (k2 : ∀ n2 σ2 Z2, 1 ≤ mi → ZOK Z2 → WX G b0 n2 σ2 Z2 (mi - 1) → WM G b0 σ2 Z2 → V p l e room_1 s m #[Value.ref b] below meth c G 4 Q (cells + 7) (slots + 31935) n2 σ2 745 [(0, .ref b), (1, .ref b0), (2, .ref (b0 + 44)), (3, .int (nI (4 * i)))] []) : V p l e room_1 s m #[Value.ref b] below meth c G 4 Q cells slots n σ 709 [(0, .ref b), (1, .ref b0), (2, .ref (b0 + 44)), (3, .int (nI (4 * i)))] [] := by
  obtain ⟨ans, Z2, hZ2, hx, hm⟩ := op_fault (l := l) (G := G) (b0 := b0) hZ (xs (4 * i + 1))
  obtain ⟨fo, hob⟩ := hW.obj
  rcases hx n σ mi hW with hx | ⟨hmi, hx⟩
  · refine r_aload_n C dL_law_709 rfl 1 rfl ?_
    refine r_aload_n C dL_law_710 rfl 0 rfl ?_
    refine r_iload_n C dL_law_711 rfl 3 rfl ?_
    refine r_iconst (v := nI 1) C dL_law_712 (by decide) ?_
    refine r_iaddN C dL_law_713 ?_
    refine r_sld C hX hbl hG (i := 4 * i + 1) (by omega) (by omega) dL_law_714 ?_
    refine r_callV (As := [.int (xs (4 * i + 1))]) C hx wM_L_93 wI_X6_fault wN_X6 wC_X6_fault wV_X6_fault hd_X6_fault ⟨Nat.le_of_ble_eq_true rfl, Nat.le_of_ble_eq_true rfl⟩ rfl hob rfl rfl (Nat.le_of_ble_eq_true rfl) dL_law_715 ⟨by show cells + 7 ≤ 600000; omega, by show slots + 7686 ≤ 7302250; omega⟩ (fun rv n2 σ2 hp => ?_)
    obtain ⟨rfl, hn2, hW2, hfr⟩ := hp
    have hM2 := hM.fr hfr
    obtain ⟨fm, hmb⟩ := hM2.obj
    refine V.eq (σ2 := σ2) (n2 := n2) (st2 := [.int ans]) rfl rfl rfl rfl ?_
    refine r_aload_n C dL_law_718 rfl 2 rfl ?_
    refine r_aload_n C dL_law_719 rfl 0 rfl ?_
    refine r_iload_n C dL_law_720 rfl 3 rfl ?_
    refine r_iconst (v := nI 1) C dL_law_721 (by decide) ?_
    refine r_iaddN C dL_law_722 ?_
    refine r_sld C hX hbl hG (i := 4 * i + 1) (by omega) (by omega) dL_law_723 ?_
    refine r_callV (As := [.int (xs (4 * i + 1))]) C (hm n2 σ2 hM2) wM_L_96 wI_X7_fault wN_X7 wC_X7_fault wV_X7_fault hd_X7_fault ⟨Nat.le_of_ble_eq_true rfl, Nat.le_of_ble_eq_true rfl⟩ rfl hmb rfl rfl (Nat.le_of_ble_eq_true rfl) dL_law_724 ⟨by show cells + 7 + 0 ≤ 600000; omega, by show slots + 7686 + 0 ≤ 7302250; omega⟩ (fun rv n3 σ3 hp => ?_)
    obtain ⟨rfl, rfl, hM3, hfr3⟩ := hp
    have hW3 := hW2.fr (Nat.le_refl _) hfr3
    refine V.eq (σ2 := σ3) (st2 := [.int ans, .int ans]) rfl rfl rfl rfl ?_
    refine r_icmp_eq (tgt := 745) C dL_law_727 (by decide) (fun _ => ?_) (fun z => absurd rfl z)
    exact k1 _ _ _ hZ2 hW3 hM3
  · refine r_aload_n C dL_law_709 rfl 1 rfl ?_
    refine r_aload_n C dL_law_710 rfl 0 rfl ?_
    refine r_iload_n C dL_law_711 rfl 3 rfl ?_
    refine r_iconst (v := nI 1) C dL_law_712 (by decide) ?_
    refine r_iaddN C dL_law_713 ?_
    refine r_sld C hX hbl hG (i := 4 * i + 1) (by omega) (by omega) dL_law_714 ?_
    refine r_callV (As := [.int (xs (4 * i + 1))]) C hx wM_L_93 wI_X6_fault wN_X6 wC_X6_fault wV_X6_fault hd_X6_fault ⟨Nat.le_of_ble_eq_true rfl, Nat.le_of_ble_eq_true rfl⟩ rfl hob rfl rfl (Nat.le_of_ble_eq_true rfl) dL_law_715 ⟨by show cells + 7 ≤ 600000; omega, by show slots + 31935 ≤ 7302250; omega⟩ (fun rv n2 σ2 hp => ?_)
    obtain ⟨rfl, hn2, hW2, hfr⟩ := hp
    have hM2 := hM.fr hfr
    obtain ⟨fm, hmb⟩ := hM2.obj
    refine V.eq (σ2 := σ2) (n2 := n2) (st2 := [.int ans]) rfl rfl rfl rfl ?_
    refine r_aload_n C dL_law_718 rfl 2 rfl ?_
    refine r_aload_n C dL_law_719 rfl 0 rfl ?_
    refine r_iload_n C dL_law_720 rfl 3 rfl ?_
    refine r_iconst (v := nI 1) C dL_law_721 (by decide) ?_
    refine r_iaddN C dL_law_722 ?_
    refine r_sld C hX hbl hG (i := 4 * i + 1) (by omega) (by omega) dL_law_723 ?_
    refine r_callV (As := [.int (xs (4 * i + 1))]) C (hm n2 σ2 hM2) wM_L_96 wI_X7_fault wN_X7 wC_X7_fault wV_X7_fault hd_X7_fault ⟨Nat.le_of_ble_eq_true rfl, Nat.le_of_ble_eq_true rfl⟩ rfl hmb rfl rfl (Nat.le_of_ble_eq_true rfl) dL_law_724 ⟨by show cells + 7 + 0 ≤ 600000; omega, by show slots + 31935 + 0 ≤ 7302250; omega⟩ (fun rv n3 σ3 hp => ?_)
    obtain ⟨rfl, rfl, hM3, hfr3⟩ := hp
    have hW3 := hW2.fr (Nat.le_refl _) hfr3
    refine V.eq (σ2 := σ3) (st2 := [.int ans, .int ans]) rfl rfl rfl rfl ?_
    refine r_icmp_eq (tgt := 745) C dL_law_727 (by decide) (fun _ => ?_) (fun z => absurd rfl z)
    exact k2 _ _ _ hmi hZ2 hW3 hM3
set_option maxHeartbeats 4000000 in
theorem law_play {p : Program} {l : Launch} {e : Env} {s : State} {m : MethodId} {below : List Frame} {meth : Method} {c : Code} {G : gG} {Q : State → Prop} {b b0 L i n mi cells slots : Nat} {σ : gS} {xs : Nat → Int32} {Z : ZT} (C : Cx p s m #[Value.ref b] c code 4 RL G) (hX : va_X b L xs s s.heap) (hbl : b < s.heap.size) (hG : G.2.2 = s.heap.size) (hL : L ≤ 2048) (hi : 4 * i + 4 ≤ L) (hZ : ZOK Z) (hW : WX G b0 n σ Z mi) (hM : WM G b0 σ Z) (hc : cells ≤ 590000) (hs : slots ≤ 7200000) (k1 : ∀ n2 σ2 Z2, ZOK Z2 → WX G b0 n2 σ2 Z2 mi → WM G b0 σ2 Z2 → V p l e room_1 s m #[Value.ref b] below meth c G 4 Q (cells + 7) (slots + 7686) n2 σ2 745 [(0, .ref b), (1, .ref b0), (2, .ref (b0 + 44)), (3, .int (nI (4 * i)))] []) (k2 : ∀ n2 σ2 Z2, 1 ≤ mi → ZOK Z2 → WX G b0 n2 σ2 Z2 (mi - 1) → WM G b0 σ2 Z2 → V p l e room_1 s m #[Value.ref b] below meth c G 4 Q (cells + 7) (slots + 31935) n2 σ2 745 [(0, .ref b), (1, .ref b0), (2, .ref (b0 + 44)), (3, .int (nI (4 * i)))] []) : V p l e room_1 s m #[Value.ref b] below meth c G 4 Q cells slots n σ 732 [(0, .ref b), (1, .ref b0), (2, .ref (b0 + 44)), (3, .int (nI (4 * i)))] [] := by
  obtain ⟨ans, Z2, hZ2, hx, hm⟩ := op_play (l := l) (G := G) (b0 := b0) hZ
  obtain ⟨fo, hob⟩ := hW.obj
  rcases hx n σ mi hW with hx | ⟨hmi, hx⟩
  · refine r_aload_n C dL_law_732 rfl 1 rfl ?_
    refine r_callV (As := []) C hx wM_L_97 wI_X6_play wN_X6 wC_X6_play wV_X6_play hd_X6_play ⟨Nat.le_of_ble_eq_true rfl, Nat.le_of_ble_eq_true rfl⟩ rfl hob rfl rfl (Nat.le_of_ble_eq_true rfl) dL_law_733 ⟨by show cells + 7 ≤ 600000; omega, by show slots + 7686 ≤ 7302250; omega⟩ (fun rv n2 σ2 hp => ?_)
    obtain ⟨rfl, hn2, hW2, hfr⟩ := hp
    have hM2 := hM.fr hfr
    obtain ⟨fm, hmb⟩ := hM2.obj
    refine V.eq (σ2 := σ2) (n2 := n2) (st2 := [.int ans]) rfl rfl rfl rfl ?_
    refine r_aload_n C dL_law_736 rfl 2 rfl ?_
    refine r_callV (As := []) C (hm n2 σ2 hM2) wM_L_100 wI_X7_play wN_X7 wC_X7_play wV_X7_play hd_X7_play ⟨Nat.le_of_ble_eq_true rfl, Nat.le_of_ble_eq_true rfl⟩ rfl hmb rfl rfl (Nat.le_of_ble_eq_true rfl) dL_law_737 ⟨by show cells + 7 + 0 ≤ 600000; omega, by show slots + 7686 + 0 ≤ 7302250; omega⟩ (fun rv n3 σ3 hp => ?_)
    obtain ⟨rfl, rfl, hM3, hfr3⟩ := hp
    have hW3 := hW2.fr (Nat.le_refl _) hfr3
    refine V.eq (σ2 := σ3) (st2 := [.int ans, .int ans]) rfl rfl rfl rfl ?_
    refine r_icmp_eq (tgt := 745) C dL_law_740 (by decide) (fun _ => ?_) (fun z => absurd rfl z)
    exact k1 _ _ _ hZ2 hW3 hM3
  · refine r_aload_n C dL_law_732 rfl 1 rfl ?_
    refine r_callV (As := []) C hx wM_L_97 wI_X6_play wN_X6 wC_X6_play wV_X6_play hd_X6_play ⟨Nat.le_of_ble_eq_true rfl, Nat.le_of_ble_eq_true rfl⟩ rfl hob rfl rfl (Nat.le_of_ble_eq_true rfl) dL_law_733 ⟨by show cells + 7 ≤ 600000; omega, by show slots + 31935 ≤ 7302250; omega⟩ (fun rv n2 σ2 hp => ?_)
    obtain ⟨rfl, hn2, hW2, hfr⟩ := hp
    have hM2 := hM.fr hfr
    obtain ⟨fm, hmb⟩ := hM2.obj
    refine V.eq (σ2 := σ2) (n2 := n2) (st2 := [.int ans]) rfl rfl rfl rfl ?_
    refine r_aload_n C dL_law_736 rfl 2 rfl ?_
    refine r_callV (As := []) C (hm n2 σ2 hM2) wM_L_100 wI_X7_play wN_X7 wC_X7_play wV_X7_play hd_X7_play ⟨Nat.le_of_ble_eq_true rfl, Nat.le_of_ble_eq_true rfl⟩ rfl hmb rfl rfl (Nat.le_of_ble_eq_true rfl) dL_law_737 ⟨by show cells + 7 + 0 ≤ 600000; omega, by show slots + 31935 + 0 ≤ 7302250; omega⟩ (fun rv n3 σ3 hp => ?_)
    obtain ⟨rfl, rfl, hM3, hfr3⟩ := hp
    have hW3 := hW2.fr (Nat.le_refl _) hfr3
    refine V.eq (σ2 := σ3) (st2 := [.int ans, .int ans]) rfl rfl rfl rfl ?_
    refine r_icmp_eq (tgt := 745) C dL_law_740 (by decide) (fun _ => ?_) (fun z => absurd rfl z)
    exact k2 _ _ _ hmi hZ2 hW3 hM3
