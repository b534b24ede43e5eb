/-! the law's cases -/
def lw_w0 : Cond := Cond.initialized "VoxelmintLaw"
theorem lw_cmp (x : Int64) : lg_cmp x x = nI 0 := ((lg_cmp_eq x x).mpr rfl).trans nI_0.symm
set_option maxHeartbeats 4000000 in
set_option maxRecDepth 100000 in
theorem lw_case_0 {p : Program} {l : Launch} {e : Env} {s : State} {m : MethodId} {below : List Frame} {meth : Method} {c : Code} {b L : Nat} {xs : Nat → Int32} {D : va_G} (hst : l.stackTraces = false) (S9 : CallFix p m c cL_law 7 s #[Value.ref b] (lw_w0 :: mi_G) RL) (hX9 : va_X b L xs s s.heap) (hbl : b < s.heap.size) (hL : L ≤ 2048) (E : mi_E D (fun q => s.heap.size ≤ q) s) {S : sT} (hO : st_ok S) {q0 q1 q2 i cells slots : Nat} {H : Heap} {locs : List Loc} {ls : Array Slot} (hi : i + 4 ≤ L) (hI : lw_I D (fun q => s.heap.size ≤ q) S q0 q1 q2 H) (hS : va_S (fun q => s.heap.size ≤ q) s.heap H locs) (hl : lv_has ls 7 [(4, .int (nI i)), (0, .ref b), (1, .ref q0), (2, .ref q1), (3, .ref q2)]) (hcc : cells + 6 ≤ 601024) (hss : slots + 2019 ≤ 7293033) (K : ∀ (S1 : sT) (H : Heap) (locs : List Loc) (ls : Array Slot), st_ok S1 → lw_I D (fun q => s.heap.size ≤ q) S1 q0 q1 q2 H → va_S (fun q => s.heap.size ≤ q) s.heap H locs → lv_has ls 7 [(4, .int (nI i)), (0, .ref b), (1, .ref q0), (2, .ref q1), (3, .ref q2)] → W p l e room_1 s m #[Value.ref b] below meth c H locs (cells + 6) (slots + 2019) (lw_Z below #[Value.ref b] s) (F0 m 1433 ls [])) : W p l e room_1 s m #[Value.ref b] below meth c H locs cells slots (lw_Z below #[Value.ref b] s) (F0 m 152 ls []) := by
  obtain ⟨ad, cf, f, g, o, hW, hX, hR, hm, ho, ea, eb, ec⟩ := hI
  obtain ⟨k, a, S1, hk3, hO1, hC, hM⟩ := lw_o_set l D (fun q => s.heap.size ≤ q) hst (fun a b h1 h2 => Nat.le_trans h1 h2) hO hR (xs (i + 1)) (xs (i + 2)) (xs (i + 3))
  refine lv_aload_n S9.1 S9.2.1 dL_law_152 rfl (lv_at hl 2 rfl) ?_
  refine lv_aload_n S9.1 S9.2.1 dL_law_153 rfl (lv_at hl 1 rfl) ?_
  refine lv_iload S9.1 S9.2.1 dL_law_154 (lv_at hl 0 rfl) ?_
  refine lv_iconst (v := nI 1) S9.1 S9.2.1 dL_law_156 (by decide) ?_
  refine mi_iadd S9 dL_law_157 ?_
  refine lw_sld S9 hX9 hbl hS (by omega) hL dL_law_158 ?_
  refine lv_aload_n S9.1 S9.2.1 dL_law_159 rfl (lv_at hl 1 rfl) ?_
  refine lv_iload S9.1 S9.2.1 dL_law_160 (lv_at hl 0 rfl) ?_
  refine lv_iconst (v := nI 2) S9.1 S9.2.1 dL_law_162 (by decide) ?_
  refine mi_iadd S9 dL_law_163 ?_
  refine lw_sld S9 hX9 hbl hS (by omega) hL dL_law_164 ?_
  refine lv_aload_n S9.1 S9.2.1 dL_law_165 rfl (lv_at hl 1 rfl) ?_
  refine lv_iload S9.1 S9.2.1 dL_law_166 (lv_at hl 0 rfl) ?_
  refine lv_iconst (v := nI 3) S9.1 S9.2.1 dL_law_168 (by decide) ?_
  refine mi_iadd S9 dL_law_169 ?_
  refine lw_sld S9 hX9 hbl hS (by omega) hL dL_law_170 ?_
  refine lv_aload_n S9.1 S9.2.1 dL_law_171 rfl (lv_at hl 4 rfl) ?_
  have hH := c_Lset l D (fun q => s.heap.size ≤ q) hk3 ho hX.o0 hO1 (hC ad cf hX)
  rw [ea, ec] at hH
  refine mi_cMi (mi_runSH (P := mi_W D (fun q => s.heap.size ≤ q) ad cf) (As := [.ref q0, .int (xs (i + 1)), .int (xs (i + 2)), .int (xs (i + 3)), .ref q2]) (rest := []) S9 E hS hW hH mw_282 mw_280 mw_281 mw_32 ⟨by decide, by decide, by decide +kernel⟩ ⟨rfl, rfl, Nat.le_of_ble_eq_true rfl, Nat.le_of_ble_eq_true rfl⟩ (n := 5) rfl hl.1 rfl (Nat.le_of_ble_eq_true rfl) dL_law_172 ⟨by show cells + 6 ≤ 601024; omega, by show slots + 2019 ≤ 7293033; omega⟩) hS (fun r9 H locs hp9 hS hz8 => ?_)
  obtain ⟨e9, ad1, cf1, o1, hW, hX1, hf1, h15, h00, c15, hans⟩ := hp9
  refine mi_top (v' := .int (nI k)) (by rw [e9]) ?_
  refine lv_istore (lv' := [(5, .int (nI k)), (4, .int (nI i)), (0, .ref b), (1, .ref q0), (2, .ref q1), (3, .ref q2)]) S9.1 S9.2.1 dL_law_175 hl (by decide) rfl (fun ls hl => ?_)
  have hq0 : ad1 0 = q0 := h00.trans ea
  have hq1 : ad1 1000020 = q1 := ((hf1 1000020 (by omega) (by omega)).2).trans eb
  have hq2 : ad1 1500 = q2 := h15.trans ec
  have hMo : mo_W D (fun q => s.heap.size ≤ q) ad1 cf1 f g H := ⟨cf1, hW, mo_at_keep hm (fun r hr => hf1 r (by omega) (by omega)), fun r _ => rfl⟩
  obtain ⟨d9, hd9, hM9⟩ := hM ad1 cf1
  refine lv_aload_n S9.1 S9.2.1 dL_law_177 rfl (lv_at hl 4 rfl) ?_
  refine lv_aload_n S9.1 S9.2.1 dL_law_178 rfl (lv_at hl 2 rfl) ?_
  refine lv_iload S9.1 S9.2.1 dL_law_179 (lv_at hl 1 rfl) ?_
  refine lv_iconst (v := nI 1) S9.1 S9.2.1 dL_law_181 (by decide) ?_
  refine mi_iadd S9 dL_law_182 ?_
  refine lw_sld S9 hX9 hbl hS (by omega) hL dL_law_183 ?_
  refine lv_aload_n S9.1 S9.2.1 dL_law_184 rfl (lv_at hl 2 rfl) ?_
  refine lv_iload S9.1 S9.2.1 dL_law_185 (lv_at hl 1 rfl) ?_
  refine lv_iconst (v := nI 2) S9.1 S9.2.1 dL_law_187 (by decide) ?_
  refine mi_iadd S9 dL_law_188 ?_
  refine lw_sld S9 hX9 hbl hS (by omega) hL dL_law_189 ?_
  refine lv_aload_n S9.1 S9.2.1 dL_law_190 rfl (lv_at hl 2 rfl) ?_
  refine lv_iload S9.1 S9.2.1 dL_law_191 (lv_at hl 1 rfl) ?_
  refine lv_iconst (v := nI 3) S9.1 S9.2.1 dL_law_193 (by decide) ?_
  refine mi_iadd S9 dL_law_194 ?_
  refine lw_sld S9 hX9 hbl hS (by omega) hL dL_law_195 ?_
  have hr8 := hMo.recv E
  rw [hq1] at hM9 hr8
  refine mi_cMi (mi_runV (P := mo_W D (fun q => s.heap.size ≤ q) ad1 cf1 f g) (As := [.int (xs (i + 1)), .int (xs (i + 2)), .int (xs (i + 3))]) (rest := []) S9 E hS hMo q1 hM9 hr8 mw_730 mw_727 mw_728 mw_729 mw_43 ⟨by decide, by decide, by decide +kernel⟩ ⟨rfl, rfl, by show d9 + 1 ≤ 12; omega, by show 8 + (4 + 11) + 37 * d9 ≤ 452; omega⟩ (n := 3) rfl hl.1 rfl (Nat.le_of_ble_eq_true rfl) dL_law_196 ⟨by show cells + 6 + 0 ≤ 601024; omega, by show slots + 2019 + 0 ≤ 7293033; omega⟩) hS (fun r8 H locs hp8 hS hz7 => ?_)
  obtain ⟨hans8, f1, g1, hM1, hR1, hf0⟩ := hp8
  refine lv_istore (lv' := [(6, .int r8), (5, .int (nI k)), (4, .int (nI i)), (0, .ref b), (1, .ref q0), (2, .ref q1), (3, .ref q2)]) S9.1 S9.2.1 dL_law_199 hl (by decide) rfl (fun ls hl => ?_)
  refine lv_aload_n S9.1 S9.2.1 dL_law_201 rfl (lv_at hl 5 rfl) ?_
  have hT := c_mthrown l D (fun q => s.heap.size ≤ q) (cf0 := cf1) (ad := ad1) (g := g1) hf0
  have hr7 := hM1.recv E
  rw [hq1] at hT hr7
  refine mi_cR (mi_runV (P := mo_W D (fun q => s.heap.size ≤ q) ad1 cf1 f1 g1) (As := []) (rest := []) S9 E hS hM1 q1 hT hr7 mw_726 mw_723 mw_724 mw_725 mw_43 ⟨by decide, by decide, by decide +kernel⟩ ⟨rfl, rfl, Nat.le_of_ble_eq_true rfl, Nat.le_of_ble_eq_true rfl⟩ (n := 0) rfl hl.1 rfl (Nat.le_of_ble_eq_true rfl) dL_law_202 ⟨by show cells + 6 + 0 + 0 ≤ 601024; omega, by show slots + 2019 + 0 + 0 ≤ 7293033; omega⟩) (fun r7 e7 => ?_)
  refine mi_top (v' := .int (nI k)) (by rw [e7]) ?_
  refine lv_iload S9.1 S9.2.1 dL_law_205 (lv_at hl 1 rfl) ?_
  refine mi_icmp_eq (tgt := 212) S9 (by omega) (by omega) dL_law_207 (by decide) (fun _ => ?_) (fun z => absurd rfl z)
  obtain ⟨cf2, hW2, hm2, hs2⟩ := hM1
  refine lv_iload S9.1 S9.2.1 dL_law_212 (lv_at hl 1 rfl) ?_
  refine mi_if_ne (tgt := 229) S9 (by omega) dL_law_214 (by decide) (fun c1 => ?_) (fun c1 => ?_)
  · refine lv_goto (tgt := 1433) S9.1 S9.2.1 dL_law_229 (by decide) ?_
    exact K S1 H locs ls hO1 ⟨ad1, cf2, f1, g1, _, hW2, hX1.same hO1 (fun r hr => ⟨hs2 r (Or.inl (by omega)), rfl⟩), hR1, hm2, (hs2 1500 (Or.inl (by omega))).trans c15, hq0, hq1, hq2⟩ hS (lv_sub hl [2, 3, 4, 5, 6] rfl)
  · refine lv_aload_n S9.1 S9.2.1 dL_law_217 rfl (lv_at hl 6 rfl) ?_
    refine lv_iconst (v := nI 0) S9.1 S9.2.1 dL_law_218 (by decide) ?_
    refine mi_lald S9 E hW2 1500 hq2 ((hs2 1500 (Or.inl (by omega))).trans c15) (by omega) (by omega) dL_law_219 ?_
    refine mi_top (v' := .long a.toInt64) (by rw [hans c1]) ?_
    refine lv_iload S9.1 S9.2.1 dL_law_220 (lv_at hl 0 rfl) ?_
    refine mi_top (v' := .int a) (by rw [hans8 c1]) ?_
    refine lv_i2l (v := a.toInt64) S9.1 S9.2.1 dL_law_222 rfl ?_
    refine W.lcmp S9.1 S9.2.1 dL_law_223 ?_
    refine mi_top (v' := .int (nI 0)) (congrArg Value.int (lw_cmp a.toInt64)) ?_
    refine mi_if_eq (tgt := 229) S9 (a := 0) (by omega) dL_law_224 (by decide) (fun _ => ?_) (fun z => absurd rfl z)
    refine lv_goto (tgt := 1433) S9.1 S9.2.1 dL_law_229 (by decide) ?_
    exact K S1 H locs ls hO1 ⟨ad1, cf2, f1, g1, _, hW2, hX1.same hO1 (fun r hr => ⟨hs2 r (Or.inl (by omega)), rfl⟩), hR1, hm2, (hs2 1500 (Or.inl (by omega))).trans c15, hq0, hq1, hq2⟩ hS (lv_sub hl [2, 3, 4, 5, 6] rfl)
set_option maxHeartbeats 4000000 in
set_option maxRecDepth 100000 in
theorem lw_case_1 {p : Program} {l : Launch} {e : Env} {s : State} {m : MethodId} {below : List Frame} {meth : Method} {c : Code} {b L : Nat} {xs : Nat → Int32} {D : va_G} (hst : l.stackTraces = false) (S9 : CallFix p m c cL_law 7 s #[Value.ref b] (lw_w0 :: mi_G) RL) (hX9 : va_X b L xs s s.heap) (hbl : b < s.heap.size) (hL : L ≤ 2048) (E : mi_E D (fun q => s.heap.size ≤ q) s) {S : sT} (hO : st_ok S) {q0 q1 q2 i cells slots : Nat} {H : Heap} {locs : List Loc} {ls : Array Slot} (hi : i + 4 ≤ L) (hI : lw_I D (fun q => s.heap.size ≤ q) S q0 q1 q2 H) (hS : va_S (fun q => s.heap.size ≤ q) s.heap H locs) (hl : lv_has ls 7 [(4, .int (nI i)), (0, .ref b), (1, .ref q0), (2, .ref q1), (3, .ref q2)]) (hcc : cells + 6 ≤ 601024) (hss : slots + 2019 ≤ 7293033) (K : ∀ (S1 : sT) (H : Heap) (locs : List Loc) (ls : Array Slot), st_ok S1 → lw_I D (fun q => s.heap.size ≤ q) S1 q0 q1 q2 H → va_S (fun q => s.heap.size ≤ q) s.heap H locs → lv_has ls 7 [(4, .int (nI i)), (0, .ref b), (1, .ref q0), (2, .ref q1), (3, .ref q2)] → W p l e room_1 s m #[Value.ref b] below meth c H locs (cells + 6) (slots + 2019) (lw_Z below #[Value.ref b] s) (F0 m 1433 ls [])) : W p l e room_1 s m #[Value.ref b] below meth c H locs cells slots (lw_Z below #[Value.ref b] s) (F0 m 232 ls []) := by
  obtain ⟨ad, cf, f, g, o, hW, hX, hR, hm, ho, ea, eb, ec⟩ := hI
  obtain ⟨k, a, S1, hk3, hO1, hC, hM⟩ := lw_o_raise l D (fun q => s.heap.size ≤ q) hst (fun a b h1 h2 => Nat.le_trans h1 h2) hO hR (xs (i + 1)) (xs (i + 2)) (xs (i + 3))
  refine lv_aload_n S9.1 S9.2.1 dL_law_232 rfl (lv_at hl 2 rfl) ?_
  refine lv_aload_n S9.1 S9.2.1 dL_law_233 rfl (lv_at hl 1 rfl) ?_
  refine lv_iload S9.1 S9.2.1 dL_law_234 (lv_at hl 0 rfl) ?_
  refine lv_iconst (v := nI 1) S9.1 S9.2.1 dL_law_236 (by decide) ?_
  refine mi_iadd S9 dL_law_237 ?_
  refine lw_sld S9 hX9 hbl hS (by omega) hL dL_law_238 ?_
  refine lv_aload_n S9.1 S9.2.1 dL_law_239 rfl (lv_at hl 1 rfl) ?_
  refine lv_iload S9.1 S9.2.1 dL_law_240 (lv_at hl 0 rfl) ?_
  refine lv_iconst (v := nI 2) S9.1 S9.2.1 dL_law_242 (by decide) ?_
  refine mi_iadd S9 dL_law_243 ?_
  refine lw_sld S9 hX9 hbl hS (by omega) hL dL_law_244 ?_
  refine lv_aload_n S9.1 S9.2.1 dL_law_245 rfl (lv_at hl 1 rfl) ?_
  refine lv_iload S9.1 S9.2.1 dL_law_246 (lv_at hl 0 rfl) ?_
  refine lv_iconst (v := nI 3) S9.1 S9.2.1 dL_law_248 (by decide) ?_
  refine mi_iadd S9 dL_law_249 ?_
  refine lw_sld S9 hX9 hbl hS (by omega) hL dL_law_250 ?_
  refine lv_aload_n S9.1 S9.2.1 dL_law_251 rfl (lv_at hl 4 rfl) ?_
  have hH := c_Lraise l D (fun q => s.heap.size ≤ q) hk3 ho hX.o0 hO1 (hC ad cf hX)
  rw [ea, ec] at hH
  refine mi_cMi (mi_runSH (P := mi_W D (fun q => s.heap.size ≤ q) ad cf) (As := [.ref q0, .int (xs (i + 1)), .int (xs (i + 2)), .int (xs (i + 3)), .ref q2]) (rest := []) S9 E hS hW hH mw_423 mw_421 mw_422 mw_32 ⟨by decide, by decide, by decide +kernel⟩ ⟨rfl, rfl, Nat.le_of_ble_eq_true rfl, Nat.le_of_ble_eq_true rfl⟩ (n := 5) rfl hl.1 rfl (Nat.le_of_ble_eq_true rfl) dL_law_252 ⟨by show cells + 6 ≤ 601024; omega, by show slots + 2019 ≤ 7293033; omega⟩) hS (fun r9 H locs hp9 hS hz8 => ?_)
  obtain ⟨e9, ad1, cf1, o1, hW, hX1, hf1, h15, h00, c15, hans⟩ := hp9
  refine mi_top (v' := .int (nI k)) (by rw [e9]) ?_
  refine lv_istore (lv' := [(5, .int (nI k)), (4, .int (nI i)), (0, .ref b), (1, .ref q0), (2, .ref q1), (3, .ref q2)]) S9.1 S9.2.1 dL_law_255 hl (by decide) rfl (fun ls hl => ?_)
  have hq0 : ad1 0 = q0 := h00.trans ea
  have hq1 : ad1 1000020 = q1 := ((hf1 1000020 (by omega) (by omega)).2).trans eb
  have hq2 : ad1 1500 = q2 := h15.trans ec
  have hMo : mo_W D (fun q => s.heap.size ≤ q) ad1 cf1 f g H := ⟨cf1, hW, mo_at_keep hm (fun r hr => hf1 r (by omega) (by omega)), fun r _ => rfl⟩
  obtain ⟨d9, hd9, hM9⟩ := hM ad1 cf1
  refine lv_aload_n S9.1 S9.2.1 dL_law_257 rfl (lv_at hl 4 rfl) ?_
  refine lv_aload_n S9.1 S9.2.1 dL_law_258 rfl (lv_at hl 2 rfl) ?_
  refine lv_iload S9.1 S9.2.1 dL_law_259 (lv_at hl 1 rfl) ?_
  refine lv_iconst (v := nI 1) S9.1 S9.2.1 dL_law_261 (by decide) ?_
  refine mi_iadd S9 dL_law_262 ?_
  refine lw_sld S9 hX9 hbl hS (by omega) hL dL_law_263 ?_
  refine lv_aload_n S9.1 S9.2.1 dL_law_264 rfl (lv_at hl 2 rfl) ?_
  refine lv_iload S9.1 S9.2.1 dL_law_265 (lv_at hl 1 rfl) ?_
  refine lv_iconst (v := nI 2) S9.1 S9.2.1 dL_law_267 (by decide) ?_
  refine mi_iadd S9 dL_law_268 ?_
  refine lw_sld S9 hX9 hbl hS (by omega) hL dL_law_269 ?_
  refine lv_aload_n S9.1 S9.2.1 dL_law_270 rfl (lv_at hl 2 rfl) ?_
  refine lv_iload S9.1 S9.2.1 dL_law_271 (lv_at hl 1 rfl) ?_
  refine lv_iconst (v := nI 3) S9.1 S9.2.1 dL_law_273 (by decide) ?_
  refine mi_iadd S9 dL_law_274 ?_
  refine lw_sld S9 hX9 hbl hS (by omega) hL dL_law_275 ?_
  have hr8 := hMo.recv E
  rw [hq1] at hM9 hr8
  refine mi_cMi (mi_runV (P := mo_W D (fun q => s.heap.size ≤ q) ad1 cf1 f g) (As := [.int (xs (i + 1)), .int (xs (i + 2)), .int (xs (i + 3))]) (rest := []) S9 E hS hMo q1 hM9 hr8 mw_751 mw_748 mw_749 mw_750 mw_43 ⟨by decide, by decide, by decide +kernel⟩ ⟨rfl, rfl, by show d9 + 1 ≤ 12; omega, by show 8 + (5 + 11) + 37 * d9 ≤ 452; omega⟩ (n := 3) rfl hl.1 rfl (Nat.le_of_ble_eq_true rfl) dL_law_276 ⟨by show cells + 6 + 0 ≤ 601024; omega, by show slots + 2019 + 0 ≤ 7293033; omega⟩) hS (fun r8 H locs hp8 hS hz7 => ?_)
  obtain ⟨hans8, f1, g1, hM1, hR1, hf0⟩ := hp8
  refine lv_istore (lv' := [(6, .int r8), (5, .int (nI k)), (4, .int (nI i)), (0, .ref b), (1, .ref q0), (2, .ref q1), (3, .ref q2)]) S9.1 S9.2.1 dL_law_279 hl (by decide) rfl (fun ls hl => ?_)
  refine lv_aload_n S9.1 S9.2.1 dL_law_281 rfl (lv_at hl 5 rfl) ?_
  have hT := c_mthrown l D (fun q => s.heap.size ≤ q) (cf0 := cf1) (ad := ad1) (g := g1) hf0
  have hr7 := hM1.recv E
  rw [hq1] at hT hr7
  refine mi_cR (mi_runV (P := mo_W D (fun q => s.heap.size ≤ q) ad1 cf1 f1 g1) (As := []) (rest := []) S9 E hS hM1 q1 hT hr7 mw_726 mw_723 mw_724 mw_725 mw_43 ⟨by decide, by decide, by decide +kernel⟩ ⟨rfl, rfl, Nat.le_of_ble_eq_true rfl, Nat.le_of_ble_eq_true rfl⟩ (n := 0) rfl hl.1 rfl (Nat.le_of_ble_eq_true rfl) dL_law_282 ⟨by show cells + 6 + 0 + 0 ≤ 601024; omega, by show slots + 2019 + 0 + 0 ≤ 7293033; omega⟩) (fun r7 e7 => ?_)
  refine mi_top (v' := .int (nI k)) (by rw [e7]) ?_
  refine lv_iload S9.1 S9.2.1 dL_law_285 (lv_at hl 1 rfl) ?_
  refine mi_icmp_eq (tgt := 292) S9 (by omega) (by omega) dL_law_287 (by decide) (fun _ => ?_) (fun z => absurd rfl z)
  obtain ⟨cf2, hW2, hm2, hs2⟩ := hM1
  refine lv_iload S9.1 S9.2.1 dL_law_292 (lv_at hl 1 rfl) ?_
  refine mi_if_ne (tgt := 309) S9 (by omega) dL_law_294 (by decide) (fun c1 => ?_) (fun c1 => ?_)
  · refine lv_goto (tgt := 1433) S9.1 S9.2.1 dL_law_309 (by decide) ?_
    exact K S1 H locs ls hO1 ⟨ad1, cf2, f1, g1, _, hW2, hX1.same hO1 (fun r hr => ⟨hs2 r (Or.inl (by omega)), rfl⟩), hR1, hm2, (hs2 1500 (Or.inl (by omega))).trans c15, hq0, hq1, hq2⟩ hS (lv_sub hl [2, 3, 4, 5, 6] rfl)
  · refine lv_aload_n S9.1 S9.2.1 dL_law_297 rfl (lv_at hl 6 rfl) ?_
    refine lv_iconst (v := nI 0) S9.1 S9.2.1 dL_law_298 (by decide) ?_
    refine mi_lald S9 E hW2 1500 hq2 ((hs2 1500 (Or.inl (by omega))).trans c15) (by omega) (by omega) dL_law_299 ?_
    refine mi_top (v' := .long a.toInt64) (by rw [hans c1]) ?_
    refine lv_iload S9.1 S9.2.1 dL_law_300 (lv_at hl 0 rfl) ?_
    refine mi_top (v' := .int a) (by rw [hans8 c1]) ?_
    refine lv_i2l (v := a.toInt64) S9.1 S9.2.1 dL_law_302 rfl ?_
    refine W.lcmp S9.1 S9.2.1 dL_law_303 ?_
    refine mi_top (v' := .int (nI 0)) (congrArg Value.int (lw_cmp a.toInt64)) ?_
    refine mi_if_eq (tgt := 309) S9 (a := 0) (by omega) dL_law_304 (by decide) (fun _ => ?_) (fun z => absurd rfl z)
    refine lv_goto (tgt := 1433) S9.1 S9.2.1 dL_law_309 (by decide) ?_
    exact K S1 H locs ls hO1 ⟨ad1, cf2, f1, g1, _, hW2, hX1.same hO1 (fun r hr => ⟨hs2 r (Or.inl (by omega)), rfl⟩), hR1, hm2, (hs2 1500 (Or.inl (by omega))).trans c15, hq0, hq1, hq2⟩ hS (lv_sub hl [2, 3, 4, 5, 6] rfl)
set_option maxHeartbeats 4000000 in
set_option maxRecDepth 100000 in
theorem lw_case_2 {p : Program} {l : Launch} {e : Env} {s : State} {m : MethodId} {below : List Frame} {meth : Method} {c : Code} {b L : Nat} {xs : Nat → Int32} {D : va_G} (hst : l.stackTraces = false) (S9 : CallFix p m c cL_law 7 s #[Value.ref b] (lw_w0 :: mi_G) RL) (hX9 : va_X b L xs s s.heap) (hbl : b < s.heap.size) (hL : L ≤ 2048) (E : mi_E D (fun q => s.heap.size ≤ q) s) {S : sT} (hO : st_ok S) {q0 q1 q2 i cells slots : Nat} {H : Heap} {locs : List Loc} {ls : Array Slot} (hi : i + 4 ≤ L) (hI : lw_I D (fun q => s.heap.size ≤ q) S q0 q1 q2 H) (hS : va_S (fun q => s.heap.size ≤ q) s.heap H locs) (hl : lv_has ls 7 [(4, .int (nI i)), (0, .ref b), (1, .ref q0), (2, .ref q1), (3, .ref q2)]) (hcc : cells + 6 ≤ 601024) (hss : slots + 2019 ≤ 7293033) (K : ∀ (S1 : sT) (H : Heap) (locs : List Loc) (ls : Array Slot), st_ok S1 → lw_I D (fun q => s.heap.size ≤ q) S1 q0 q1 q2 H → va_S (fun q => s.heap.size ≤ q) s.heap H locs → lv_has ls 7 [(4, .int (nI i)), (0, .ref b), (1, .ref q0), (2, .ref q1), (3, .ref q2)] → W p l e room_1 s m #[Value.ref b] below meth c H locs (cells + 6) (slots + 2019) (lw_Z below #[Value.ref b] s) (F0 m 1433 ls [])) : W p l e room_1 s m #[Value.ref b] below meth c H locs cells slots (lw_Z below #[Value.ref b] s) (F0 m 312 ls []) := by
  obtain ⟨ad, cf, f, g, o, hW, hX, hR, hm, ho, ea, eb, ec⟩ := hI
  obtain ⟨k, a, S1, hk3, hO1, hC, hM⟩ := lw_o_layer l D (fun q => s.heap.size ≤ q) hst (fun a b h1 h2 => Nat.le_trans h1 h2) hO hR (xs (i + 1)) (xs (i + 2))
  refine lv_aload_n S9.1 S9.2.1 dL_law_312 rfl (lv_at hl 2 rfl) ?_
  refine lv_aload_n S9.1 S9.2.1 dL_law_313 rfl (lv_at hl 1 rfl) ?_
  refine lv_iload S9.1 S9.2.1 dL_law_314 (lv_at hl 0 rfl) ?_
  refine lv_iconst (v := nI 1) S9.1 S9.2.1 dL_law_316 (by decide) ?_
  refine mi_iadd S9 dL_law_317 ?_
  refine lw_sld S9 hX9 hbl hS (by omega) hL dL_law_318 ?_
  refine lv_aload_n S9.1 S9.2.1 dL_law_319 rfl (lv_at hl 1 rfl) ?_
  refine lv_iload S9.1 S9.2.1 dL_law_320 (lv_at hl 0 rfl) ?_
  refine lv_iconst (v := nI 2) S9.1 S9.2.1 dL_law_322 (by decide) ?_
  refine mi_iadd S9 dL_law_323 ?_
  refine lw_sld S9 hX9 hbl hS (by omega) hL dL_law_324 ?_
  refine lv_aload_n S9.1 S9.2.1 dL_law_325 rfl (lv_at hl 4 rfl) ?_
  have hH := c_Llayer l D (fun q => s.heap.size ≤ q) hk3 ho hX.o0 hO1 (hC ad cf hX)
  rw [ea, ec] at hH
  refine mi_cMi (mi_runSH (P := mi_W D (fun q => s.heap.size ≤ q) ad cf) (As := [.ref q0, .int (xs (i + 1)), .int (xs (i + 2)), .ref q2]) (rest := []) S9 E hS hW hH mw_437 mw_435 mw_436 mw_32 ⟨by decide, by decide, by decide +kernel⟩ ⟨rfl, rfl, Nat.le_of_ble_eq_true rfl, Nat.le_of_ble_eq_true rfl⟩ (n := 4) rfl hl.1 rfl (Nat.le_of_ble_eq_true rfl) dL_law_326 ⟨by show cells + 6 ≤ 601024; omega, by show slots + 2019 ≤ 7293033; omega⟩) hS (fun r9 H locs hp9 hS hz8 => ?_)
  obtain ⟨e9, ad1, cf1, o1, hW, hX1, hf1, h15, h00, c15, hans⟩ := hp9
  refine mi_top (v' := .int (nI k)) (by rw [e9]) ?_
  refine lv_istore (lv' := [(5, .int (nI k)), (4, .int (nI i)), (0, .ref b), (1, .ref q0), (2, .ref q1), (3, .ref q2)]) S9.1 S9.2.1 dL_law_329 hl (by decide) rfl (fun ls hl => ?_)
  have hq0 : ad1 0 = q0 := h00.trans ea
  have hq1 : ad1 1000020 = q1 := ((hf1 1000020 (by omega) (by omega)).2).trans eb
  have hq2 : ad1 1500 = q2 := h15.trans ec
  have hMo : mo_W D (fun q => s.heap.size ≤ q) ad1 cf1 f g H := ⟨cf1, hW, mo_at_keep hm (fun r hr => hf1 r (by omega) (by omega)), fun r _ => rfl⟩
  obtain ⟨d9, hd9, hM9⟩ := hM ad1 cf1
  refine lv_aload_n S9.1 S9.2.1 dL_law_331 rfl (lv_at hl 4 rfl) ?_
  refine lv_aload_n S9.1 S9.2.1 dL_law_332 rfl (lv_at hl 2 rfl) ?_
  refine lv_iload S9.1 S9.2.1 dL_law_333 (lv_at hl 1 rfl) ?_
  refine lv_iconst (v := nI 1) S9.1 S9.2.1 dL_law_335 (by decide) ?_
  refine mi_iadd S9 dL_law_336 ?_
  refine lw_sld S9 hX9 hbl hS (by omega) hL dL_law_337 ?_
  refine lv_aload_n S9.1 S9.2.1 dL_law_338 rfl (lv_at hl 2 rfl) ?_
  refine lv_iload S9.1 S9.2.1 dL_law_339 (lv_at hl 1 rfl) ?_
  refine lv_iconst (v := nI 2) S9.1 S9.2.1 dL_law_341 (by decide) ?_
  refine mi_iadd S9 dL_law_342 ?_
  refine lw_sld S9 hX9 hbl hS (by omega) hL dL_law_343 ?_
  have hr8 := hMo.recv E
  rw [hq1] at hM9 hr8
  refine mi_cMi (mi_runV (P := mo_W D (fun q => s.heap.size ≤ q) ad1 cf1 f g) (As := [.int (xs (i + 1)), .int (xs (i + 2))]) (rest := []) S9 E hS hMo q1 hM9 hr8 mw_755 mw_752 mw_753 mw_754 mw_43 ⟨by decide, by decide, by decide +kernel⟩ ⟨rfl, rfl, by show d9 + 1 ≤ 12; omega, by show 8 + (4 + 11) + 37 * d9 ≤ 452; omega⟩ (n := 2) rfl hl.1 rfl (Nat.le_of_ble_eq_true rfl) dL_law_344 ⟨by show cells + 6 + 0 ≤ 601024; omega, by show slots + 2019 + 0 ≤ 7293033; omega⟩) hS (fun r8 H locs hp8 hS hz7 => ?_)
  obtain ⟨hans8, f1, g1, hM1, hR1, hf0⟩ := hp8
  refine lv_istore (lv' := [(6, .int r8), (5, .int (nI k)), (4, .int (nI i)), (0, .ref b), (1, .ref q0), (2, .ref q1), (3, .ref q2)]) S9.1 S9.2.1 dL_law_347 hl (by decide) rfl (fun ls hl => ?_)
  refine lv_aload_n S9.1 S9.2.1 dL_law_349 rfl (lv_at hl 5 rfl) ?_
  have hT := c_mthrown l D (fun q => s.heap.size ≤ q) (cf0 := cf1) (ad := ad1) (g := g1) hf0
  have hr7 := hM1.recv E
  rw [hq1] at hT hr7
  refine mi_cR (mi_runV (P := mo_W D (fun q => s.heap.size ≤ q) ad1 cf1 f1 g1) (As := []) (rest := []) S9 E hS hM1 q1 hT hr7 mw_726 mw_723 mw_724 mw_725 mw_43 ⟨by decide, by decide, by decide +kernel⟩ ⟨rfl, rfl, Nat.le_of_ble_eq_true rfl, Nat.le_of_ble_eq_true rfl⟩ (n := 0) rfl hl.1 rfl (Nat.le_of_ble_eq_true rfl) dL_law_350 ⟨by show cells + 6 + 0 + 0 ≤ 601024; omega, by show slots + 2019 + 0 + 0 ≤ 7293033; omega⟩) (fun r7 e7 => ?_)
  refine mi_top (v' := .int (nI k)) (by rw [e7]) ?_
  refine lv_iload S9.1 S9.2.1 dL_law_353 (lv_at hl 1 rfl) ?_
  refine mi_icmp_eq (tgt := 360) S9 (by omega) (by omega) dL_law_355 (by decide) (fun _ => ?_) (fun z => absurd rfl z)
  obtain ⟨cf2, hW2, hm2, hs2⟩ := hM1
  refine lv_iload S9.1 S9.2.1 dL_law_360 (lv_at hl 1 rfl) ?_
  refine mi_if_ne (tgt := 377) S9 (by omega) dL_law_362 (by decide) (fun c1 => ?_) (fun c1 => ?_)
  · refine lv_goto (tgt := 1433) S9.1 S9.2.1 dL_law_377 (by decide) ?_
    exact K S1 H locs ls hO1 ⟨ad1, cf2, f1, g1, _, hW2, hX1.same hO1 (fun r hr => ⟨hs2 r (Or.inl (by omega)), rfl⟩), hR1, hm2, (hs2 1500 (Or.inl (by omega))).trans c15, hq0, hq1, hq2⟩ hS (lv_sub hl [2, 3, 4, 5, 6] rfl)
  · refine lv_aload_n S9.1 S9.2.1 dL_law_365 rfl (lv_at hl 6 rfl) ?_
    refine lv_iconst (v := nI 0) S9.1 S9.2.1 dL_law_366 (by decide) ?_
    refine mi_lald S9 E hW2 1500 hq2 ((hs2 1500 (Or.inl (by omega))).trans c15) (by omega) (by omega) dL_law_367 ?_
    refine mi_top (v' := .long a.toInt64) (by rw [hans c1]) ?_
    refine lv_iload S9.1 S9.2.1 dL_law_368 (lv_at hl 0 rfl) ?_
    refine mi_top (v' := .int a) (by rw [hans8 c1]) ?_
    refine lv_i2l (v := a.toInt64) S9.1 S9.2.1 dL_law_370 rfl ?_
    refine W.lcmp S9.1 S9.2.1 dL_law_371 ?_
    refine mi_top (v' := .int (nI 0)) (congrArg Value.int (lw_cmp a.toInt64)) ?_
    refine mi_if_eq (tgt := 377) S9 (a := 0) (by omega) dL_law_372 (by decide) (fun _ => ?_) (fun z => absurd rfl z)
    refine lv_goto (tgt := 1433) S9.1 S9.2.1 dL_law_377 (by decide) ?_
    exact K S1 H locs ls hO1 ⟨ad1, cf2, f1, g1, _, hW2, hX1.same hO1 (fun r hr => ⟨hs2 r (Or.inl (by omega)), rfl⟩), hR1, hm2, (hs2 1500 (Or.inl (by omega))).trans c15, hq0, hq1, hq2⟩ hS (lv_sub hl [2, 3, 4, 5, 6] rfl)
set_option maxHeartbeats 4000000 in
set_option maxRecDepth 100000 in
theorem lw_case_3 {p : Program} {l : Launch} {e : Env} {s : State} {m : MethodId} {below : List Frame} {meth : Method} {c : Code} {b L : Nat} {xs : Nat → Int32} {D : va_G} (hst : l.stackTraces = false) (S9 : CallFix p m c cL_law 7 s #[Value.ref b] (lw_w0 :: mi_G) RL) (hX9 : va_X b L xs s s.heap) (hbl : b < s.heap.size) (hL : L ≤ 2048) (E : mi_E D (fun q => s.heap.size ≤ q) s) {S : sT} (hO : st_ok S) {q0 q1 q2 i cells slots : Nat} {H : Heap} {locs : List Loc} {ls : Array Slot} (hi : i + 4 ≤ L) (hI : lw_I D (fun q => s.heap.size ≤ q) S q0 q1 q2 H) (hS : va_S (fun q => s.heap.size ≤ q) s.heap H locs) (hl : lv_has ls 7 [(4, .int (nI i)), (0, .ref b), (1, .ref q0), (2, .ref q1), (3, .ref q2)]) (hcc : cells + 6 ≤ 601024) (hss : slots + 2019 ≤ 7293033) (K : ∀ (S1 : sT) (H : Heap) (locs : List Loc) (ls : Array Slot), st_ok S1 → lw_I D (fun q => s.heap.size ≤ q) S1 q0 q1 q2 H → va_S (fun q => s.heap.size ≤ q) s.heap H locs → lv_has ls 7 [(4, .int (nI i)), (0, .ref b), (1, .ref q0), (2, .ref q1), (3, .ref q2)] → W p l e room_1 s m #[Value.ref b] below meth c H locs (cells + 6) (slots + 2019) (lw_Z below #[Value.ref b] s) (F0 m 1433 ls [])) : W p l e room_1 s m #[Value.ref b] below meth c H locs cells slots (lw_Z below #[Value.ref b] s) (F0 m 380 ls []) := by
  obtain ⟨ad, cf, f, g, o, hW, hX, hR, hm, ho, ea, eb, ec⟩ := hI
  obtain ⟨k, a, S1, hk3, hO1, hC, hM⟩ := lw_o_kind l D (fun q => s.heap.size ≤ q) hst (fun a b h1 h2 => Nat.le_trans h1 h2) hO hR (xs (i + 1)) (xs (i + 2))
  refine lv_aload_n S9.1 S9.2.1 dL_law_380 rfl (lv_at hl 2 rfl) ?_
  refine lv_aload_n S9.1 S9.2.1 dL_law_381 rfl (lv_at hl 1 rfl) ?_
  refine lv_iload S9.1 S9.2.1 dL_law_382 (lv_at hl 0 rfl) ?_
  refine lv_iconst (v := nI 1) S9.1 S9.2.1 dL_law_384 (by decide) ?_
  refine mi_iadd S9 dL_law_385 ?_
  refine lw_sld S9 hX9 hbl hS (by omega) hL dL_law_386 ?_
  refine lv_aload_n S9.1 S9.2.1 dL_law_387 rfl (lv_at hl 1 rfl) ?_
  refine lv_iload S9.1 S9.2.1 dL_law_388 (lv_at hl 0 rfl) ?_
  refine lv_iconst (v := nI 2) S9.1 S9.2.1 dL_law_390 (by decide) ?_
  refine mi_iadd S9 dL_law_391 ?_
  refine lw_sld S9 hX9 hbl hS (by omega) hL dL_law_392 ?_
  refine lv_aload_n S9.1 S9.2.1 dL_law_393 rfl (lv_at hl 4 rfl) ?_
  have hH := c_Lkind l D (fun q => s.heap.size ≤ q) hk3 ho hX.o0 hO1 (hC ad cf hX)
  rw [ea, ec] at hH
  refine mi_cMi (mi_runSH (P := mi_W D (fun q => s.heap.size ≤ q) ad cf) (As := [.ref q0, .int (xs (i + 1)), .int (xs (i + 2)), .ref q2]) (rest := []) S9 E hS hW hH mw_444 mw_442 mw_443 mw_32 ⟨by decide, by decide, by decide +kernel⟩ ⟨rfl, rfl, Nat.le_of_ble_eq_true rfl, Nat.le_of_ble_eq_true rfl⟩ (n := 4) rfl hl.1 rfl (Nat.le_of_ble_eq_true rfl) dL_law_394 ⟨by show cells + 6 ≤ 601024; omega, by show slots + 2019 ≤ 7293033; omega⟩) hS (fun r9 H locs hp9 hS hz8 => ?_)
  obtain ⟨e9, ad1, cf1, o1, hW, hX1, hf1, h15, h00, c15, hans⟩ := hp9
  refine mi_top (v' := .int (nI k)) (by rw [e9]) ?_
  refine lv_istore (lv' := [(5, .int (nI k)), (4, .int (nI i)), (0, .ref b), (1, .ref q0), (2, .ref q1), (3, .ref q2)]) S9.1 S9.2.1 dL_law_397 hl (by decide) rfl (fun ls hl => ?_)
  have hq0 : ad1 0 = q0 := h00.trans ea
  have hq1 : ad1 1000020 = q1 := ((hf1 1000020 (by omega) (by omega)).2).trans eb
  have hq2 : ad1 1500 = q2 := h15.trans ec
  have hMo : mo_W D (fun q => s.heap.size ≤ q) ad1 cf1 f g H := ⟨cf1, hW, mo_at_keep hm (fun r hr => hf1 r (by omega) (by omega)), fun r _ => rfl⟩
  obtain ⟨d9, hd9, hM9⟩ := hM ad1 cf1
  refine lv_aload_n S9.1 S9.2.1 dL_law_399 rfl (lv_at hl 4 rfl) ?_
  refine lv_aload_n S9.1 S9.2.1 dL_law_400 rfl (lv_at hl 2 rfl) ?_
  refine lv_iload S9.1 S9.2.1 dL_law_401 (lv_at hl 1 rfl) ?_
  refine lv_iconst (v := nI 1) S9.1 S9.2.1 dL_law_403 (by decide) ?_
  refine mi_iadd S9 dL_law_404 ?_
  refine lw_sld S9 hX9 hbl hS (by omega) hL dL_law_405 ?_
  refine lv_aload_n S9.1 S9.2.1 dL_law_406 rfl (lv_at hl 2 rfl) ?_
  refine lv_iload S9.1 S9.2.1 dL_law_407 (lv_at hl 1 rfl) ?_
  refine lv_iconst (v := nI 2) S9.1 S9.2.1 dL_law_409 (by decide) ?_
  refine mi_iadd S9 dL_law_410 ?_
  refine lw_sld S9 hX9 hbl hS (by omega) hL dL_law_411 ?_
  have hr8 := hMo.recv E
  rw [hq1] at hM9 hr8
  refine mi_cMi (mi_runV (P := mo_W D (fun q => s.heap.size ≤ q) ad1 cf1 f g) (As := [.int (xs (i + 1)), .int (xs (i + 2))]) (rest := []) S9 E hS hMo q1 hM9 hr8 mw_759 mw_756 mw_757 mw_758 mw_43 ⟨by decide, by decide, by decide +kernel⟩ ⟨rfl, rfl, by show d9 + 1 ≤ 12; omega, by show 8 + (3 + 11) + 37 * d9 ≤ 452; omega⟩ (n := 2) rfl hl.1 rfl (Nat.le_of_ble_eq_true rfl) dL_law_412 ⟨by show cells + 6 + 0 ≤ 601024; omega, by show slots + 2019 + 0 ≤ 7293033; omega⟩) hS (fun r8 H locs hp8 hS hz7 => ?_)
  obtain ⟨hans8, f1, g1, hM1, hR1, hf0⟩ := hp8
  refine lv_istore (lv' := [(6, .int r8), (5, .int (nI k)), (4, .int (nI i)), (0, .ref b), (1, .ref q0), (2, .ref q1), (3, .ref q2)]) S9.1 S9.2.1 dL_law_415 hl (by decide) rfl (fun ls hl => ?_)
  refine lv_aload_n S9.1 S9.2.1 dL_law_417 rfl (lv_at hl 5 rfl) ?_
  have hT := c_mthrown l D (fun q => s.heap.size ≤ q) (cf0 := cf1) (ad := ad1) (g := g1) hf0
  have hr7 := hM1.recv E
  rw [hq1] at hT hr7
  refine mi_cR (mi_runV (P := mo_W D (fun q => s.heap.size ≤ q) ad1 cf1 f1 g1) (As := []) (rest := []) S9 E hS hM1 q1 hT hr7 mw_726 mw_723 mw_724 mw_725 mw_43 ⟨by decide, by decide, by decide +kernel⟩ ⟨rfl, rfl, Nat.le_of_ble_eq_true rfl, Nat.le_of_ble_eq_true rfl⟩ (n := 0) rfl hl.1 rfl (Nat.le_of_ble_eq_true rfl) dL_law_418 ⟨by show cells + 6 + 0 + 0 ≤ 601024; omega, by show slots + 2019 + 0 + 0 ≤ 7293033; omega⟩) (fun r7 e7 => ?_)
  refine mi_top (v' := .int (nI k)) (by rw [e7]) ?_
  refine lv_iload S9.1 S9.2.1 dL_law_421 (lv_at hl 1 rfl) ?_
  refine mi_icmp_eq (tgt := 428) S9 (by omega) (by omega) dL_law_423 (by decide) (fun _ => ?_) (fun z => absurd rfl z)
  obtain ⟨cf2, hW2, hm2, hs2⟩ := hM1
  refine lv_iload S9.1 S9.2.1 dL_law_428 (lv_at hl 1 rfl) ?_
  refine mi_if_ne (tgt := 445) S9 (by omega) dL_law_430 (by decide) (fun c1 => ?_) (fun c1 => ?_)
  · refine lv_goto (tgt := 1433) S9.1 S9.2.1 dL_law_445 (by decide) ?_
    exact K S1 H locs ls hO1 ⟨ad1, cf2, f1, g1, _, hW2, hX1.same hO1 (fun r hr => ⟨hs2 r (Or.inl (by omega)), rfl⟩), hR1, hm2, (hs2 1500 (Or.inl (by omega))).trans c15, hq0, hq1, hq2⟩ hS (lv_sub hl [2, 3, 4, 5, 6] rfl)
  · refine lv_aload_n S9.1 S9.2.1 dL_law_433 rfl (lv_at hl 6 rfl) ?_
    refine lv_iconst (v := nI 0) S9.1 S9.2.1 dL_law_434 (by decide) ?_
    refine mi_lald S9 E hW2 1500 hq2 ((hs2 1500 (Or.inl (by omega))).trans c15) (by omega) (by omega) dL_law_435 ?_
    refine mi_top (v' := .long a.toInt64) (by rw [hans c1]) ?_
    refine lv_iload S9.1 S9.2.1 dL_law_436 (lv_at hl 0 rfl) ?_
    refine mi_top (v' := .int a) (by rw [hans8 c1]) ?_
    refine lv_i2l (v := a.toInt64) S9.1 S9.2.1 dL_law_438 rfl ?_
    refine W.lcmp S9.1 S9.2.1 dL_law_439 ?_
    refine mi_top (v' := .int (nI 0)) (congrArg Value.int (lw_cmp a.toInt64)) ?_
    refine mi_if_eq (tgt := 445) S9 (a := 0) (by omega) dL_law_440 (by decide) (fun _ => ?_) (fun z => absurd rfl z)
    refine lv_goto (tgt := 1433) S9.1 S9.2.1 dL_law_445 (by decide) ?_
    exact K S1 H locs ls hO1 ⟨ad1, cf2, f1, g1, _, hW2, hX1.same hO1 (fun r hr => ⟨hs2 r (Or.inl (by omega)), rfl⟩), hR1, hm2, (hs2 1500 (Or.inl (by omega))).trans c15, hq0, hq1, hq2⟩ hS (lv_sub hl [2, 3, 4, 5, 6] rfl)
set_option maxHeartbeats 4000000 in
set_option maxRecDepth 100000 in
theorem lw_case_4 {p : Program} {l : Launch} {e : Env} {s : State} {m : MethodId} {below : List Frame} {meth : Method} {c : Code} {b L : Nat} {xs : Nat → Int32} {D : va_G} (hst : l.stackTraces = false) (S9 : CallFix p m c cL_law 7 s #[Value.ref b] (lw_w0 :: mi_G) RL) (hX9 : va_X b L xs s s.heap) (hbl : b < s.heap.size) (hL : L ≤ 2048) (E : mi_E D (fun q => s.heap.size ≤ q) s) {S : sT} (hO : st_ok S) {q0 q1 q2 i cells slots : Nat} {H : Heap} {locs : List Loc} {ls : Array Slot} (hi : i + 4 ≤ L) (hI : lw_I D (fun q => s.heap.size ≤ q) S q0 q1 q2 H) (hS : va_S (fun q => s.heap.size ≤ q) s.heap H locs) (hl : lv_has ls 7 [(4, .int (nI i)), (0, .ref b), (1, .ref q0), (2, .ref q1), (3, .ref q2)]) (hcc : cells + 6 ≤ 601024) (hss : slots + 2019 ≤ 7293033) (K : ∀ (S1 : sT) (H : Heap) (locs : List Loc) (ls : Array Slot), st_ok S1 → lw_I D (fun q => s.heap.size ≤ q) S1 q0 q1 q2 H → va_S (fun q => s.heap.size ≤ q) s.heap H locs → lv_has ls 7 [(4, .int (nI i)), (0, .ref b), (1, .ref q0), (2, .ref q1), (3, .ref q2)] → W p l e room_1 s m #[Value.ref b] below meth c H locs (cells + 6) (slots + 2019) (lw_Z below #[Value.ref b] s) (F0 m 1433 ls [])) : W p l e room_1 s m #[Value.ref b] below meth c H locs cells slots (lw_Z below #[Value.ref b] s) (F0 m 448 ls []) := by
  obtain ⟨ad, cf, f, g, o, hW, hX, hR, hm, ho, ea, eb, ec⟩ := hI
  obtain ⟨k, a, S1, hk3, hO1, hC, hM⟩ := lw_o_runs l D (fun q => s.heap.size ≤ q) hst (fun a b h1 h2 => Nat.le_trans h1 h2) hO hR (xs (i + 1))
  refine lv_aload_n S9.1 S9.2.1 dL_law_448 rfl (lv_at hl 2 rfl) ?_
  refine lv_aload_n S9.1 S9.2.1 dL_law_449 rfl (lv_at hl 1 rfl) ?_
  refine lv_iload S9.1 S9.2.1 dL_law_450 (lv_at hl 0 rfl) ?_
  refine lv_iconst (v := nI 1) S9.1 S9.2.1 dL_law_452 (by decide) ?_
  refine mi_iadd S9 dL_law_453 ?_
  refine lw_sld S9 hX9 hbl hS (by omega) hL dL_law_454 ?_
  refine lv_aload_n S9.1 S9.2.1 dL_law_455 rfl (lv_at hl 4 rfl) ?_
  have hH := c_Lruns l D (fun q => s.heap.size ≤ q) hk3 ho hX.o0 hO1 (hC ad cf hX)
  rw [ea, ec] at hH
  refine mi_cMi (mi_runSH (P := mi_W D (fun q => s.heap.size ≤ q) ad cf) (As := [.ref q0, .int (xs (i + 1)), .ref q2]) (rest := []) S9 E hS hW hH mw_451 mw_449 mw_450 mw_32 ⟨by decide, by decide, by decide +kernel⟩ ⟨rfl, rfl, Nat.le_of_ble_eq_true rfl, Nat.le_of_ble_eq_true rfl⟩ (n := 3) rfl hl.1 rfl (Nat.le_of_ble_eq_true rfl) dL_law_456 ⟨by show cells + 6 ≤ 601024; omega, by show slots + 2019 ≤ 7293033; omega⟩) hS (fun r9 H locs hp9 hS hz8 => ?_)
  obtain ⟨e9, ad1, cf1, o1, hW, hX1, hf1, h15, h00, c15, hans⟩ := hp9
  refine mi_top (v' := .int (nI k)) (by rw [e9]) ?_
  refine lv_istore (lv' := [(5, .int (nI k)), (4, .int (nI i)), (0, .ref b), (1, .ref q0), (2, .ref q1), (3, .ref q2)]) S9.1 S9.2.1 dL_law_459 hl (by decide) rfl (fun ls hl => ?_)
  have hq0 : ad1 0 = q0 := h00.trans ea
  have hq1 : ad1 1000020 = q1 := ((hf1 1000020 (by omega) (by omega)).2).trans eb
  have hq2 : ad1 1500 = q2 := h15.trans ec
  have hMo : mo_W D (fun q => s.heap.size ≤ q) ad1 cf1 f g H := ⟨cf1, hW, mo_at_keep hm (fun r hr => hf1 r (by omega) (by omega)), fun r _ => rfl⟩
  obtain ⟨d9, hd9, hM9⟩ := hM ad1 cf1
  refine lv_aload_n S9.1 S9.2.1 dL_law_461 rfl (lv_at hl 4 rfl) ?_
  refine lv_aload_n S9.1 S9.2.1 dL_law_462 rfl (lv_at hl 2 rfl) ?_
  refine lv_iload S9.1 S9.2.1 dL_law_463 (lv_at hl 1 rfl) ?_
  refine lv_iconst (v := nI 1) S9.1 S9.2.1 dL_law_465 (by decide) ?_
  refine mi_iadd S9 dL_law_466 ?_
  refine lw_sld S9 hX9 hbl hS (by omega) hL dL_law_467 ?_
  have hr8 := hMo.recv E
  rw [hq1] at hM9 hr8
  refine mi_cMi (mi_runV (P := mo_W D (fun q => s.heap.size ≤ q) ad1 cf1 f g) (As := [.int (xs (i + 1))]) (rest := []) S9 E hS hMo q1 hM9 hr8 mw_771 mw_768 mw_769 mw_770 mw_43 ⟨by decide, by decide, by decide +kernel⟩ ⟨rfl, rfl, by show d9 + 1 ≤ 12; omega, by show 8 + (2 + 11) + 37 * d9 ≤ 452; omega⟩ (n := 1) rfl hl.1 rfl (Nat.le_of_ble_eq_true rfl) dL_law_468 ⟨by show cells + 6 + 0 ≤ 601024; omega, by show slots + 2019 + 0 ≤ 7293033; omega⟩) hS (fun r8 H locs hp8 hS hz7 => ?_)
  obtain ⟨hans8, f1, g1, hM1, hR1, hf0⟩ := hp8
  refine lv_istore (lv' := [(6, .int r8), (5, .int (nI k)), (4, .int (nI i)), (0, .ref b), (1, .ref q0), (2, .ref q1), (3, .ref q2)]) S9.1 S9.2.1 dL_law_471 hl (by decide) rfl (fun ls hl => ?_)
  refine lv_aload_n S9.1 S9.2.1 dL_law_473 rfl (lv_at hl 5 rfl) ?_
  have hT := c_mthrown l D (fun q => s.heap.size ≤ q) (cf0 := cf1) (ad := ad1) (g := g1) hf0
  have hr7 := hM1.recv E
  rw [hq1] at hT hr7
  refine mi_cR (mi_runV (P := mo_W D (fun q => s.heap.size ≤ q) ad1 cf1 f1 g1) (As := []) (rest := []) S9 E hS hM1 q1 hT hr7 mw_726 mw_723 mw_724 mw_725 mw_43 ⟨by decide, by decide, by decide +kernel⟩ ⟨rfl, rfl, Nat.le_of_ble_eq_true rfl, Nat.le_of_ble_eq_true rfl⟩ (n := 0) rfl hl.1 rfl (Nat.le_of_ble_eq_true rfl) dL_law_474 ⟨by show cells + 6 + 0 + 0 ≤ 601024; omega, by show slots + 2019 + 0 + 0 ≤ 7293033; omega⟩) (fun r7 e7 => ?_)
  refine mi_top (v' := .int (nI k)) (by rw [e7]) ?_
  refine lv_iload S9.1 S9.2.1 dL_law_477 (lv_at hl 1 rfl) ?_
  refine mi_icmp_eq (tgt := 484) S9 (by omega) (by omega) dL_law_479 (by decide) (fun _ => ?_) (fun z => absurd rfl z)
  obtain ⟨cf2, hW2, hm2, hs2⟩ := hM1
  refine lv_iload S9.1 S9.2.1 dL_law_484 (lv_at hl 1 rfl) ?_
  refine mi_if_ne (tgt := 501) S9 (by omega) dL_law_486 (by decide) (fun c1 => ?_) (fun c1 => ?_)
  · refine lv_goto (tgt := 1433) S9.1 S9.2.1 dL_law_501 (by decide) ?_
    exact K S1 H locs ls hO1 ⟨ad1, cf2, f1, g1, _, hW2, hX1.same hO1 (fun r hr => ⟨hs2 r (Or.inl (by omega)), rfl⟩), hR1, hm2, (hs2 1500 (Or.inl (by omega))).trans c15, hq0, hq1, hq2⟩ hS (lv_sub hl [2, 3, 4, 5, 6] rfl)
  · refine lv_aload_n S9.1 S9.2.1 dL_law_489 rfl (lv_at hl 6 rfl) ?_
    refine lv_iconst (v := nI 0) S9.1 S9.2.1 dL_law_490 (by decide) ?_
    refine mi_lald S9 E hW2 1500 hq2 ((hs2 1500 (Or.inl (by omega))).trans c15) (by omega) (by omega) dL_law_491 ?_
    refine mi_top (v' := .long a.toInt64) (by rw [hans c1]) ?_
    refine lv_iload S9.1 S9.2.1 dL_law_492 (lv_at hl 0 rfl) ?_
    refine mi_top (v' := .int a) (by rw [hans8 c1]) ?_
    refine lv_i2l (v := a.toInt64) S9.1 S9.2.1 dL_law_494 rfl ?_
    refine W.lcmp S9.1 S9.2.1 dL_law_495 ?_
    refine mi_top (v' := .int (nI 0)) (congrArg Value.int (lw_cmp a.toInt64)) ?_
    refine mi_if_eq (tgt := 501) S9 (a := 0) (by omega) dL_law_496 (by decide) (fun _ => ?_) (fun z => absurd rfl z)
    refine lv_goto (tgt := 1433) S9.1 S9.2.1 dL_law_501 (by decide) ?_
    exact K S1 H locs ls hO1 ⟨ad1, cf2, f1, g1, _, hW2, hX1.same hO1 (fun r hr => ⟨hs2 r (Or.inl (by omega)), rfl⟩), hR1, hm2, (hs2 1500 (Or.inl (by omega))).trans c15, hq0, hq1, hq2⟩ hS (lv_sub hl [2, 3, 4, 5, 6] rfl)
set_option maxHeartbeats 4000000 in
set_option maxRecDepth 100000 in
theorem lw_case_5 {p : Program} {l : Launch} {e : Env} {s : State} {m : MethodId} {below : List Frame} {meth : Method} {c : Code} {b L : Nat} {xs : Nat → Int32} {D : va_G} (hst : l.stackTraces = false) (S9 : CallFix p m c cL_law 7 s #[Value.ref b] (lw_w0 :: mi_G) RL) (hX9 : va_X b L xs s s.heap) (hbl : b < s.heap.size) (hL : L ≤ 2048) (E : mi_E D (fun q => s.heap.size ≤ q) s) {S : sT} (hO : st_ok S) {q0 q1 q2 i cells slots : Nat} {H : Heap} {locs : List Loc} {ls : Array Slot} (hi : i + 4 ≤ L) (hI : lw_I D (fun q => s.heap.size ≤ q) S q0 q1 q2 H) (hS : va_S (fun q => s.heap.size ≤ q) s.heap H locs) (hl : lv_has ls 7 [(4, .int (nI i)), (0, .ref b), (1, .ref q0), (2, .ref q1), (3, .ref q2)]) (hcc : cells + 6 ≤ 601024) (hss : slots + 2019 ≤ 7293033) (K : ∀ (S1 : sT) (H : Heap) (locs : List Loc) (ls : Array Slot), st_ok S1 → lw_I D (fun q => s.heap.size ≤ q) S1 q0 q1 q2 H → va_S (fun q => s.heap.size ≤ q) s.heap H locs → lv_has ls 7 [(4, .int (nI i)), (0, .ref b), (1, .ref q0), (2, .ref q1), (3, .ref q2)] → W p l e room_1 s m #[Value.ref b] below meth c H locs (cells + 6) (slots + 2019) (lw_Z below #[Value.ref b] s) (F0 m 1433 ls [])) : W p l e room_1 s m #[Value.ref b] below meth c H locs cells slots (lw_Z below #[Value.ref b] s) (F0 m 504 ls []) := by
  obtain ⟨ad, cf, f, g, o, hW, hX, hR, hm, ho, ea, eb, ec⟩ := hI
  obtain ⟨k, a, S1, hk3, hO1, hC, hM⟩ := lw_o_runLength l D (fun q => s.heap.size ≤ q) hst (fun a b h1 h2 => Nat.le_trans h1 h2) hO hR (xs (i + 1)) (xs (i + 2))
  refine lv_aload_n S9.1 S9.2.1 dL_law_504 rfl (lv_at hl 2 rfl) ?_
  refine lv_aload_n S9.1 S9.2.1 dL_law_505 rfl (lv_at hl 1 rfl) ?_
  refine lv_iload S9.1 S9.2.1 dL_law_506 (lv_at hl 0 rfl) ?_
  refine lv_iconst (v := nI 1) S9.1 S9.2.1 dL_law_508 (by decide) ?_
  refine mi_iadd S9 dL_law_509 ?_
  refine lw_sld S9 hX9 hbl hS (by omega) hL dL_law_510 ?_
  refine lv_aload_n S9.1 S9.2.1 dL_law_511 rfl (lv_at hl 1 rfl) ?_
  refine lv_iload S9.1 S9.2.1 dL_law_512 (lv_at hl 0 rfl) ?_
  refine lv_iconst (v := nI 2) S9.1 S9.2.1 dL_law_514 (by decide) ?_
  refine mi_iadd S9 dL_law_515 ?_
  refine lw_sld S9 hX9 hbl hS (by omega) hL dL_law_516 ?_
  refine lv_aload_n S9.1 S9.2.1 dL_law_517 rfl (lv_at hl 4 rfl) ?_
  have hH := c_LrunLength l D (fun q => s.heap.size ≤ q) hk3 ho hX.o0 hO1 (hC ad cf hX)
  rw [ea, ec] at hH
  refine mi_cMi (mi_runSH (P := mi_W D (fun q => s.heap.size ≤ q) ad cf) (As := [.ref q0, .int (xs (i + 1)), .int (xs (i + 2)), .ref q2]) (rest := []) S9 E hS hW hH mw_462 mw_460 mw_461 mw_32 ⟨by decide, by decide, by decide +kernel⟩ ⟨rfl, rfl, Nat.le_of_ble_eq_true rfl, Nat.le_of_ble_eq_true rfl⟩ (n := 4) rfl hl.1 rfl (Nat.le_of_ble_eq_true rfl) dL_law_518 ⟨by show cells + 6 ≤ 601024; omega, by show slots + 2019 ≤ 7293033; omega⟩) hS (fun r9 H locs hp9 hS hz8 => ?_)
  obtain ⟨e9, ad1, cf1, o1, hW, hX1, hf1, h15, h00, c15, hans⟩ := hp9
  refine mi_top (v' := .int (nI k)) (by rw [e9]) ?_
  refine lv_istore (lv' := [(5, .int (nI k)), (4, .int (nI i)), (0, .ref b), (1, .ref q0), (2, .ref q1), (3, .ref q2)]) S9.1 S9.2.1 dL_law_521 hl (by decide) rfl (fun ls hl => ?_)
  have hq0 : ad1 0 = q0 := h00.trans ea
  have hq1 : ad1 1000020 = q1 := ((hf1 1000020 (by omega) (by omega)).2).trans eb
  have hq2 : ad1 1500 = q2 := h15.trans ec
  have hMo : mo_W D (fun q => s.heap.size ≤ q) ad1 cf1 f g H := ⟨cf1, hW, mo_at_keep hm (fun r hr => hf1 r (by omega) (by omega)), fun r _ => rfl⟩
  obtain ⟨d9, hd9, hM9⟩ := hM ad1 cf1
  refine lv_aload_n S9.1 S9.2.1 dL_law_523 rfl (lv_at hl 4 rfl) ?_
  refine lv_aload_n S9.1 S9.2.1 dL_law_524 rfl (lv_at hl 2 rfl) ?_
  refine lv_iload S9.1 S9.2.1 dL_law_525 (lv_at hl 1 rfl) ?_
  refine lv_iconst (v := nI 1) S9.1 S9.2.1 dL_law_527 (by decide) ?_
  refine mi_iadd S9 dL_law_528 ?_
  refine lw_sld S9 hX9 hbl hS (by omega) hL dL_law_529 ?_
  refine lv_aload_n S9.1 S9.2.1 dL_law_530 rfl (lv_at hl 2 rfl) ?_
  refine lv_iload S9.1 S9.2.1 dL_law_531 (lv_at hl 1 rfl) ?_
  refine lv_iconst (v := nI 2) S9.1 S9.2.1 dL_law_533 (by decide) ?_
  refine mi_iadd S9 dL_law_534 ?_
  refine lw_sld S9 hX9 hbl hS (by omega) hL dL_law_535 ?_
  have hr8 := hMo.recv E
  rw [hq1] at hM9 hr8
  refine mi_cMi (mi_runV (P := mo_W D (fun q => s.heap.size ≤ q) ad1 cf1 f g) (As := [.int (xs (i + 1)), .int (xs (i + 2))]) (rest := []) S9 E hS hMo q1 hM9 hr8 mw_779 mw_776 mw_777 mw_778 mw_43 ⟨by decide, by decide, by decide +kernel⟩ ⟨rfl, rfl, by show d9 + 1 ≤ 12; omega, by show 8 + (6 + 11) + 37 * d9 ≤ 452; omega⟩ (n := 2) rfl hl.1 rfl (Nat.le_of_ble_eq_true rfl) dL_law_536 ⟨by show cells + 6 + 0 ≤ 601024; omega, by show slots + 2019 + 0 ≤ 7293033; omega⟩) hS (fun r8 H locs hp8 hS hz7 => ?_)
  obtain ⟨hans8, f1, g1, hM1, hR1, hf0⟩ := hp8
  refine lv_istore (lv' := [(6, .int r8), (5, .int (nI k)), (4, .int (nI i)), (0, .ref b), (1, .ref q0), (2, .ref q1), (3, .ref q2)]) S9.1 S9.2.1 dL_law_539 hl (by decide) rfl (fun ls hl => ?_)
  refine lv_aload_n S9.1 S9.2.1 dL_law_541 rfl (lv_at hl 5 rfl) ?_
  have hT := c_mthrown l D (fun q => s.heap.size ≤ q) (cf0 := cf1) (ad := ad1) (g := g1) hf0
  have hr7 := hM1.recv E
  rw [hq1] at hT hr7
  refine mi_cR (mi_runV (P := mo_W D (fun q => s.heap.size ≤ q) ad1 cf1 f1 g1) (As := []) (rest := []) S9 E hS hM1 q1 hT hr7 mw_726 mw_723 mw_724 mw_725 mw_43 ⟨by decide, by decide, by decide +kernel⟩ ⟨rfl, rfl, Nat.le_of_ble_eq_true rfl, Nat.le_of_ble_eq_true rfl⟩ (n := 0) rfl hl.1 rfl (Nat.le_of_ble_eq_true rfl) dL_law_542 ⟨by show cells + 6 + 0 + 0 ≤ 601024; omega, by show slots + 2019 + 0 + 0 ≤ 7293033; omega⟩) (fun r7 e7 => ?_)
  refine mi_top (v' := .int (nI k)) (by rw [e7]) ?_
  refine lv_iload S9.1 S9.2.1 dL_law_545 (lv_at hl 1 rfl) ?_
  refine mi_icmp_eq (tgt := 552) S9 (by omega) (by omega) dL_law_547 (by decide) (fun _ => ?_) (fun z => absurd rfl z)
  obtain ⟨cf2, hW2, hm2, hs2⟩ := hM1
  refine lv_iload S9.1 S9.2.1 dL_law_552 (lv_at hl 1 rfl) ?_
  refine mi_if_ne (tgt := 569) S9 (by omega) dL_law_554 (by decide) (fun c1 => ?_) (fun c1 => ?_)
  · refine lv_goto (tgt := 1433) S9.1 S9.2.1 dL_law_569 (by decide) ?_
    exact K S1 H locs ls hO1 ⟨ad1, cf2, f1, g1, _, hW2, hX1.same hO1 (fun r hr => ⟨hs2 r (Or.inl (by omega)), rfl⟩), hR1, hm2, (hs2 1500 (Or.inl (by omega))).trans c15, hq0, hq1, hq2⟩ hS (lv_sub hl [2, 3, 4, 5, 6] rfl)
  · refine lv_aload_n S9.1 S9.2.1 dL_law_557 rfl (lv_at hl 6 rfl) ?_
    refine lv_iconst (v := nI 0) S9.1 S9.2.1 dL_law_558 (by decide) ?_
    refine mi_lald S9 E hW2 1500 hq2 ((hs2 1500 (Or.inl (by omega))).trans c15) (by omega) (by omega) dL_law_559 ?_
    refine mi_top (v' := .long a.toInt64) (by rw [hans c1]) ?_
    refine lv_iload S9.1 S9.2.1 dL_law_560 (lv_at hl 0 rfl) ?_
    refine mi_top (v' := .int a) (by rw [hans8 c1]) ?_
    refine lv_i2l (v := a.toInt64) S9.1 S9.2.1 dL_law_562 rfl ?_
    refine W.lcmp S9.1 S9.2.1 dL_law_563 ?_
    refine mi_top (v' := .int (nI 0)) (congrArg Value.int (lw_cmp a.toInt64)) ?_
    refine mi_if_eq (tgt := 569) S9 (a := 0) (by omega) dL_law_564 (by decide) (fun _ => ?_) (fun z => absurd rfl z)
    refine lv_goto (tgt := 1433) S9.1 S9.2.1 dL_law_569 (by decide) ?_
    exact K S1 H locs ls hO1 ⟨ad1, cf2, f1, g1, _, hW2, hX1.same hO1 (fun r hr => ⟨hs2 r (Or.inl (by omega)), rfl⟩), hR1, hm2, (hs2 1500 (Or.inl (by omega))).trans c15, hq0, hq1, hq2⟩ hS (lv_sub hl [2, 3, 4, 5, 6] rfl)
set_option maxHeartbeats 4000000 in
set_option maxRecDepth 100000 in
theorem lw_case_6 {p : Program} {l : Launch} {e : Env} {s : State} {m : MethodId} {below : List Frame} {meth : Method} {c : Code} {b L : Nat} {xs : Nat → Int32} {D : va_G} (hst : l.stackTraces = false) (S9 : CallFix p m c cL_law 7 s #[Value.ref b] (lw_w0 :: mi_G) RL) (hX9 : va_X b L xs s s.heap) (hbl : b < s.heap.size) (hL : L ≤ 2048) (E : mi_E D (fun q => s.heap.size ≤ q) s) {S : sT} (hO : st_ok S) {q0 q1 q2 i cells slots : Nat} {H : Heap} {locs : List Loc} {ls : Array Slot} (hi : i + 4 ≤ L) (hI : lw_I D (fun q => s.heap.size ≤ q) S q0 q1 q2 H) (hS : va_S (fun q => s.heap.size ≤ q) s.heap H locs) (hl : lv_has ls 7 [(4, .int (nI i)), (0, .ref b), (1, .ref q0), (2, .ref q1), (3, .ref q2)]) (hcc : cells + 6 ≤ 601024) (hss : slots + 2019 ≤ 7293033) (K : ∀ (S1 : sT) (H : Heap) (locs : List Loc) (ls : Array Slot), st_ok S1 → lw_I D (fun q => s.heap.size ≤ q) S1 q0 q1 q2 H → va_S (fun q => s.heap.size ≤ q) s.heap H locs → lv_has ls 7 [(4, .int (nI i)), (0, .ref b), (1, .ref q0), (2, .ref q1), (3, .ref q2)] → W p l e room_1 s m #[Value.ref b] below meth c H locs (cells + 6) (slots + 2019) (lw_Z below #[Value.ref b] s) (F0 m 1433 ls [])) : W p l e room_1 s m #[Value.ref b] below meth c H locs cells slots (lw_Z below #[Value.ref b] s) (F0 m 572 ls []) := by
  obtain ⟨ad, cf, f, g, o, hW, hX, hR, hm, ho, ea, eb, ec⟩ := hI
  obtain ⟨a, hC, hM⟩ := lw_o_blocks l D (fun q => s.heap.size ≤ q) hst (fun a b h1 h2 => Nat.le_trans h1 h2) hO hR
  refine lv_aload_n S9.1 S9.2.1 dL_law_572 rfl (lv_at hl 2 rfl) ?_
  obtain ⟨hk0, d9, mc, ms, hd9, hmc, hms, hC9⟩ := (hC ad cf hX).resolve_right (fun h => h.1 rfl)
  have hr9 := hW.recv E hX.o0.choose_spec rfl
  rw [ea] at hC9 hr9
  refine mi_cMi (mi_runV (P := mi_W D (fun q => s.heap.size ≤ q) ad cf) (As := []) (rest := []) S9 E hS hW q0 hC9 hr9 mw_200 mw_197 mw_198 mw_199 mw_33 ⟨by decide, by decide, by decide +kernel⟩ ⟨rfl, rfl, by show d9 + 1 ≤ 12; omega, by show 8 + (3 + 11) + 37 * d9 ≤ 452; omega⟩ (n := 0) rfl hl.1 rfl (Nat.le_of_ble_eq_true rfl) dL_law_573 ⟨by show cells + mc ≤ 601024; omega, by show slots + ms ≤ 7293033; omega⟩) hS (fun r9 H locs hp9 hS hz8 => ?_)
  obtain ⟨e9, ad1, cf1, hW, hX1, hf1, h00⟩ := hp9
  refine mi_top (v' := .int a) (by rw [e9]) ?_
  have hq0 : ad1 0 = q0 := h00.trans ea
  have hq1 : ad1 1000020 = q1 := ((hf1 1000020 (by omega)).2).trans eb
  have hq2 : ad1 1500 = q2 := ((hf1 1500 (by omega)).2).trans ec
  have c15 := ((hf1 1500 (by omega)).1).trans ho
  have hMo : mo_W D (fun q => s.heap.size ≤ q) ad1 cf1 f g H := ⟨cf1, hW, mo_at_keep hm (fun r hr => hf1 r (by omega)), fun r _ => rfl⟩
  obtain ⟨d8, hd8, hM9⟩ := hM ad1 cf1
  refine lv_aload_n S9.1 S9.2.1 dL_law_576 rfl (lv_at hl 3 rfl) ?_
  have hr8 := hMo.recv E
  rw [hq1] at hM9 hr8
  refine mi_cMi (mi_runV (P := mo_W D (fun q => s.heap.size ≤ q) ad1 cf1 f g) (As := []) (rest := [.int a]) S9 E hS hMo q1 hM9 hr8 mw_783 mw_780 mw_781 mw_782 mw_43 ⟨by decide, by decide, by decide +kernel⟩ ⟨rfl, rfl, by show d8 + 1 ≤ 12; omega, by show 8 + (1 + 11) + 37 * d8 ≤ 452; omega⟩ (n := 0) rfl hl.1 rfl (Nat.le_of_ble_eq_true rfl) dL_law_577 ⟨by show cells + mc + 0 ≤ 601024; omega, by show slots + ms + 0 ≤ 7293033; omega⟩) hS (fun r8 H locs hp8 hS hz7 => ?_)
  obtain ⟨hans8, f1, g1, hM1, hR1, hf0⟩ := hp8
  refine mi_top (v' := .int a) (by rw [hans8 rfl]) ?_
  obtain ⟨cf2, hW2, hm2, hs2⟩ := hM1
  refine lv_icmp_eq (tgt := 1433) S9.1 S9.2.1 dL_law_580 (by decide) (fun _ => ?_) (fun z => absurd rfl z)
  refine W.widen (k := cells + 6) (n := slots + 2019) (by omega) (by omega) ?_
  exact K S H locs ls hO ⟨ad1, cf2, f1, g1, _, hW2, hX1.same hO (fun r hr => ⟨hs2 r (Or.inl (by omega)), rfl⟩), hR1, hm2, (hs2 1500 (Or.inl (by omega))).trans c15, hq0, hq1, hq2⟩ hS (lv_sub hl [0, 1, 2, 3, 4] rfl)
set_option maxHeartbeats 4000000 in
set_option maxRecDepth 100000 in
theorem lw_case_7 {p : Program} {l : Launch} {e : Env} {s : State} {m : MethodId} {below : List Frame} {meth : Method} {c : Code} {b L : Nat} {xs : Nat → Int32} {D : va_G} (hst : l.stackTraces = false) (S9 : CallFix p m c cL_law 7 s #[Value.ref b] (lw_w0 :: mi_G) RL) (hX9 : va_X b L xs s s.heap) (hbl : b < s.heap.size) (hL : L ≤ 2048) (E : mi_E D (fun q => s.heap.size ≤ q) s) {S : sT} (hO : st_ok S) {q0 q1 q2 i cells slots : Nat} {H : Heap} {locs : List Loc} {ls : Array Slot} (hi : i + 4 ≤ L) (hI : lw_I D (fun q => s.heap.size ≤ q) S q0 q1 q2 H) (hS : va_S (fun q => s.heap.size ≤ q) s.heap H locs) (hl : lv_has ls 7 [(4, .int (nI i)), (0, .ref b), (1, .ref q0), (2, .ref q1), (3, .ref q2)]) (hcc : cells + 6 ≤ 601024) (hss : slots + 2019 ≤ 7293033) (K : ∀ (S1 : sT) (H : Heap) (locs : List Loc) (ls : Array Slot), st_ok S1 → lw_I D (fun q => s.heap.size ≤ q) S1 q0 q1 q2 H → va_S (fun q => s.heap.size ≤ q) s.heap H locs → lv_has ls 7 [(4, .int (nI i)), (0, .ref b), (1, .ref q0), (2, .ref q1), (3, .ref q2)] → W p l e room_1 s m #[Value.ref b] below meth c H locs (cells + 6) (slots + 2019) (lw_Z below #[Value.ref b] s) (F0 m 1433 ls [])) : W p l e room_1 s m #[Value.ref b] below meth c H locs cells slots (lw_Z below #[Value.ref b] s) (F0 m 585 ls []) := by
  obtain ⟨ad, cf, f, g, o, hW, hX, hR, hm, ho, ea, eb, ec⟩ := hI
  obtain ⟨a, hC, hM⟩ := lw_o_blocksOneByOne l D (fun q => s.heap.size ≤ q) hst (fun a b h1 h2 => Nat.le_trans h1 h2) hO hR
  refine lv_aload_n S9.1 S9.2.1 dL_law_585 rfl (lv_at hl 2 rfl) ?_
  obtain ⟨hk0, d9, mc, ms, hd9, hmc, hms, hC9⟩ := (hC ad cf hX).resolve_right (fun h => h.1 rfl)
  have hr9 := hW.recv E hX.o0.choose_spec rfl
  rw [ea] at hC9 hr9
  refine mi_cMi (mi_runV (P := mi_W D (fun q => s.heap.size ≤ q) ad cf) (As := []) (rest := []) S9 E hS hW q0 hC9 hr9 mw_222 mw_219 mw_220 mw_221 mw_33 ⟨by decide, by decide, by decide +kernel⟩ ⟨rfl, rfl, by show d9 + 1 ≤ 12; omega, by show 8 + (4 + 11) + 37 * d9 ≤ 452; omega⟩ (n := 0) rfl hl.1 rfl (Nat.le_of_ble_eq_true rfl) dL_law_586 ⟨by show cells + mc ≤ 601024; omega, by show slots + ms ≤ 7293033; omega⟩) hS (fun r9 H locs hp9 hS hz8 => ?_)
  obtain ⟨e9, ad1, cf1, hW, hX1, hf1, h00⟩ := hp9
  refine mi_top (v' := .int a) (by rw [e9]) ?_
  have hq0 : ad1 0 = q0 := h00.trans ea
  have hq1 : ad1 1000020 = q1 := ((hf1 1000020 (by omega)).2).trans eb
  have hq2 : ad1 1500 = q2 := ((hf1 1500 (by omega)).2).trans ec
  have c15 := ((hf1 1500 (by omega)).1).trans ho
  have hMo : mo_W D (fun q => s.heap.size ≤ q) ad1 cf1 f g H := ⟨cf1, hW, mo_at_keep hm (fun r hr => hf1 r (by omega)), fun r _ => rfl⟩
  obtain ⟨d8, hd8, hM9⟩ := hM ad1 cf1
  refine lv_aload_n S9.1 S9.2.1 dL_law_589 rfl (lv_at hl 3 rfl) ?_
  have hr8 := hMo.recv E
  rw [hq1] at hM9 hr8
  refine mi_cMi (mi_runV (P := mo_W D (fun q => s.heap.size ≤ q) ad1 cf1 f g) (As := []) (rest := [.int a]) S9 E hS hMo q1 hM9 hr8 mw_791 mw_788 mw_789 mw_790 mw_43 ⟨by decide, by decide, by decide +kernel⟩ ⟨rfl, rfl, by show d8 + 1 ≤ 12; omega, by show 8 + (1 + 11) + 37 * d8 ≤ 452; omega⟩ (n := 0) rfl hl.1 rfl (Nat.le_of_ble_eq_true rfl) dL_law_590 ⟨by show cells + mc + 0 ≤ 601024; omega, by show slots + ms + 0 ≤ 7293033; omega⟩) hS (fun r8 H locs hp8 hS hz7 => ?_)
  obtain ⟨hans8, f1, g1, hM1, hR1, hf0⟩ := hp8
  refine mi_top (v' := .int a) (by rw [hans8 rfl]) ?_
  obtain ⟨cf2, hW2, hm2, hs2⟩ := hM1
  refine lv_icmp_eq (tgt := 1433) S9.1 S9.2.1 dL_law_593 (by decide) (fun _ => ?_) (fun z => absurd rfl z)
  refine W.widen (k := cells + 6) (n := slots + 2019) (by omega) (by omega) ?_
  exact K S H locs ls hO ⟨ad1, cf2, f1, g1, _, hW2, hX1.same hO (fun r hr => ⟨hs2 r (Or.inl (by omega)), rfl⟩), hR1, hm2, (hs2 1500 (Or.inl (by omega))).trans c15, hq0, hq1, hq2⟩ hS (lv_sub hl [0, 1, 2, 3, 4] rfl)
set_option maxHeartbeats 4000000 in
set_option maxRecDepth 100000 in
theorem lw_case_8 {p : Program} {l : Launch} {e : Env} {s : State} {m : MethodId} {below : List Frame} {meth : Method} {c : Code} {b L : Nat} {xs : Nat → Int32} {D : va_G} (hst : l.stackTraces = false) (S9 : CallFix p m c cL_law 7 s #[Value.ref b] (lw_w0 :: mi_G) RL) (hX9 : va_X b L xs s s.heap) (hbl : b < s.heap.size) (hL : L ≤ 2048) (E : mi_E D (fun q => s.heap.size ≤ q) s) {S : sT} (hO : st_ok S) {q0 q1 q2 i cells slots : Nat} {H : Heap} {locs : List Loc} {ls : Array Slot} (hi : i + 4 ≤ L) (hI : lw_I D (fun q => s.heap.size ≤ q) S q0 q1 q2 H) (hS : va_S (fun q => s.heap.size ≤ q) s.heap H locs) (hl : lv_has ls 7 [(4, .int (nI i)), (0, .ref b), (1, .ref q0), (2, .ref q1), (3, .ref q2)]) (hcc : cells + 6 ≤ 601024) (hss : slots + 2019 ≤ 7293033) (K : ∀ (S1 : sT) (H : Heap) (locs : List Loc) (ls : Array Slot), st_ok S1 → lw_I D (fun q => s.heap.size ≤ q) S1 q0 q1 q2 H → va_S (fun q => s.heap.size ≤ q) s.heap H locs → lv_has ls 7 [(4, .int (nI i)), (0, .ref b), (1, .ref q0), (2, .ref q1), (3, .ref q2)] → W p l e room_1 s m #[Value.ref b] below meth c H locs (cells + 6) (slots + 2019) (lw_Z below #[Value.ref b] s) (F0 m 1433 ls [])) : W p l e room_1 s m #[Value.ref b] below meth c H locs cells slots (lw_Z below #[Value.ref b] s) (F0 m 598 ls []) := by
  obtain ⟨ad, cf, f, g, o, hW, hX, hR, hm, ho, ea, eb, ec⟩ := hI
  obtain ⟨a, hC, hM⟩ := lw_o_pieces l D (fun q => s.heap.size ≤ q) hst (fun a b h1 h2 => Nat.le_trans h1 h2) hO hR
  refine lv_aload_n S9.1 S9.2.1 dL_law_598 rfl (lv_at hl 2 rfl) ?_
  obtain ⟨hk0, d9, mc, ms, hd9, hmc, hms, hC9⟩ := (hC ad cf hX).resolve_right (fun h => h.1 rfl)
  have hr9 := hW.recv E hX.o0.choose_spec rfl
  rw [ea] at hC9 hr9
  refine mi_cMi (mi_runV (P := mi_W D (fun q => s.heap.size ≤ q) ad cf) (As := []) (rest := []) S9 E hS hW q0 hC9 hr9 mw_227 mw_224 mw_225 mw_226 mw_33 ⟨by decide, by decide, by decide +kernel⟩ ⟨rfl, rfl, by show d9 + 1 ≤ 12; omega, by show 8 + (1 + 11) + 37 * d9 ≤ 452; omega⟩ (n := 0) rfl hl.1 rfl (Nat.le_of_ble_eq_true rfl) dL_law_599 ⟨by show cells + mc ≤ 601024; omega, by show slots + ms ≤ 7293033; omega⟩) hS (fun r9 H locs hp9 hS hz8 => ?_)
  obtain ⟨e9, ad1, cf1, hW, hX1, hf1, h00⟩ := hp9
  refine mi_top (v' := .int a) (by rw [e9]) ?_
  have hq0 : ad1 0 = q0 := h00.trans ea
  have hq1 : ad1 1000020 = q1 := ((hf1 1000020 (by omega)).2).trans eb
  have hq2 : ad1 1500 = q2 := ((hf1 1500 (by omega)).2).trans ec
  have c15 := ((hf1 1500 (by omega)).1).trans ho
  have hMo : mo_W D (fun q => s.heap.size ≤ q) ad1 cf1 f g H := ⟨cf1, hW, mo_at_keep hm (fun r hr => hf1 r (by omega)), fun r _ => rfl⟩
  obtain ⟨d8, hd8, hM9⟩ := hM ad1 cf1
  refine lv_aload_n S9.1 S9.2.1 dL_law_602 rfl (lv_at hl 3 rfl) ?_
  have hr8 := hMo.recv E
  rw [hq1] at hM9 hr8
  refine mi_cMi (mi_runV (P := mo_W D (fun q => s.heap.size ≤ q) ad1 cf1 f g) (As := []) (rest := [.int a]) S9 E hS hMo q1 hM9 hr8 mw_795 mw_792 mw_793 mw_794 mw_43 ⟨by decide, by decide, by decide +kernel⟩ ⟨rfl, rfl, by show d8 + 1 ≤ 12; omega, by show 8 + (1 + 11) + 37 * d8 ≤ 452; omega⟩ (n := 0) rfl hl.1 rfl (Nat.le_of_ble_eq_true rfl) dL_law_603 ⟨by show cells + mc + 0 ≤ 601024; omega, by show slots + ms + 0 ≤ 7293033; omega⟩) hS (fun r8 H locs hp8 hS hz7 => ?_)
  obtain ⟨hans8, f1, g1, hM1, hR1, hf0⟩ := hp8
  refine mi_top (v' := .int a) (by rw [hans8 rfl]) ?_
  obtain ⟨cf2, hW2, hm2, hs2⟩ := hM1
  refine lv_icmp_eq (tgt := 1433) S9.1 S9.2.1 dL_law_606 (by decide) (fun _ => ?_) (fun z => absurd rfl z)
  refine W.widen (k := cells + 6) (n := slots + 2019) (by omega) (by omega) ?_
  exact K S H locs ls hO ⟨ad1, cf2, f1, g1, _, hW2, hX1.same hO (fun r hr => ⟨hs2 r (Or.inl (by omega)), rfl⟩), hR1, hm2, (hs2 1500 (Or.inl (by omega))).trans c15, hq0, hq1, hq2⟩ hS (lv_sub hl [0, 1, 2, 3, 4] rfl)
set_option maxHeartbeats 4000000 in
set_option maxRecDepth 100000 in
theorem lw_case_9 {p : Program} {l : Launch} {e : Env} {s : State} {m : MethodId} {below : List Frame} {meth : Method} {c : Code} {b L : Nat} {xs : Nat → Int32} {D : va_G} (hst : l.stackTraces = false) (S9 : CallFix p m c cL_law 7 s #[Value.ref b] (lw_w0 :: mi_G) RL) (hX9 : va_X b L xs s s.heap) (hbl : b < s.heap.size) (hL : L ≤ 2048) (E : mi_E D (fun q => s.heap.size ≤ q) s) {S : sT} (hO : st_ok S) {q0 q1 q2 i cells slots : Nat} {H : Heap} {locs : List Loc} {ls : Array Slot} (hi : i + 4 ≤ L) (hI : lw_I D (fun q => s.heap.size ≤ q) S q0 q1 q2 H) (hS : va_S (fun q => s.heap.size ≤ q) s.heap H locs) (hl : lv_has ls 7 [(4, .int (nI i)), (0, .ref b), (1, .ref q0), (2, .ref q1), (3, .ref q2)]) (hcc : cells + 6 ≤ 601024) (hss : slots + 2019 ≤ 7293033) (K : ∀ (S1 : sT) (H : Heap) (locs : List Loc) (ls : Array Slot), st_ok S1 → lw_I D (fun q => s.heap.size ≤ q) S1 q0 q1 q2 H → va_S (fun q => s.heap.size ≤ q) s.heap H locs → lv_has ls 7 [(4, .int (nI i)), (0, .ref b), (1, .ref q0), (2, .ref q1), (3, .ref q2)] → W p l e room_1 s m #[Value.ref b] below meth c H locs (cells + 6) (slots + 2019) (lw_Z below #[Value.ref b] s) (F0 m 1433 ls [])) : W p l e room_1 s m #[Value.ref b] below meth c H locs cells slots (lw_Z below #[Value.ref b] s) (F0 m 611 ls []) := by
  obtain ⟨ad, cf, f, g, o, hW, hX, hR, hm, ho, ea, eb, ec⟩ := hI
  obtain ⟨k, a, S1, hk3, hO1, hC, hM⟩ := lw_o_height l D (fun q => s.heap.size ≤ q) hst (fun a b h1 h2 => Nat.le_trans h1 h2) hO hR (xs (i + 1))
  refine lv_aload_n S9.1 S9.2.1 dL_law_611 rfl (lv_at hl 2 rfl) ?_
  refine lv_aload_n S9.1 S9.2.1 dL_law_612 rfl (lv_at hl 1 rfl) ?_
  refine lv_iload S9.1 S9.2.1 dL_law_613 (lv_at hl 0 rfl) ?_
  refine lv_iconst (v := nI 1) S9.1 S9.2.1 dL_law_615 (by decide) ?_
  refine mi_iadd S9 dL_law_616 ?_
  refine lw_sld S9 hX9 hbl hS (by omega) hL dL_law_617 ?_
  refine lv_aload_n S9.1 S9.2.1 dL_law_618 rfl (lv_at hl 4 rfl) ?_
  have hH := c_Lheight l D (fun q => s.heap.size ≤ q) hk3 ho hX.o0 hO1 (hC ad cf hX)
  rw [ea, ec] at hH
  refine mi_cMi (mi_runSH (P := mi_W D (fun q => s.heap.size ≤ q) ad cf) (As := [.ref q0, .int (xs (i + 1)), .ref q2]) (rest := []) S9 E hS hW hH mw_474 mw_472 mw_473 mw_32 ⟨by decide, by decide, by decide +kernel⟩ ⟨rfl, rfl, Nat.le_of_ble_eq_true rfl, Nat.le_of_ble_eq_true rfl⟩ (n := 3) rfl hl.1 rfl (Nat.le_of_ble_eq_true rfl) dL_law_619 ⟨by show cells + 6 ≤ 601024; omega, by show slots + 2019 ≤ 7293033; omega⟩) hS (fun r9 H locs hp9 hS hz8 => ?_)
  obtain ⟨e9, ad1, cf1, o1, hW, hX1, hf1, h15, h00, c15, hans⟩ := hp9
  refine mi_top (v' := .int (nI k)) (by rw [e9]) ?_
  refine lv_istore (lv' := [(5, .int (nI k)), (4, .int (nI i)), (0, .ref b), (1, .ref q0), (2, .ref q1), (3, .ref q2)]) S9.1 S9.2.1 dL_law_622 hl (by decide) rfl (fun ls hl => ?_)
  have hq0 : ad1 0 = q0 := h00.trans ea
  have hq1 : ad1 1000020 = q1 := ((hf1 1000020 (by omega) (by omega)).2).trans eb
  have hq2 : ad1 1500 = q2 := h15.trans ec
  have hMo : mo_W D (fun q => s.heap.size ≤ q) ad1 cf1 f g H := ⟨cf1, hW, mo_at_keep hm (fun r hr => hf1 r (by omega) (by omega)), fun r _ => rfl⟩
  obtain ⟨d9, hd9, hM9⟩ := hM ad1 cf1
  refine lv_aload_n S9.1 S9.2.1 dL_law_624 rfl (lv_at hl 4 rfl) ?_
  refine lv_aload_n S9.1 S9.2.1 dL_law_625 rfl (lv_at hl 2 rfl) ?_
  refine lv_iload S9.1 S9.2.1 dL_law_626 (lv_at hl 1 rfl) ?_
  refine lv_iconst (v := nI 1) S9.1 S9.2.1 dL_law_628 (by decide) ?_
  refine mi_iadd S9 dL_law_629 ?_
  refine lw_sld S9 hX9 hbl hS (by omega) hL dL_law_630 ?_
  have hr8 := hMo.recv E
  rw [hq1] at hM9 hr8
  refine mi_cMi (mi_runV (P := mo_W D (fun q => s.heap.size ≤ q) ad1 cf1 f g) (As := [.int (xs (i + 1))]) (rest := []) S9 E hS hMo q1 hM9 hr8 mw_811 mw_808 mw_809 mw_810 mw_43 ⟨by decide, by decide, by decide +kernel⟩ ⟨rfl, rfl, by show d9 + 1 ≤ 12; omega, by show 8 + (2 + 11) + 37 * d9 ≤ 452; omega⟩ (n := 1) rfl hl.1 rfl (Nat.le_of_ble_eq_true rfl) dL_law_631 ⟨by show cells + 6 + 0 ≤ 601024; omega, by show slots + 2019 + 0 ≤ 7293033; omega⟩) hS (fun r8 H locs hp8 hS hz7 => ?_)
  obtain ⟨hans8, f1, g1, hM1, hR1, hf0⟩ := hp8
  refine lv_istore (lv' := [(6, .int r8), (5, .int (nI k)), (4, .int (nI i)), (0, .ref b), (1, .ref q0), (2, .ref q1), (3, .ref q2)]) S9.1 S9.2.1 dL_law_634 hl (by decide) rfl (fun ls hl => ?_)
  refine lv_aload_n S9.1 S9.2.1 dL_law_636 rfl (lv_at hl 5 rfl) ?_
  have hT := c_mthrown l D (fun q => s.heap.size ≤ q) (cf0 := cf1) (ad := ad1) (g := g1) hf0
  have hr7 := hM1.recv E
  rw [hq1] at hT hr7
  refine mi_cR (mi_runV (P := mo_W D (fun q => s.heap.size ≤ q) ad1 cf1 f1 g1) (As := []) (rest := []) S9 E hS hM1 q1 hT hr7 mw_726 mw_723 mw_724 mw_725 mw_43 ⟨by decide, by decide, by decide +kernel⟩ ⟨rfl, rfl, Nat.le_of_ble_eq_true rfl, Nat.le_of_ble_eq_true rfl⟩ (n := 0) rfl hl.1 rfl (Nat.le_of_ble_eq_true rfl) dL_law_637 ⟨by show cells + 6 + 0 + 0 ≤ 601024; omega, by show slots + 2019 + 0 + 0 ≤ 7293033; omega⟩) (fun r7 e7 => ?_)
  refine mi_top (v' := .int (nI k)) (by rw [e7]) ?_
  refine lv_iload S9.1 S9.2.1 dL_law_640 (lv_at hl 1 rfl) ?_
  refine mi_icmp_eq (tgt := 647) S9 (by omega) (by omega) dL_law_642 (by decide) (fun _ => ?_) (fun z => absurd rfl z)
  obtain ⟨cf2, hW2, hm2, hs2⟩ := hM1
  refine lv_iload S9.1 S9.2.1 dL_law_647 (lv_at hl 1 rfl) ?_
  refine mi_if_ne (tgt := 664) S9 (by omega) dL_law_649 (by decide) (fun c1 => ?_) (fun c1 => ?_)
  · refine lv_goto (tgt := 1433) S9.1 S9.2.1 dL_law_664 (by decide) ?_
    exact K S1 H locs ls hO1 ⟨ad1, cf2, f1, g1, _, hW2, hX1.same hO1 (fun r hr => ⟨hs2 r (Or.inl (by omega)), rfl⟩), hR1, hm2, (hs2 1500 (Or.inl (by omega))).trans c15, hq0, hq1, hq2⟩ hS (lv_sub hl [2, 3, 4, 5, 6] rfl)
  · refine lv_aload_n S9.1 S9.2.1 dL_law_652 rfl (lv_at hl 6 rfl) ?_
    refine lv_iconst (v := nI 0) S9.1 S9.2.1 dL_law_653 (by decide) ?_
    refine mi_lald S9 E hW2 1500 hq2 ((hs2 1500 (Or.inl (by omega))).trans c15) (by omega) (by omega) dL_law_654 ?_
    refine mi_top (v' := .long a.toInt64) (by rw [hans c1]) ?_
    refine lv_iload S9.1 S9.2.1 dL_law_655 (lv_at hl 0 rfl) ?_
    refine mi_top (v' := .int a) (by rw [hans8 c1]) ?_
    refine lv_i2l (v := a.toInt64) S9.1 S9.2.1 dL_law_657 rfl ?_
    refine W.lcmp S9.1 S9.2.1 dL_law_658 ?_
    refine mi_top (v' := .int (nI 0)) (congrArg Value.int (lw_cmp a.toInt64)) ?_
    refine mi_if_eq (tgt := 664) S9 (a := 0) (by omega) dL_law_659 (by decide) (fun _ => ?_) (fun z => absurd rfl z)
    refine lv_goto (tgt := 1433) S9.1 S9.2.1 dL_law_664 (by decide) ?_
    exact K S1 H locs ls hO1 ⟨ad1, cf2, f1, g1, _, hW2, hX1.same hO1 (fun r hr => ⟨hs2 r (Or.inl (by omega)), rfl⟩), hR1, hm2, (hs2 1500 (Or.inl (by omega))).trans c15, hq0, hq1, hq2⟩ hS (lv_sub hl [2, 3, 4, 5, 6] rfl)
set_option maxHeartbeats 4000000 in
set_option maxRecDepth 100000 in
theorem lw_case_10 {p : Program} {l : Launch} {e : Env} {s : State} {m : MethodId} {below : List Frame} {meth : Method} {c : Code} {b L : Nat} {xs : Nat → Int32} {D : va_G} (hst : l.stackTraces = false) (S9 : CallFix p m c cL_law 7 s #[Value.ref b] (lw_w0 :: mi_G) RL) (hX9 : va_X b L xs s s.heap) (hbl : b < s.heap.size) (hL : L ≤ 2048) (E : mi_E D (fun q => s.heap.size ≤ q) s) {S : sT} (hO : st_ok S) {q0 q1 q2 i cells slots : Nat} {H : Heap} {locs : List Loc} {ls : Array Slot} (hi : i + 4 ≤ L) (hI : lw_I D (fun q => s.heap.size ≤ q) S q0 q1 q2 H) (hS : va_S (fun q => s.heap.size ≤ q) s.heap H locs) (hl : lv_has ls 7 [(4, .int (nI i)), (0, .ref b), (1, .ref q0), (2, .ref q1), (3, .ref q2)]) (hcc : cells + 6 ≤ 601024) (hss : slots + 2019 ≤ 7293033) (K : ∀ (S1 : sT) (H : Heap) (locs : List Loc) (ls : Array Slot), st_ok S1 → lw_I D (fun q => s.heap.size ≤ q) S1 q0 q1 q2 H → va_S (fun q => s.heap.size ≤ q) s.heap H locs → lv_has ls 7 [(4, .int (nI i)), (0, .ref b), (1, .ref q0), (2, .ref q1), (3, .ref q2)] → W p l e room_1 s m #[Value.ref b] below meth c H locs (cells + 6) (slots + 2019) (lw_Z below #[Value.ref b] s) (F0 m 1433 ls [])) : W p l e room_1 s m #[Value.ref b] below meth c H locs cells slots (lw_Z below #[Value.ref b] s) (F0 m 667 ls []) := by
  obtain ⟨ad, cf, f, g, o, hW, hX, hR, hm, ho, ea, eb, ec⟩ := hI
  obtain ⟨a, hC, hM⟩ := lw_o_state l D (fun q => s.heap.size ≤ q) hst (fun a b h1 h2 => Nat.le_trans h1 h2) hO hR
  refine lv_aload_n S9.1 S9.2.1 dL_law_667 rfl (lv_at hl 2 rfl) ?_
  obtain ⟨hk0, d9, mc, ms, hd9, hmc, hms, hC9⟩ := (hC ad cf hX).resolve_right (fun h => h.1 rfl)
  have hr9 := hW.recv E hX.o0.choose_spec rfl
  rw [ea] at hC9 hr9
  refine mi_cMi (mi_runV (P := mi_W D (fun q => s.heap.size ≤ q) ad cf) (As := []) (rest := []) S9 E hS hW q0 hC9 hr9 mw_253 mw_250 mw_251 mw_252 mw_33 ⟨by decide, by decide, by decide +kernel⟩ ⟨rfl, rfl, by show d9 + 1 ≤ 12; omega, by show 8 + (1 + 11) + 37 * d9 ≤ 452; omega⟩ (n := 0) rfl hl.1 rfl (Nat.le_of_ble_eq_true rfl) dL_law_668 ⟨by show cells + mc ≤ 601024; omega, by show slots + ms ≤ 7293033; omega⟩) hS (fun r9 H locs hp9 hS hz8 => ?_)
  obtain ⟨e9, ad1, cf1, hW, hX1, hf1, h00⟩ := hp9
  refine mi_top (v' := .int a) (by rw [e9]) ?_
  have hq0 : ad1 0 = q0 := h00.trans ea
  have hq1 : ad1 1000020 = q1 := ((hf1 1000020 (by omega)).2).trans eb
  have hq2 : ad1 1500 = q2 := ((hf1 1500 (by omega)).2).trans ec
  have c15 := ((hf1 1500 (by omega)).1).trans ho
  have hMo : mo_W D (fun q => s.heap.size ≤ q) ad1 cf1 f g H := ⟨cf1, hW, mo_at_keep hm (fun r hr => hf1 r (by omega)), fun r _ => rfl⟩
  obtain ⟨d8, hd8, hM9⟩ := hM ad1 cf1
  refine lv_aload_n S9.1 S9.2.1 dL_law_671 rfl (lv_at hl 3 rfl) ?_
  have hr8 := hMo.recv E
  rw [hq1] at hM9 hr8
  refine mi_cMi (mi_runV (P := mo_W D (fun q => s.heap.size ≤ q) ad1 cf1 f g) (As := []) (rest := [.int a]) S9 E hS hMo q1 hM9 hr8 mw_819 mw_816 mw_817 mw_818 mw_43 ⟨by decide, by decide, by decide +kernel⟩ ⟨rfl, rfl, by show d8 + 1 ≤ 12; omega, by show 8 + (1 + 11) + 37 * d8 ≤ 452; omega⟩ (n := 0) rfl hl.1 rfl (Nat.le_of_ble_eq_true rfl) dL_law_672 ⟨by show cells + mc + 0 ≤ 601024; omega, by show slots + ms + 0 ≤ 7293033; omega⟩) hS (fun r8 H locs hp8 hS hz7 => ?_)
  obtain ⟨hans8, f1, g1, hM1, hR1, hf0⟩ := hp8
  refine mi_top (v' := .int a) (by rw [hans8 rfl]) ?_
  obtain ⟨cf2, hW2, hm2, hs2⟩ := hM1
  refine lv_icmp_eq (tgt := 1433) S9.1 S9.2.1 dL_law_675 (by decide) (fun _ => ?_) (fun z => absurd rfl z)
  refine W.widen (k := cells + 6) (n := slots + 2019) (by omega) (by omega) ?_
  exact K S H locs ls hO ⟨ad1, cf2, f1, g1, _, hW2, hX1.same hO (fun r hr => ⟨hs2 r (Or.inl (by omega)), rfl⟩), hR1, hm2, (hs2 1500 (Or.inl (by omega))).trans c15, hq0, hq1, hq2⟩ hS (lv_sub hl [0, 1, 2, 3, 4] rfl)
set_option maxHeartbeats 4000000 in
set_option maxRecDepth 100000 in
theorem lw_case_11 {p : Program} {l : Launch} {e : Env} {s : State} {m : MethodId} {below : List Frame} {meth : Method} {c : Code} {b L : Nat} {xs : Nat → Int32} {D : va_G} (hst : l.stackTraces = false) (S9 : CallFix p m c cL_law 7 s #[Value.ref b] (lw_w0 :: mi_G) RL) (hX9 : va_X b L xs s s.heap) (hbl : b < s.heap.size) (hL : L ≤ 2048) (E : mi_E D (fun q => s.heap.size ≤ q) s) {S : sT} (hO : st_ok S) {q0 q1 q2 i cells slots : Nat} {H : Heap} {locs : List Loc} {ls : Array Slot} (hi : i + 4 ≤ L) (hI : lw_I D (fun q => s.heap.size ≤ q) S q0 q1 q2 H) (hS : va_S (fun q => s.heap.size ≤ q) s.heap H locs) (hl : lv_has ls 7 [(4, .int (nI i)), (0, .ref b), (1, .ref q0), (2, .ref q1), (3, .ref q2)]) (hcc : cells + 6 ≤ 601024) (hss : slots + 2019 ≤ 7293033) (K : ∀ (S1 : sT) (H : Heap) (locs : List Loc) (ls : Array Slot), st_ok S1 → lw_I D (fun q => s.heap.size ≤ q) S1 q0 q1 q2 H → va_S (fun q => s.heap.size ≤ q) s.heap H locs → lv_has ls 7 [(4, .int (nI i)), (0, .ref b), (1, .ref q0), (2, .ref q1), (3, .ref q2)] → W p l e room_1 s m #[Value.ref b] below meth c H locs (cells + 6) (slots + 2019) (lw_Z below #[Value.ref b] s) (F0 m 1433 ls [])) : W p l e room_1 s m #[Value.ref b] below meth c H locs cells slots (lw_Z below #[Value.ref b] s) (F0 m 680 ls []) := by
  obtain ⟨ad, cf, f, g, o, hW, hX, hR, hm, ho, ea, eb, ec⟩ := hI
  obtain ⟨a, hC, hM⟩ := lw_o_states l D (fun q => s.heap.size ≤ q) hst (fun a b h1 h2 => Nat.le_trans h1 h2) hO hR
  refine lv_aload_n S9.1 S9.2.1 dL_law_680 rfl (lv_at hl 2 rfl) ?_
  obtain ⟨hk0, d9, mc, ms, hd9, hmc, hms, hC9⟩ := (hC ad cf hX).resolve_right (fun h => h.1 rfl)
  have hr9 := hW.recv E hX.o0.choose_spec rfl
  rw [ea] at hC9 hr9
  refine mi_cMi (mi_runV (P := mi_W D (fun q => s.heap.size ≤ q) ad cf) (As := []) (rest := []) S9 E hS hW q0 hC9 hr9 mw_257 mw_254 mw_255 mw_256 mw_33 ⟨by decide, by decide, by decide +kernel⟩ ⟨rfl, rfl, by show d9 + 1 ≤ 12; omega, by show 8 + (1 + 11) + 37 * d9 ≤ 452; omega⟩ (n := 0) rfl hl.1 rfl (Nat.le_of_ble_eq_true rfl) dL_law_681 ⟨by show cells + mc ≤ 601024; omega, by show slots + ms ≤ 7293033; omega⟩) hS (fun r9 H locs hp9 hS hz8 => ?_)
  obtain ⟨e9, ad1, cf1, hW, hX1, hf1, h00⟩ := hp9
  refine mi_top (v' := .int a) (by rw [e9]) ?_
  have hq0 : ad1 0 = q0 := h00.trans ea
  have hq1 : ad1 1000020 = q1 := ((hf1 1000020 (by omega)).2).trans eb
  have hq2 : ad1 1500 = q2 := ((hf1 1500 (by omega)).2).trans ec
  have c15 := ((hf1 1500 (by omega)).1).trans ho
  have hMo : mo_W D (fun q => s.heap.size ≤ q) ad1 cf1 f g H := ⟨cf1, hW, mo_at_keep hm (fun r hr => hf1 r (by omega)), fun r _ => rfl⟩
  obtain ⟨d8, hd8, hM9⟩ := hM ad1 cf1
  refine lv_aload_n S9.1 S9.2.1 dL_law_684 rfl (lv_at hl 3 rfl) ?_
  have hr8 := hMo.recv E
  rw [hq1] at hM9 hr8
  refine mi_cMi (mi_runV (P := mo_W D (fun q => s.heap.size ≤ q) ad1 cf1 f g) (As := []) (rest := [.int a]) S9 E hS hMo q1 hM9 hr8 mw_823 mw_820 mw_821 mw_822 mw_43 ⟨by decide, by decide, by decide +kernel⟩ ⟨rfl, rfl, by show d8 + 1 ≤ 12; omega, by show 8 + (1 + 11) + 37 * d8 ≤ 452; omega⟩ (n := 0) rfl hl.1 rfl (Nat.le_of_ble_eq_true rfl) dL_law_685 ⟨by show cells + mc + 0 ≤ 601024; omega, by show slots + ms + 0 ≤ 7293033; omega⟩) hS (fun r8 H locs hp8 hS hz7 => ?_)
  obtain ⟨hans8, f1, g1, hM1, hR1, hf0⟩ := hp8
  refine mi_top (v' := .int a) (by rw [hans8 rfl]) ?_
  obtain ⟨cf2, hW2, hm2, hs2⟩ := hM1
  refine lv_icmp_eq (tgt := 1433) S9.1 S9.2.1 dL_law_688 (by decide) (fun _ => ?_) (fun z => absurd rfl z)
  refine W.widen (k := cells + 6) (n := slots + 2019) (by omega) (by omega) ?_
  exact K S H locs ls hO ⟨ad1, cf2, f1, g1, _, hW2, hX1.same hO (fun r hr => ⟨hs2 r (Or.inl (by omega)), rfl⟩), hR1, hm2, (hs2 1500 (Or.inl (by omega))).trans c15, hq0, hq1, hq2⟩ hS (lv_sub hl [0, 1, 2, 3, 4] rfl)
set_option maxHeartbeats 4000000 in
set_option maxRecDepth 100000 in
theorem lw_case_12 {p : Program} {l : Launch} {e : Env} {s : State} {m : MethodId} {below : List Frame} {meth : Method} {c : Code} {b L : Nat} {xs : Nat → Int32} {D : va_G} (hst : l.stackTraces = false) (S9 : CallFix p m c cL_law 7 s #[Value.ref b] (lw_w0 :: mi_G) RL) (hX9 : va_X b L xs s s.heap) (hbl : b < s.heap.size) (hL : L ≤ 2048) (E : mi_E D (fun q => s.heap.size ≤ q) s) {S : sT} (hO : st_ok S) {q0 q1 q2 i cells slots : Nat} {H : Heap} {locs : List Loc} {ls : Array Slot} (hi : i + 4 ≤ L) (hI : lw_I D (fun q => s.heap.size ≤ q) S q0 q1 q2 H) (hS : va_S (fun q => s.heap.size ≤ q) s.heap H locs) (hl : lv_has ls 7 [(4, .int (nI i)), (0, .ref b), (1, .ref q0), (2, .ref q1), (3, .ref q2)]) (hcc : cells + 6 ≤ 601024) (hss : slots + 2019 ≤ 7293033) (K : ∀ (S1 : sT) (H : Heap) (locs : List Loc) (ls : Array Slot), st_ok S1 → lw_I D (fun q => s.heap.size ≤ q) S1 q0 q1 q2 H → va_S (fun q => s.heap.size ≤ q) s.heap H locs → lv_has ls 7 [(4, .int (nI i)), (0, .ref b), (1, .ref q0), (2, .ref q1), (3, .ref q2)] → W p l e room_1 s m #[Value.ref b] below meth c H locs (cells + 6) (slots + 2019) (lw_Z below #[Value.ref b] s) (F0 m 1433 ls [])) : W p l e room_1 s m #[Value.ref b] below meth c H locs cells slots (lw_Z below #[Value.ref b] s) (F0 m 693 ls []) := by
  obtain ⟨ad, cf, f, g, o, hW, hX, hR, hm, ho, ea, eb, ec⟩ := hI
  obtain ⟨k, a, S1, hk3, hO1, hC, hM⟩ := lw_o_visit l D (fun q => s.heap.size ≤ q) hst (fun a b h1 h2 => Nat.le_trans h1 h2) hO hR (xs (i + 1))
  refine lv_aload_n S9.1 S9.2.1 dL_law_693 rfl (lv_at hl 2 rfl) ?_
  refine lv_aload_n S9.1 S9.2.1 dL_law_694 rfl (lv_at hl 1 rfl) ?_
  refine lv_iload S9.1 S9.2.1 dL_law_695 (lv_at hl 0 rfl) ?_
  refine lv_iconst (v := nI 1) S9.1 S9.2.1 dL_law_697 (by decide) ?_
  refine mi_iadd S9 dL_law_698 ?_
  refine lw_sld S9 hX9 hbl hS (by omega) hL dL_law_699 ?_
  refine lv_aload_n S9.1 S9.2.1 dL_law_700 rfl (lv_at hl 4 rfl) ?_
  have hH := c_Lvisit l D (fun q => s.heap.size ≤ q) hk3 ho hX.o0 hO1 (hC ad cf hX)
  rw [ea, ec] at hH
  refine mi_cMi (mi_runSH (P := mi_W D (fun q => s.heap.size ≤ q) ad cf) (As := [.ref q0, .int (xs (i + 1)), .ref q2]) (rest := []) S9 E hS hW hH mw_485 mw_483 mw_484 mw_32 ⟨by decide, by decide, by decide +kernel⟩ ⟨rfl, rfl, Nat.le_of_ble_eq_true rfl, Nat.le_of_ble_eq_true rfl⟩ (n := 3) rfl hl.1 rfl (Nat.le_of_ble_eq_true rfl) dL_law_701 ⟨by show cells + 6 ≤ 601024; omega, by show slots + 2019 ≤ 7293033; omega⟩) hS (fun r9 H locs hp9 hS hz8 => ?_)
  obtain ⟨e9, ad1, cf1, o1, hW, hX1, hf1, h15, h00, c15, hans⟩ := hp9
  refine mi_top (v' := .int (nI k)) (by rw [e9]) ?_
  refine lv_istore (lv' := [(5, .int (nI k)), (4, .int (nI i)), (0, .ref b), (1, .ref q0), (2, .ref q1), (3, .ref q2)]) S9.1 S9.2.1 dL_law_704 hl (by decide) rfl (fun ls hl => ?_)
  have hq0 : ad1 0 = q0 := h00.trans ea
  have hq1 : ad1 1000020 = q1 := ((hf1 1000020 (by omega) (by omega)).2).trans eb
  have hq2 : ad1 1500 = q2 := h15.trans ec
  have hMo : mo_W D (fun q => s.heap.size ≤ q) ad1 cf1 f g H := ⟨cf1, hW, mo_at_keep hm (fun r hr => hf1 r (by omega) (by omega)), fun r _ => rfl⟩
  obtain ⟨d9, hd9, hM9⟩ := hM ad1 cf1
  refine lv_aload_n S9.1 S9.2.1 dL_law_706 rfl (lv_at hl 4 rfl) ?_
  refine lv_aload_n S9.1 S9.2.1 dL_law_707 rfl (lv_at hl 2 rfl) ?_
  refine lv_iload S9.1 S9.2.1 dL_law_708 (lv_at hl 1 rfl) ?_
  refine lv_iconst (v := nI 1) S9.1 S9.2.1 dL_law_710 (by decide) ?_
  refine mi_iadd S9 dL_law_711 ?_
  refine lw_sld S9 hX9 hbl hS (by omega) hL dL_law_712 ?_
  have hr8 := hMo.recv E
  rw [hq1] at hM9 hr8
  refine mi_cMi (mi_runV (P := mo_W D (fun q => s.heap.size ≤ q) ad1 cf1 f g) (As := [.int (xs (i + 1))]) (rest := []) S9 E hS hMo q1 hM9 hr8 mw_827 mw_824 mw_825 mw_826 mw_43 ⟨by decide, by decide, by decide +kernel⟩ ⟨rfl, rfl, by show d9 + 1 ≤ 12; omega, by show 8 + (3 + 11) + 37 * d9 ≤ 452; omega⟩ (n := 1) rfl hl.1 rfl (Nat.le_of_ble_eq_true rfl) dL_law_713 ⟨by show cells + 6 + 0 ≤ 601024; omega, by show slots + 2019 + 0 ≤ 7293033; omega⟩) hS (fun r8 H locs hp8 hS hz7 => ?_)
  obtain ⟨hans8, f1, g1, hM1, hR1, hf0⟩ := hp8
  refine lv_istore (lv' := [(6, .int r8), (5, .int (nI k)), (4, .int (nI i)), (0, .ref b), (1, .ref q0), (2, .ref q1), (3, .ref q2)]) S9.1 S9.2.1 dL_law_716 hl (by decide) rfl (fun ls hl => ?_)
  refine lv_aload_n S9.1 S9.2.1 dL_law_718 rfl (lv_at hl 5 rfl) ?_
  have hT := c_mthrown l D (fun q => s.heap.size ≤ q) (cf0 := cf1) (ad := ad1) (g := g1) hf0
  have hr7 := hM1.recv E
  rw [hq1] at hT hr7
  refine mi_cR (mi_runV (P := mo_W D (fun q => s.heap.size ≤ q) ad1 cf1 f1 g1) (As := []) (rest := []) S9 E hS hM1 q1 hT hr7 mw_726 mw_723 mw_724 mw_725 mw_43 ⟨by decide, by decide, by decide +kernel⟩ ⟨rfl, rfl, Nat.le_of_ble_eq_true rfl, Nat.le_of_ble_eq_true rfl⟩ (n := 0) rfl hl.1 rfl (Nat.le_of_ble_eq_true rfl) dL_law_719 ⟨by show cells + 6 + 0 + 0 ≤ 601024; omega, by show slots + 2019 + 0 + 0 ≤ 7293033; omega⟩) (fun r7 e7 => ?_)
  refine mi_top (v' := .int (nI k)) (by rw [e7]) ?_
  refine lv_iload S9.1 S9.2.1 dL_law_722 (lv_at hl 1 rfl) ?_
  refine mi_icmp_eq (tgt := 729) S9 (by omega) (by omega) dL_law_724 (by decide) (fun _ => ?_) (fun z => absurd rfl z)
  obtain ⟨cf2, hW2, hm2, hs2⟩ := hM1
  refine lv_iload S9.1 S9.2.1 dL_law_729 (lv_at hl 1 rfl) ?_
  refine mi_if_ne (tgt := 746) S9 (by omega) dL_law_731 (by decide) (fun c1 => ?_) (fun c1 => ?_)
  · refine lv_goto (tgt := 1433) S9.1 S9.2.1 dL_law_746 (by decide) ?_
    exact K S1 H locs ls hO1 ⟨ad1, cf2, f1, g1, _, hW2, hX1.same hO1 (fun r hr => ⟨hs2 r (Or.inl (by omega)), rfl⟩), hR1, hm2, (hs2 1500 (Or.inl (by omega))).trans c15, hq0, hq1, hq2⟩ hS (lv_sub hl [2, 3, 4, 5, 6] rfl)
  · refine lv_aload_n S9.1 S9.2.1 dL_law_734 rfl (lv_at hl 6 rfl) ?_
    refine lv_iconst (v := nI 0) S9.1 S9.2.1 dL_law_735 (by decide) ?_
    refine mi_lald S9 E hW2 1500 hq2 ((hs2 1500 (Or.inl (by omega))).trans c15) (by omega) (by omega) dL_law_736 ?_
    refine mi_top (v' := .long a.toInt64) (by rw [hans c1]) ?_
    refine lv_iload S9.1 S9.2.1 dL_law_737 (lv_at hl 0 rfl) ?_
    refine mi_top (v' := .int a) (by rw [hans8 c1]) ?_
    refine lv_i2l (v := a.toInt64) S9.1 S9.2.1 dL_law_739 rfl ?_
    refine W.lcmp S9.1 S9.2.1 dL_law_740 ?_
    refine mi_top (v' := .int (nI 0)) (congrArg Value.int (lw_cmp a.toInt64)) ?_
    refine mi_if_eq (tgt := 746) S9 (a := 0) (by omega) dL_law_741 (by decide) (fun _ => ?_) (fun z => absurd rfl z)
    refine lv_goto (tgt := 1433) S9.1 S9.2.1 dL_law_746 (by decide) ?_
    exact K S1 H locs ls hO1 ⟨ad1, cf2, f1, g1, _, hW2, hX1.same hO1 (fun r hr => ⟨hs2 r (Or.inl (by omega)), rfl⟩), hR1, hm2, (hs2 1500 (Or.inl (by omega))).trans c15, hq0, hq1, hq2⟩ hS (lv_sub hl [2, 3, 4, 5, 6] rfl)
set_option maxHeartbeats 4000000 in
set_option maxRecDepth 100000 in
theorem lw_case_13 {p : Program} {l : Launch} {e : Env} {s : State} {m : MethodId} {below : List Frame} {meth : Method} {c : Code} {b L : Nat} {xs : Nat → Int32} {D : va_G} (hst : l.stackTraces = false) (S9 : CallFix p m c cL_law 7 s #[Value.ref b] (lw_w0 :: mi_G) RL) (hX9 : va_X b L xs s s.heap) (hbl : b < s.heap.size) (hL : L ≤ 2048) (E : mi_E D (fun q => s.heap.size ≤ q) s) {S : sT} (hO : st_ok S) {q0 q1 q2 i cells slots : Nat} {H : Heap} {locs : List Loc} {ls : Array Slot} (hi : i + 4 ≤ L) (hI : lw_I D (fun q => s.heap.size ≤ q) S q0 q1 q2 H) (hS : va_S (fun q => s.heap.size ≤ q) s.heap H locs) (hl : lv_has ls 7 [(4, .int (nI i)), (0, .ref b), (1, .ref q0), (2, .ref q1), (3, .ref q2)]) (hcc : cells + 6 ≤ 601024) (hss : slots + 2019 ≤ 7293033) (K : ∀ (S1 : sT) (H : Heap) (locs : List Loc) (ls : Array Slot), st_ok S1 → lw_I D (fun q => s.heap.size ≤ q) S1 q0 q1 q2 H → va_S (fun q => s.heap.size ≤ q) s.heap H locs → lv_has ls 7 [(4, .int (nI i)), (0, .ref b), (1, .ref q0), (2, .ref q1), (3, .ref q2)] → W p l e room_1 s m #[Value.ref b] below meth c H locs (cells + 6) (slots + 2019) (lw_Z below #[Value.ref b] s) (F0 m 1433 ls [])) : W p l e room_1 s m #[Value.ref b] below meth c H locs cells slots (lw_Z below #[Value.ref b] s) (F0 m 749 ls []) := by
  obtain ⟨ad, cf, f, g, o, hW, hX, hR, hm, ho, ea, eb, ec⟩ := hI
  obtain ⟨k, a, S1, hk3, hO1, hC, hM⟩ := lw_o_undo l D (fun q => s.heap.size ≤ q) hst (fun a b h1 h2 => Nat.le_trans h1 h2) hO hR 
  refine lv_aload_n S9.1 S9.2.1 dL_law_749 rfl (lv_at hl 2 rfl) ?_
  refine lv_aload_n S9.1 S9.2.1 dL_law_750 rfl (lv_at hl 4 rfl) ?_
  have hH := c_Lundo l D (fun q => s.heap.size ≤ q) hk3 ho hX.o0 hO1 (hC ad cf hX)
  rw [ea, ec] at hH
  refine mi_cMi (mi_runSH (P := mi_W D (fun q => s.heap.size ≤ q) ad cf) (As := [.ref q0, .ref q2]) (rest := []) S9 E hS hW hH mw_497 mw_495 mw_496 mw_32 ⟨by decide, by decide, by decide +kernel⟩ ⟨rfl, rfl, Nat.le_of_ble_eq_true rfl, Nat.le_of_ble_eq_true rfl⟩ (n := 2) rfl hl.1 rfl (Nat.le_of_ble_eq_true rfl) dL_law_751 ⟨by show cells + 6 ≤ 601024; omega, by show slots + 2019 ≤ 7293033; omega⟩) hS (fun r9 H locs hp9 hS hz8 => ?_)
  obtain ⟨e9, ad1, cf1, o1, hW, hX1, hf1, h15, h00, c15, hans⟩ := hp9
  refine mi_top (v' := .int (nI k)) (by rw [e9]) ?_
  refine lv_istore (lv' := [(5, .int (nI k)), (4, .int (nI i)), (0, .ref b), (1, .ref q0), (2, .ref q1), (3, .ref q2)]) S9.1 S9.2.1 dL_law_754 hl (by decide) rfl (fun ls hl => ?_)
  have hq0 : ad1 0 = q0 := h00.trans ea
  have hq1 : ad1 1000020 = q1 := ((hf1 1000020 (by omega) (by omega)).2).trans eb
  have hq2 : ad1 1500 = q2 := h15.trans ec
  have hMo : mo_W D (fun q => s.heap.size ≤ q) ad1 cf1 f g H := ⟨cf1, hW, mo_at_keep hm (fun r hr => hf1 r (by omega) (by omega)), fun r _ => rfl⟩
  obtain ⟨d9, hd9, hM9⟩ := hM ad1 cf1
  refine lv_aload_n S9.1 S9.2.1 dL_law_756 rfl (lv_at hl 4 rfl) ?_
  have hr8 := hMo.recv E
  rw [hq1] at hM9 hr8
  refine mi_cMi (mi_runV (P := mo_W D (fun q => s.heap.size ≤ q) ad1 cf1 f g) (As := []) (rest := []) S9 E hS hMo q1 hM9 hr8 mw_835 mw_832 mw_833 mw_834 mw_43 ⟨by decide, by decide, by decide +kernel⟩ ⟨rfl, rfl, by show d9 + 1 ≤ 12; omega, by show 8 + (1 + 11) + 37 * d9 ≤ 452; omega⟩ (n := 0) rfl hl.1 rfl (Nat.le_of_ble_eq_true rfl) dL_law_757 ⟨by show cells + 6 + 0 ≤ 601024; omega, by show slots + 2019 + 0 ≤ 7293033; omega⟩) hS (fun r8 H locs hp8 hS hz7 => ?_)
  obtain ⟨hans8, f1, g1, hM1, hR1, hf0⟩ := hp8
  refine lv_istore (lv' := [(6, .int r8), (5, .int (nI k)), (4, .int (nI i)), (0, .ref b), (1, .ref q0), (2, .ref q1), (3, .ref q2)]) S9.1 S9.2.1 dL_law_760 hl (by decide) rfl (fun ls hl => ?_)
  refine lv_aload_n S9.1 S9.2.1 dL_law_762 rfl (lv_at hl 5 rfl) ?_
  have hT := c_mthrown l D (fun q => s.heap.size ≤ q) (cf0 := cf1) (ad := ad1) (g := g1) hf0
  have hr7 := hM1.recv E
  rw [hq1] at hT hr7
  refine mi_cR (mi_runV (P := mo_W D (fun q => s.heap.size ≤ q) ad1 cf1 f1 g1) (As := []) (rest := []) S9 E hS hM1 q1 hT hr7 mw_726 mw_723 mw_724 mw_725 mw_43 ⟨by decide, by decide, by decide +kernel⟩ ⟨rfl, rfl, Nat.le_of_ble_eq_true rfl, Nat.le_of_ble_eq_true rfl⟩ (n := 0) rfl hl.1 rfl (Nat.le_of_ble_eq_true rfl) dL_law_763 ⟨by show cells + 6 + 0 + 0 ≤ 601024; omega, by show slots + 2019 + 0 + 0 ≤ 7293033; omega⟩) (fun r7 e7 => ?_)
  refine mi_top (v' := .int (nI k)) (by rw [e7]) ?_
  refine lv_iload S9.1 S9.2.1 dL_law_766 (lv_at hl 1 rfl) ?_
  refine mi_icmp_eq (tgt := 773) S9 (by omega) (by omega) dL_law_768 (by decide) (fun _ => ?_) (fun z => absurd rfl z)
  obtain ⟨cf2, hW2, hm2, hs2⟩ := hM1
  refine lv_iload S9.1 S9.2.1 dL_law_773 (lv_at hl 1 rfl) ?_
  refine mi_if_ne (tgt := 790) S9 (by omega) dL_law_775 (by decide) (fun c1 => ?_) (fun c1 => ?_)
  · refine lv_goto (tgt := 1433) S9.1 S9.2.1 dL_law_790 (by decide) ?_
    exact K S1 H locs ls hO1 ⟨ad1, cf2, f1, g1, _, hW2, hX1.same hO1 (fun r hr => ⟨hs2 r (Or.inl (by omega)), rfl⟩), hR1, hm2, (hs2 1500 (Or.inl (by omega))).trans c15, hq0, hq1, hq2⟩ hS (lv_sub hl [2, 3, 4, 5, 6] rfl)
  · refine lv_aload_n S9.1 S9.2.1 dL_law_778 rfl (lv_at hl 6 rfl) ?_
    refine lv_iconst (v := nI 0) S9.1 S9.2.1 dL_law_779 (by decide) ?_
    refine mi_lald S9 E hW2 1500 hq2 ((hs2 1500 (Or.inl (by omega))).trans c15) (by omega) (by omega) dL_law_780 ?_
    refine mi_top (v' := .long a.toInt64) (by rw [hans c1]) ?_
    refine lv_iload S9.1 S9.2.1 dL_law_781 (lv_at hl 0 rfl) ?_
    refine mi_top (v' := .int a) (by rw [hans8 c1]) ?_
    refine lv_i2l (v := a.toInt64) S9.1 S9.2.1 dL_law_783 rfl ?_
    refine W.lcmp S9.1 S9.2.1 dL_law_784 ?_
    refine mi_top (v' := .int (nI 0)) (congrArg Value.int (lw_cmp a.toInt64)) ?_
    refine mi_if_eq (tgt := 790) S9 (a := 0) (by omega) dL_law_785 (by decide) (fun _ => ?_) (fun z => absurd rfl z)
    refine lv_goto (tgt := 1433) S9.1 S9.2.1 dL_law_790 (by decide) ?_
    exact K S1 H locs ls hO1 ⟨ad1, cf2, f1, g1, _, hW2, hX1.same hO1 (fun r hr => ⟨hs2 r (Or.inl (by omega)), rfl⟩), hR1, hm2, (hs2 1500 (Or.inl (by omega))).trans c15, hq0, hq1, hq2⟩ hS (lv_sub hl [2, 3, 4, 5, 6] rfl)
set_option maxHeartbeats 4000000 in
set_option maxRecDepth 100000 in
theorem lw_case_14 {p : Program} {l : Launch} {e : Env} {s : State} {m : MethodId} {below : List Frame} {meth : Method} {c : Code} {b L : Nat} {xs : Nat → Int32} {D : va_G} (hst : l.stackTraces = false) (S9 : CallFix p m c cL_law 7 s #[Value.ref b] (lw_w0 :: mi_G) RL) (hX9 : va_X b L xs s s.heap) (hbl : b < s.heap.size) (hL : L ≤ 2048) (E : mi_E D (fun q => s.heap.size ≤ q) s) {S : sT} (hO : st_ok S) {q0 q1 q2 i cells slots : Nat} {H : Heap} {locs : List Loc} {ls : Array Slot} (hi : i + 4 ≤ L) (hI : lw_I D (fun q => s.heap.size ≤ q) S q0 q1 q2 H) (hS : va_S (fun q => s.heap.size ≤ q) s.heap H locs) (hl : lv_has ls 7 [(4, .int (nI i)), (0, .ref b), (1, .ref q0), (2, .ref q1), (3, .ref q2)]) (hcc : cells + 6 ≤ 601024) (hss : slots + 2019 ≤ 7293033) (K : ∀ (S1 : sT) (H : Heap) (locs : List Loc) (ls : Array Slot), st_ok S1 → lw_I D (fun q => s.heap.size ≤ q) S1 q0 q1 q2 H → va_S (fun q => s.heap.size ≤ q) s.heap H locs → lv_has ls 7 [(4, .int (nI i)), (0, .ref b), (1, .ref q0), (2, .ref q1), (3, .ref q2)] → W p l e room_1 s m #[Value.ref b] below meth c H locs (cells + 6) (slots + 2019) (lw_Z below #[Value.ref b] s) (F0 m 1433 ls [])) : W p l e room_1 s m #[Value.ref b] below meth c H locs cells slots (lw_Z below #[Value.ref b] s) (F0 m 793 ls []) := by
  obtain ⟨ad, cf, f, g, o, hW, hX, hR, hm, ho, ea, eb, ec⟩ := hI
  obtain ⟨k, a, S1, hk3, hO1, hC, hM⟩ := lw_o_redo l D (fun q => s.heap.size ≤ q) hst (fun a b h1 h2 => Nat.le_trans h1 h2) hO hR (xs (i + 1))
  refine lv_aload_n S9.1 S9.2.1 dL_law_793 rfl (lv_at hl 2 rfl) ?_
  refine lv_aload_n S9.1 S9.2.1 dL_law_794 rfl (lv_at hl 1 rfl) ?_
  refine lv_iload S9.1 S9.2.1 dL_law_795 (lv_at hl 0 rfl) ?_
  refine lv_iconst (v := nI 1) S9.1 S9.2.1 dL_law_797 (by decide) ?_
  refine mi_iadd S9 dL_law_798 ?_
  refine lw_sld S9 hX9 hbl hS (by omega) hL dL_law_799 ?_
  refine lv_aload_n S9.1 S9.2.1 dL_law_800 rfl (lv_at hl 4 rfl) ?_
  have hH := c_Lredo l D (fun q => s.heap.size ≤ q) hk3 ho hX.o0 hO1 (hC ad cf hX)
  rw [ea, ec] at hH
  refine mi_cMi (mi_runSH (P := mi_W D (fun q => s.heap.size ≤ q) ad cf) (As := [.ref q0, .int (xs (i + 1)), .ref q2]) (rest := []) S9 E hS hW hH mw_505 mw_503 mw_504 mw_32 ⟨by decide, by decide, by decide +kernel⟩ ⟨rfl, rfl, Nat.le_of_ble_eq_true rfl, Nat.le_of_ble_eq_true rfl⟩ (n := 3) rfl hl.1 rfl (Nat.le_of_ble_eq_true rfl) dL_law_801 ⟨by show cells + 6 ≤ 601024; omega, by show slots + 2019 ≤ 7293033; omega⟩) hS (fun r9 H locs hp9 hS hz8 => ?_)
  obtain ⟨e9, ad1, cf1, o1, hW, hX1, hf1, h15, h00, c15, hans⟩ := hp9
  refine mi_top (v' := .int (nI k)) (by rw [e9]) ?_
  refine lv_istore (lv' := [(5, .int (nI k)), (4, .int (nI i)), (0, .ref b), (1, .ref q0), (2, .ref q1), (3, .ref q2)]) S9.1 S9.2.1 dL_law_804 hl (by decide) rfl (fun ls hl => ?_)
  have hq0 : ad1 0 = q0 := h00.trans ea
  have hq1 : ad1 1000020 = q1 := ((hf1 1000020 (by omega) (by omega)).2).trans eb
  have hq2 : ad1 1500 = q2 := h15.trans ec
  have hMo : mo_W D (fun q => s.heap.size ≤ q) ad1 cf1 f g H := ⟨cf1, hW, mo_at_keep hm (fun r hr => hf1 r (by omega) (by omega)), fun r _ => rfl⟩
  obtain ⟨d9, hd9, hM9⟩ := hM ad1 cf1
  refine lv_aload_n S9.1 S9.2.1 dL_law_806 rfl (lv_at hl 4 rfl) ?_
  refine lv_aload_n S9.1 S9.2.1 dL_law_807 rfl (lv_at hl 2 rfl) ?_
  refine lv_iload S9.1 S9.2.1 dL_law_808 (lv_at hl 1 rfl) ?_
  refine lv_iconst (v := nI 1) S9.1 S9.2.1 dL_law_810 (by decide) ?_
  refine mi_iadd S9 dL_law_811 ?_
  refine lw_sld S9 hX9 hbl hS (by omega) hL dL_law_812 ?_
  have hr8 := hMo.recv E
  rw [hq1] at hM9 hr8
  refine mi_cMi (mi_runV (P := mo_W D (fun q => s.heap.size ≤ q) ad1 cf1 f g) (As := [.int (xs (i + 1))]) (rest := []) S9 E hS hMo q1 hM9 hr8 mw_839 mw_836 mw_837 mw_838 mw_43 ⟨by decide, by decide, by decide +kernel⟩ ⟨rfl, rfl, by show d9 + 1 ≤ 12; omega, by show 8 + (6 + 11) + 37 * d9 ≤ 452; omega⟩ (n := 1) rfl hl.1 rfl (Nat.le_of_ble_eq_true rfl) dL_law_813 ⟨by show cells + 6 + 0 ≤ 601024; omega, by show slots + 2019 + 0 ≤ 7293033; omega⟩) hS (fun r8 H locs hp8 hS hz7 => ?_)
  obtain ⟨hans8, f1, g1, hM1, hR1, hf0⟩ := hp8
  refine lv_istore (lv' := [(6, .int r8), (5, .int (nI k)), (4, .int (nI i)), (0, .ref b), (1, .ref q0), (2, .ref q1), (3, .ref q2)]) S9.1 S9.2.1 dL_law_816 hl (by decide) rfl (fun ls hl => ?_)
  refine lv_aload_n S9.1 S9.2.1 dL_law_818 rfl (lv_at hl 5 rfl) ?_
  have hT := c_mthrown l D (fun q => s.heap.size ≤ q) (cf0 := cf1) (ad := ad1) (g := g1) hf0
  have hr7 := hM1.recv E
  rw [hq1] at hT hr7
  refine mi_cR (mi_runV (P := mo_W D (fun q => s.heap.size ≤ q) ad1 cf1 f1 g1) (As := []) (rest := []) S9 E hS hM1 q1 hT hr7 mw_726 mw_723 mw_724 mw_725 mw_43 ⟨by decide, by decide, by decide +kernel⟩ ⟨rfl, rfl, Nat.le_of_ble_eq_true rfl, Nat.le_of_ble_eq_true rfl⟩ (n := 0) rfl hl.1 rfl (Nat.le_of_ble_eq_true rfl) dL_law_819 ⟨by show cells + 6 + 0 + 0 ≤ 601024; omega, by show slots + 2019 + 0 + 0 ≤ 7293033; omega⟩) (fun r7 e7 => ?_)
  refine mi_top (v' := .int (nI k)) (by rw [e7]) ?_
  refine lv_iload S9.1 S9.2.1 dL_law_822 (lv_at hl 1 rfl) ?_
  refine mi_icmp_eq (tgt := 829) S9 (by omega) (by omega) dL_law_824 (by decide) (fun _ => ?_) (fun z => absurd rfl z)
  obtain ⟨cf2, hW2, hm2, hs2⟩ := hM1
  refine lv_iload S9.1 S9.2.1 dL_law_829 (lv_at hl 1 rfl) ?_
  refine mi_if_ne (tgt := 846) S9 (by omega) dL_law_831 (by decide) (fun c1 => ?_) (fun c1 => ?_)
  · refine lv_goto (tgt := 1433) S9.1 S9.2.1 dL_law_846 (by decide) ?_
    exact K S1 H locs ls hO1 ⟨ad1, cf2, f1, g1, _, hW2, hX1.same hO1 (fun r hr => ⟨hs2 r (Or.inl (by omega)), rfl⟩), hR1, hm2, (hs2 1500 (Or.inl (by omega))).trans c15, hq0, hq1, hq2⟩ hS (lv_sub hl [2, 3, 4, 5, 6] rfl)
  · refine lv_aload_n S9.1 S9.2.1 dL_law_834 rfl (lv_at hl 6 rfl) ?_
    refine lv_iconst (v := nI 0) S9.1 S9.2.1 dL_law_835 (by decide) ?_
    refine mi_lald S9 E hW2 1500 hq2 ((hs2 1500 (Or.inl (by omega))).trans c15) (by omega) (by omega) dL_law_836 ?_
    refine mi_top (v' := .long a.toInt64) (by rw [hans c1]) ?_
    refine lv_iload S9.1 S9.2.1 dL_law_837 (lv_at hl 0 rfl) ?_
    refine mi_top (v' := .int a) (by rw [hans8 c1]) ?_
    refine lv_i2l (v := a.toInt64) S9.1 S9.2.1 dL_law_839 rfl ?_
    refine W.lcmp S9.1 S9.2.1 dL_law_840 ?_
    refine mi_top (v' := .int (nI 0)) (congrArg Value.int (lw_cmp a.toInt64)) ?_
    refine mi_if_eq (tgt := 846) S9 (a := 0) (by omega) dL_law_841 (by decide) (fun _ => ?_) (fun z => absurd rfl z)
    refine lv_goto (tgt := 1433) S9.1 S9.2.1 dL_law_846 (by decide) ?_
    exact K S1 H locs ls hO1 ⟨ad1, cf2, f1, g1, _, hW2, hX1.same hO1 (fun r hr => ⟨hs2 r (Or.inl (by omega)), rfl⟩), hR1, hm2, (hs2 1500 (Or.inl (by omega))).trans c15, hq0, hq1, hq2⟩ hS (lv_sub hl [2, 3, 4, 5, 6] rfl)
set_option maxHeartbeats 4000000 in
set_option maxRecDepth 100000 in
theorem lw_case_15 {p : Program} {l : Launch} {e : Env} {s : State} {m : MethodId} {below : List Frame} {meth : Method} {c : Code} {b L : Nat} {xs : Nat → Int32} {D : va_G} (hst : l.stackTraces = false) (S9 : CallFix p m c cL_law 7 s #[Value.ref b] (lw_w0 :: mi_G) RL) (hX9 : va_X b L xs s s.heap) (hbl : b < s.heap.size) (hL : L ≤ 2048) (E : mi_E D (fun q => s.heap.size ≤ q) s) {S : sT} (hO : st_ok S) {q0 q1 q2 i cells slots : Nat} {H : Heap} {locs : List Loc} {ls : Array Slot} (hi : i + 4 ≤ L) (hI : lw_I D (fun q => s.heap.size ≤ q) S q0 q1 q2 H) (hS : va_S (fun q => s.heap.size ≤ q) s.heap H locs) (hl : lv_has ls 7 [(4, .int (nI i)), (0, .ref b), (1, .ref q0), (2, .ref q1), (3, .ref q2)]) (hcc : cells + 6 ≤ 601024) (hss : slots + 2019 ≤ 7293033) (K : ∀ (S1 : sT) (H : Heap) (locs : List Loc) (ls : Array Slot), st_ok S1 → lw_I D (fun q => s.heap.size ≤ q) S1 q0 q1 q2 H → va_S (fun q => s.heap.size ≤ q) s.heap H locs → lv_has ls 7 [(4, .int (nI i)), (0, .ref b), (1, .ref q0), (2, .ref q1), (3, .ref q2)] → W p l e room_1 s m #[Value.ref b] below meth c H locs (cells + 6) (slots + 2019) (lw_Z below #[Value.ref b] s) (F0 m 1433 ls [])) : W p l e room_1 s m #[Value.ref b] below meth c H locs cells slots (lw_Z below #[Value.ref b] s) (F0 m 849 ls []) := by
  obtain ⟨ad, cf, f, g, o, hW, hX, hR, hm, ho, ea, eb, ec⟩ := hI
  obtain ⟨a, hC, hM⟩ := lw_o_branches l D (fun q => s.heap.size ≤ q) hst (fun a b h1 h2 => Nat.le_trans h1 h2) hO hR
  refine lv_aload_n S9.1 S9.2.1 dL_law_849 rfl (lv_at hl 2 rfl) ?_
  obtain ⟨hk0, d9, mc, ms, hd9, hmc, hms, hC9⟩ := (hC ad cf hX).resolve_right (fun h => h.1 rfl)
  have hr9 := hW.recv E hX.o0.choose_spec rfl
  rw [ea] at hC9 hr9
  refine mi_cMi (mi_runV (P := mi_W D (fun q => s.heap.size ≤ q) ad cf) (As := []) (rest := []) S9 E hS hW q0 hC9 hr9 mw_265 mw_262 mw_263 mw_264 mw_33 ⟨by decide, by decide, by decide +kernel⟩ ⟨rfl, rfl, by show d9 + 1 ≤ 12; omega, by show 8 + (3 + 11) + 37 * d9 ≤ 452; omega⟩ (n := 0) rfl hl.1 rfl (Nat.le_of_ble_eq_true rfl) dL_law_850 ⟨by show cells + mc ≤ 601024; omega, by show slots + ms ≤ 7293033; omega⟩) hS (fun r9 H locs hp9 hS hz8 => ?_)
  obtain ⟨e9, ad1, cf1, hW, hX1, hf1, h00⟩ := hp9
  refine mi_top (v' := .int a) (by rw [e9]) ?_
  have hq0 : ad1 0 = q0 := h00.trans ea
  have hq1 : ad1 1000020 = q1 := ((hf1 1000020 (by omega)).2).trans eb
  have hq2 : ad1 1500 = q2 := ((hf1 1500 (by omega)).2).trans ec
  have c15 := ((hf1 1500 (by omega)).1).trans ho
  have hMo : mo_W D (fun q => s.heap.size ≤ q) ad1 cf1 f g H := ⟨cf1, hW, mo_at_keep hm (fun r hr => hf1 r (by omega)), fun r _ => rfl⟩
  obtain ⟨d8, hd8, hM9⟩ := hM ad1 cf1
  refine lv_aload_n S9.1 S9.2.1 dL_law_853 rfl (lv_at hl 3 rfl) ?_
  have hr8 := hMo.recv E
  rw [hq1] at hM9 hr8
  refine mi_cMi (mi_runV (P := mo_W D (fun q => s.heap.size ≤ q) ad1 cf1 f g) (As := []) (rest := [.int a]) S9 E hS hMo q1 hM9 hr8 mw_847 mw_844 mw_845 mw_846 mw_43 ⟨by decide, by decide, by decide +kernel⟩ ⟨rfl, rfl, by show d8 + 1 ≤ 12; omega, by show 8 + (1 + 11) + 37 * d8 ≤ 452; omega⟩ (n := 0) rfl hl.1 rfl (Nat.le_of_ble_eq_true rfl) dL_law_854 ⟨by show cells + mc + 0 ≤ 601024; omega, by show slots + ms + 0 ≤ 7293033; omega⟩) hS (fun r8 H locs hp8 hS hz7 => ?_)
  obtain ⟨hans8, f1, g1, hM1, hR1, hf0⟩ := hp8
  refine mi_top (v' := .int a) (by rw [hans8 rfl]) ?_
  obtain ⟨cf2, hW2, hm2, hs2⟩ := hM1
  refine lv_icmp_eq (tgt := 1433) S9.1 S9.2.1 dL_law_857 (by decide) (fun _ => ?_) (fun z => absurd rfl z)
  refine W.widen (k := cells + 6) (n := slots + 2019) (by omega) (by omega) ?_
  exact K S H locs ls hO ⟨ad1, cf2, f1, g1, _, hW2, hX1.same hO (fun r hr => ⟨hs2 r (Or.inl (by omega)), rfl⟩), hR1, hm2, (hs2 1500 (Or.inl (by omega))).trans c15, hq0, hq1, hq2⟩ hS (lv_sub hl [0, 1, 2, 3, 4] rfl)
set_option maxHeartbeats 4000000 in
set_option maxRecDepth 100000 in
theorem lw_case_16 {p : Program} {l : Launch} {e : Env} {s : State} {m : MethodId} {below : List Frame} {meth : Method} {c : Code} {b L : Nat} {xs : Nat → Int32} {D : va_G} (hst : l.stackTraces = false) (S9 : CallFix p m c cL_law 7 s #[Value.ref b] (lw_w0 :: mi_G) RL) (hX9 : va_X b L xs s s.heap) (hbl : b < s.heap.size) (hL : L ≤ 2048) (E : mi_E D (fun q => s.heap.size ≤ q) s) {S : sT} (hO : st_ok S) {q0 q1 q2 i cells slots : Nat} {H : Heap} {locs : List Loc} {ls : Array Slot} (hi : i + 4 ≤ L) (hI : lw_I D (fun q => s.heap.size ≤ q) S q0 q1 q2 H) (hS : va_S (fun q => s.heap.size ≤ q) s.heap H locs) (hl : lv_has ls 7 [(4, .int (nI i)), (0, .ref b), (1, .ref q0), (2, .ref q1), (3, .ref q2)]) (hcc : cells + 6 ≤ 601024) (hss : slots + 2019 ≤ 7293033) (K : ∀ (S1 : sT) (H : Heap) (locs : List Loc) (ls : Array Slot), st_ok S1 → lw_I D (fun q => s.heap.size ≤ q) S1 q0 q1 q2 H → va_S (fun q => s.heap.size ≤ q) s.heap H locs → lv_has ls 7 [(4, .int (nI i)), (0, .ref b), (1, .ref q0), (2, .ref q1), (3, .ref q2)] → W p l e room_1 s m #[Value.ref b] below meth c H locs (cells + 6) (slots + 2019) (lw_Z below #[Value.ref b] s) (F0 m 1433 ls [])) : W p l e room_1 s m #[Value.ref b] below meth c H locs cells slots (lw_Z below #[Value.ref b] s) (F0 m 862 ls []) := by
  obtain ⟨ad, cf, f, g, o, hW, hX, hR, hm, ho, ea, eb, ec⟩ := hI
  obtain ⟨k, a, S1, hk3, hO1, hC, hM⟩ := lw_o_unlike l D (fun q => s.heap.size ≤ q) hst (fun a b h1 h2 => Nat.le_trans h1 h2) hO hR (xs (i + 1)) (xs (i + 2))
  refine lv_aload_n S9.1 S9.2.1 dL_law_862 rfl (lv_at hl 2 rfl) ?_
  refine lv_aload_n S9.1 S9.2.1 dL_law_863 rfl (lv_at hl 1 rfl) ?_
  refine lv_iload S9.1 S9.2.1 dL_law_864 (lv_at hl 0 rfl) ?_
  refine lv_iconst (v := nI 1) S9.1 S9.2.1 dL_law_866 (by decide) ?_
  refine mi_iadd S9 dL_law_867 ?_
  refine lw_sld S9 hX9 hbl hS (by omega) hL dL_law_868 ?_
  refine lv_aload_n S9.1 S9.2.1 dL_law_869 rfl (lv_at hl 1 rfl) ?_
  refine lv_iload S9.1 S9.2.1 dL_law_870 (lv_at hl 0 rfl) ?_
  refine lv_iconst (v := nI 2) S9.1 S9.2.1 dL_law_872 (by decide) ?_
  refine mi_iadd S9 dL_law_873 ?_
  refine lw_sld S9 hX9 hbl hS (by omega) hL dL_law_874 ?_
  refine lv_aload_n S9.1 S9.2.1 dL_law_875 rfl (lv_at hl 4 rfl) ?_
  have hH := c_Lunlike l D (fun q => s.heap.size ≤ q) hk3 ho hX.o0 hO1 (hC ad cf hX)
  rw [ea, ec] at hH
  refine mi_cMi (mi_runSH (P := mi_W D (fun q => s.heap.size ≤ q) ad cf) (As := [.ref q0, .int (xs (i + 1)), .int (xs (i + 2)), .ref q2]) (rest := []) S9 E hS hW hH mw_517 mw_515 mw_516 mw_32 ⟨by decide, by decide, by decide +kernel⟩ ⟨rfl, rfl, Nat.le_of_ble_eq_true rfl, Nat.le_of_ble_eq_true rfl⟩ (n := 4) rfl hl.1 rfl (Nat.le_of_ble_eq_true rfl) dL_law_876 ⟨by show cells + 6 ≤ 601024; omega, by show slots + 2019 ≤ 7293033; omega⟩) hS (fun r9 H locs hp9 hS hz8 => ?_)
  obtain ⟨e9, ad1, cf1, o1, hW, hX1, hf1, h15, h00, c15, hans⟩ := hp9
  refine mi_top (v' := .int (nI k)) (by rw [e9]) ?_
  refine lv_istore (lv' := [(5, .int (nI k)), (4, .int (nI i)), (0, .ref b), (1, .ref q0), (2, .ref q1), (3, .ref q2)]) S9.1 S9.2.1 dL_law_879 hl (by decide) rfl (fun ls hl => ?_)
  have hq0 : ad1 0 = q0 := h00.trans ea
  have hq1 : ad1 1000020 = q1 := ((hf1 1000020 (by omega) (by omega)).2).trans eb
  have hq2 : ad1 1500 = q2 := h15.trans ec
  have hMo : mo_W D (fun q => s.heap.size ≤ q) ad1 cf1 f g H := ⟨cf1, hW, mo_at_keep hm (fun r hr => hf1 r (by omega) (by omega)), fun r _ => rfl⟩
  obtain ⟨d9, hd9, hM9⟩ := hM ad1 cf1
  refine lv_aload_n S9.1 S9.2.1 dL_law_881 rfl (lv_at hl 4 rfl) ?_
  refine lv_aload_n S9.1 S9.2.1 dL_law_882 rfl (lv_at hl 2 rfl) ?_
  refine lv_iload S9.1 S9.2.1 dL_law_883 (lv_at hl 1 rfl) ?_
  refine lv_iconst (v := nI 1) S9.1 S9.2.1 dL_law_885 (by decide) ?_
  refine mi_iadd S9 dL_law_886 ?_
  refine lw_sld S9 hX9 hbl hS (by omega) hL dL_law_887 ?_
  refine lv_aload_n S9.1 S9.2.1 dL_law_888 rfl (lv_at hl 2 rfl) ?_
  refine lv_iload S9.1 S9.2.1 dL_law_889 (lv_at hl 1 rfl) ?_
  refine lv_iconst (v := nI 2) S9.1 S9.2.1 dL_law_891 (by decide) ?_
  refine mi_iadd S9 dL_law_892 ?_
  refine lw_sld S9 hX9 hbl hS (by omega) hL dL_law_893 ?_
  have hr8 := hMo.recv E
  rw [hq1] at hM9 hr8
  refine mi_cMi (mi_runV (P := mo_W D (fun q => s.heap.size ≤ q) ad1 cf1 f g) (As := [.int (xs (i + 1)), .int (xs (i + 2))]) (rest := []) S9 E hS hMo q1 hM9 hr8 mw_851 mw_848 mw_849 mw_850 mw_43 ⟨by decide, by decide, by decide +kernel⟩ ⟨rfl, rfl, by show d9 + 1 ≤ 12; omega, by show 8 + (5 + 11) + 37 * d9 ≤ 452; omega⟩ (n := 2) rfl hl.1 rfl (Nat.le_of_ble_eq_true rfl) dL_law_894 ⟨by show cells + 6 + 0 ≤ 601024; omega, by show slots + 2019 + 0 ≤ 7293033; omega⟩) hS (fun r8 H locs hp8 hS hz7 => ?_)
  obtain ⟨hans8, f1, g1, hM1, hR1, hf0⟩ := hp8
  refine lv_istore (lv' := [(6, .int r8), (5, .int (nI k)), (4, .int (nI i)), (0, .ref b), (1, .ref q0), (2, .ref q1), (3, .ref q2)]) S9.1 S9.2.1 dL_law_897 hl (by decide) rfl (fun ls hl => ?_)
  refine lv_aload_n S9.1 S9.2.1 dL_law_899 rfl (lv_at hl 5 rfl) ?_
  have hT := c_mthrown l D (fun q => s.heap.size ≤ q) (cf0 := cf1) (ad := ad1) (g := g1) hf0
  have hr7 := hM1.recv E
  rw [hq1] at hT hr7
  refine mi_cR (mi_runV (P := mo_W D (fun q => s.heap.size ≤ q) ad1 cf1 f1 g1) (As := []) (rest := []) S9 E hS hM1 q1 hT hr7 mw_726 mw_723 mw_724 mw_725 mw_43 ⟨by decide, by decide, by decide +kernel⟩ ⟨rfl, rfl, Nat.le_of_ble_eq_true rfl, Nat.le_of_ble_eq_true rfl⟩ (n := 0) rfl hl.1 rfl (Nat.le_of_ble_eq_true rfl) dL_law_900 ⟨by show cells + 6 + 0 + 0 ≤ 601024; omega, by show slots + 2019 + 0 + 0 ≤ 7293033; omega⟩) (fun r7 e7 => ?_)
  refine mi_top (v' := .int (nI k)) (by rw [e7]) ?_
  refine lv_iload S9.1 S9.2.1 dL_law_903 (lv_at hl 1 rfl) ?_
  refine mi_icmp_eq (tgt := 910) S9 (by omega) (by omega) dL_law_905 (by decide) (fun _ => ?_) (fun z => absurd rfl z)
  obtain ⟨cf2, hW2, hm2, hs2⟩ := hM1
  refine lv_iload S9.1 S9.2.1 dL_law_910 (lv_at hl 1 rfl) ?_
  refine mi_if_ne (tgt := 927) S9 (by omega) dL_law_912 (by decide) (fun c1 => ?_) (fun c1 => ?_)
  · refine lv_goto (tgt := 1433) S9.1 S9.2.1 dL_law_927 (by decide) ?_
    exact K S1 H locs ls hO1 ⟨ad1, cf2, f1, g1, _, hW2, hX1.same hO1 (fun r hr => ⟨hs2 r (Or.inl (by omega)), rfl⟩), hR1, hm2, (hs2 1500 (Or.inl (by omega))).trans c15, hq0, hq1, hq2⟩ hS (lv_sub hl [2, 3, 4, 5, 6] rfl)
  · refine lv_aload_n S9.1 S9.2.1 dL_law_915 rfl (lv_at hl 6 rfl) ?_
    refine lv_iconst (v := nI 0) S9.1 S9.2.1 dL_law_916 (by decide) ?_
    refine mi_lald S9 E hW2 1500 hq2 ((hs2 1500 (Or.inl (by omega))).trans c15) (by omega) (by omega) dL_law_917 ?_
    refine mi_top (v' := .long a.toInt64) (by rw [hans c1]) ?_
    refine lv_iload S9.1 S9.2.1 dL_law_918 (lv_at hl 0 rfl) ?_
    refine mi_top (v' := .int a) (by rw [hans8 c1]) ?_
    refine lv_i2l (v := a.toInt64) S9.1 S9.2.1 dL_law_920 rfl ?_
    refine W.lcmp S9.1 S9.2.1 dL_law_921 ?_
    refine mi_top (v' := .int (nI 0)) (congrArg Value.int (lw_cmp a.toInt64)) ?_
    refine mi_if_eq (tgt := 927) S9 (a := 0) (by omega) dL_law_922 (by decide) (fun _ => ?_) (fun z => absurd rfl z)
    refine lv_goto (tgt := 1433) S9.1 S9.2.1 dL_law_927 (by decide) ?_
    exact K S1 H locs ls hO1 ⟨ad1, cf2, f1, g1, _, hW2, hX1.same hO1 (fun r hr => ⟨hs2 r (Or.inl (by omega)), rfl⟩), hR1, hm2, (hs2 1500 (Or.inl (by omega))).trans c15, hq0, hq1, hq2⟩ hS (lv_sub hl [2, 3, 4, 5, 6] rfl)
set_option maxHeartbeats 4000000 in
set_option maxRecDepth 100000 in
theorem lw_case_17 {p : Program} {l : Launch} {e : Env} {s : State} {m : MethodId} {below : List Frame} {meth : Method} {c : Code} {b L : Nat} {xs : Nat → Int32} {D : va_G} (hst : l.stackTraces = false) (S9 : CallFix p m c cL_law 7 s #[Value.ref b] (lw_w0 :: mi_G) RL) (hX9 : va_X b L xs s s.heap) (hbl : b < s.heap.size) (hL : L ≤ 2048) (E : mi_E D (fun q => s.heap.size ≤ q) s) {S : sT} (hO : st_ok S) {q0 q1 q2 i cells slots : Nat} {H : Heap} {locs : List Loc} {ls : Array Slot} (hi : i + 4 ≤ L) (hI : lw_I D (fun q => s.heap.size ≤ q) S q0 q1 q2 H) (hS : va_S (fun q => s.heap.size ≤ q) s.heap H locs) (hl : lv_has ls 7 [(4, .int (nI i)), (0, .ref b), (1, .ref q0), (2, .ref q1), (3, .ref q2)]) (hcc : cells + 6 ≤ 601024) (hss : slots + 2019 ≤ 7293033) (K : ∀ (S1 : sT) (H : Heap) (locs : List Loc) (ls : Array Slot), st_ok S1 → lw_I D (fun q => s.heap.size ≤ q) S1 q0 q1 q2 H → va_S (fun q => s.heap.size ≤ q) s.heap H locs → lv_has ls 7 [(4, .int (nI i)), (0, .ref b), (1, .ref q0), (2, .ref q1), (3, .ref q2)] → W p l e room_1 s m #[Value.ref b] below meth c H locs (cells + 6) (slots + 2019) (lw_Z below #[Value.ref b] s) (F0 m 1433 ls [])) : W p l e room_1 s m #[Value.ref b] below meth c H locs cells slots (lw_Z below #[Value.ref b] s) (F0 m 930 ls []) := by
  obtain ⟨ad, cf, f, g, o, hW, hX, hR, hm, ho, ea, eb, ec⟩ := hI
  obtain ⟨k, a, S1, hk3, hO1, hC, hM⟩ := lw_o_cut l D (fun q => s.heap.size ≤ q) hst (fun a b h1 h2 => Nat.le_trans h1 h2) hO hR 
  refine lv_aload_n S9.1 S9.2.1 dL_law_930 rfl (lv_at hl 2 rfl) ?_
  refine lv_aload_n S9.1 S9.2.1 dL_law_931 rfl (lv_at hl 4 rfl) ?_
  have hH := c_Lcut l D (fun q => s.heap.size ≤ q) hk3 ho hX.o0 hO1 (hC ad cf hX)
  rw [ea, ec] at hH
  refine mi_cMi (mi_runSH (P := mi_W D (fun q => s.heap.size ≤ q) ad cf) (As := [.ref q0, .ref q2]) (rest := []) S9 E hS hW hH mw_528 mw_526 mw_527 mw_32 ⟨by decide, by decide, by decide +kernel⟩ ⟨rfl, rfl, Nat.le_of_ble_eq_true rfl, Nat.le_of_ble_eq_true rfl⟩ (n := 2) rfl hl.1 rfl (Nat.le_of_ble_eq_true rfl) dL_law_932 ⟨by show cells + 6 ≤ 601024; omega, by show slots + 2019 ≤ 7293033; omega⟩) hS (fun r9 H locs hp9 hS hz8 => ?_)
  obtain ⟨e9, ad1, cf1, o1, hW, hX1, hf1, h15, h00, c15, hans⟩ := hp9
  refine mi_top (v' := .int (nI k)) (by rw [e9]) ?_
  refine lv_istore (lv' := [(5, .int (nI k)), (4, .int (nI i)), (0, .ref b), (1, .ref q0), (2, .ref q1), (3, .ref q2)]) S9.1 S9.2.1 dL_law_935 hl (by decide) rfl (fun ls hl => ?_)
  have hq0 : ad1 0 = q0 := h00.trans ea
  have hq1 : ad1 1000020 = q1 := ((hf1 1000020 (by omega) (by omega)).2).trans eb
  have hq2 : ad1 1500 = q2 := h15.trans ec
  have hMo : mo_W D (fun q => s.heap.size ≤ q) ad1 cf1 f g H := ⟨cf1, hW, mo_at_keep hm (fun r hr => hf1 r (by omega) (by omega)), fun r _ => rfl⟩
  obtain ⟨d9, hd9, hM9⟩ := hM ad1 cf1
  refine lv_aload_n S9.1 S9.2.1 dL_law_937 rfl (lv_at hl 4 rfl) ?_
  have hr8 := hMo.recv E
  rw [hq1] at hM9 hr8
  refine mi_cMi (mi_runV (P := mo_W D (fun q => s.heap.size ≤ q) ad1 cf1 f g) (As := []) (rest := []) S9 E hS hMo q1 hM9 hr8 mw_855 mw_852 mw_853 mw_854 mw_43 ⟨by decide, by decide, by decide +kernel⟩ ⟨rfl, rfl, by show d9 + 1 ≤ 12; omega, by show 8 + (2 + 11) + 37 * d9 ≤ 452; omega⟩ (n := 0) rfl hl.1 rfl (Nat.le_of_ble_eq_true rfl) dL_law_938 ⟨by show cells + 6 + 0 ≤ 601024; omega, by show slots + 2019 + 0 ≤ 7293033; omega⟩) hS (fun r8 H locs hp8 hS hz7 => ?_)
  obtain ⟨hans8, f1, g1, hM1, hR1, hf0⟩ := hp8
  refine lv_istore (lv' := [(6, .int r8), (5, .int (nI k)), (4, .int (nI i)), (0, .ref b), (1, .ref q0), (2, .ref q1), (3, .ref q2)]) S9.1 S9.2.1 dL_law_941 hl (by decide) rfl (fun ls hl => ?_)
  refine lv_aload_n S9.1 S9.2.1 dL_law_943 rfl (lv_at hl 5 rfl) ?_
  have hT := c_mthrown l D (fun q => s.heap.size ≤ q) (cf0 := cf1) (ad := ad1) (g := g1) hf0
  have hr7 := hM1.recv E
  rw [hq1] at hT hr7
  refine mi_cR (mi_runV (P := mo_W D (fun q => s.heap.size ≤ q) ad1 cf1 f1 g1) (As := []) (rest := []) S9 E hS hM1 q1 hT hr7 mw_726 mw_723 mw_724 mw_725 mw_43 ⟨by decide, by decide, by decide +kernel⟩ ⟨rfl, rfl, Nat.le_of_ble_eq_true rfl, Nat.le_of_ble_eq_true rfl⟩ (n := 0) rfl hl.1 rfl (Nat.le_of_ble_eq_true rfl) dL_law_944 ⟨by show cells + 6 + 0 + 0 ≤ 601024; omega, by show slots + 2019 + 0 + 0 ≤ 7293033; omega⟩) (fun r7 e7 => ?_)
  refine mi_top (v' := .int (nI k)) (by rw [e7]) ?_
  refine lv_iload S9.1 S9.2.1 dL_law_947 (lv_at hl 1 rfl) ?_
  refine mi_icmp_eq (tgt := 954) S9 (by omega) (by omega) dL_law_949 (by decide) (fun _ => ?_) (fun z => absurd rfl z)
  obtain ⟨cf2, hW2, hm2, hs2⟩ := hM1
  refine lv_iload S9.1 S9.2.1 dL_law_954 (lv_at hl 1 rfl) ?_
  refine mi_if_ne (tgt := 971) S9 (by omega) dL_law_956 (by decide) (fun c1 => ?_) (fun c1 => ?_)
  · refine lv_goto (tgt := 1433) S9.1 S9.2.1 dL_law_971 (by decide) ?_
    exact K S1 H locs ls hO1 ⟨ad1, cf2, f1, g1, _, hW2, hX1.same hO1 (fun r hr => ⟨hs2 r (Or.inl (by omega)), rfl⟩), hR1, hm2, (hs2 1500 (Or.inl (by omega))).trans c15, hq0, hq1, hq2⟩ hS (lv_sub hl [2, 3, 4, 5, 6] rfl)
  · refine lv_aload_n S9.1 S9.2.1 dL_law_959 rfl (lv_at hl 6 rfl) ?_
    refine lv_iconst (v := nI 0) S9.1 S9.2.1 dL_law_960 (by decide) ?_
    refine mi_lald S9 E hW2 1500 hq2 ((hs2 1500 (Or.inl (by omega))).trans c15) (by omega) (by omega) dL_law_961 ?_
    refine mi_top (v' := .long a.toInt64) (by rw [hans c1]) ?_
    refine lv_iload S9.1 S9.2.1 dL_law_962 (lv_at hl 0 rfl) ?_
    refine mi_top (v' := .int a) (by rw [hans8 c1]) ?_
    refine lv_i2l (v := a.toInt64) S9.1 S9.2.1 dL_law_964 rfl ?_
    refine W.lcmp S9.1 S9.2.1 dL_law_965 ?_
    refine mi_top (v' := .int (nI 0)) (congrArg Value.int (lw_cmp a.toInt64)) ?_
    refine mi_if_eq (tgt := 971) S9 (a := 0) (by omega) dL_law_966 (by decide) (fun _ => ?_) (fun z => absurd rfl z)
    refine lv_goto (tgt := 1433) S9.1 S9.2.1 dL_law_971 (by decide) ?_
    exact K S1 H locs ls hO1 ⟨ad1, cf2, f1, g1, _, hW2, hX1.same hO1 (fun r hr => ⟨hs2 r (Or.inl (by omega)), rfl⟩), hR1, hm2, (hs2 1500 (Or.inl (by omega))).trans c15, hq0, hq1, hq2⟩ hS (lv_sub hl [2, 3, 4, 5, 6] rfl)
set_option maxHeartbeats 4000000 in
set_option maxRecDepth 100000 in
theorem lw_case_18 {p : Program} {l : Launch} {e : Env} {s : State} {m : MethodId} {below : List Frame} {meth : Method} {c : Code} {b L : Nat} {xs : Nat → Int32} {D : va_G} (hst : l.stackTraces = false) (S9 : CallFix p m c cL_law 7 s #[Value.ref b] (lw_w0 :: mi_G) RL) (hX9 : va_X b L xs s s.heap) (hbl : b < s.heap.size) (hL : L ≤ 2048) (E : mi_E D (fun q => s.heap.size ≤ q) s) {S : sT} (hO : st_ok S) {q0 q1 q2 i cells slots : Nat} {H : Heap} {locs : List Loc} {ls : Array Slot} (hi : i + 4 ≤ L) (hI : lw_I D (fun q => s.heap.size ≤ q) S q0 q1 q2 H) (hS : va_S (fun q => s.heap.size ≤ q) s.heap H locs) (hl : lv_has ls 7 [(4, .int (nI i)), (0, .ref b), (1, .ref q0), (2, .ref q1), (3, .ref q2)]) (hcc : cells + 6 ≤ 601024) (hss : slots + 2019 ≤ 7293033) (K : ∀ (S1 : sT) (H : Heap) (locs : List Loc) (ls : Array Slot), st_ok S1 → lw_I D (fun q => s.heap.size ≤ q) S1 q0 q1 q2 H → va_S (fun q => s.heap.size ≤ q) s.heap H locs → lv_has ls 7 [(4, .int (nI i)), (0, .ref b), (1, .ref q0), (2, .ref q1), (3, .ref q2)] → W p l e room_1 s m #[Value.ref b] below meth c H locs (cells + 6) (slots + 2019) (lw_Z below #[Value.ref b] s) (F0 m 1433 ls [])) : W p l e room_1 s m #[Value.ref b] below meth c H locs cells slots (lw_Z below #[Value.ref b] s) (F0 m 974 ls []) := by
  obtain ⟨ad, cf, f, g, o, hW, hX, hR, hm, ho, ea, eb, ec⟩ := hI
  obtain ⟨k, a, S1, hk3, hO1, hC, hM⟩ := lw_o_strike l D (fun q => s.heap.size ≤ q) hst (fun a b h1 h2 => Nat.le_trans h1 h2) hO hR (xs (i + 1))
  refine lv_aload_n S9.1 S9.2.1 dL_law_974 rfl (lv_at hl 2 rfl) ?_
  refine lv_aload_n S9.1 S9.2.1 dL_law_975 rfl (lv_at hl 1 rfl) ?_
  refine lv_iload S9.1 S9.2.1 dL_law_976 (lv_at hl 0 rfl) ?_
  refine lv_iconst (v := nI 1) S9.1 S9.2.1 dL_law_978 (by decide) ?_
  refine mi_iadd S9 dL_law_979 ?_
  refine lw_sld S9 hX9 hbl hS (by omega) hL dL_law_980 ?_
  refine lv_aload_n S9.1 S9.2.1 dL_law_981 rfl (lv_at hl 4 rfl) ?_
  have hH := c_Lstrike l D (fun q => s.heap.size ≤ q) hk3 ho hX.o0 hO1 (hC ad cf hX)
  rw [ea, ec] at hH
  refine mi_cMi (mi_runSH (P := mi_W D (fun q => s.heap.size ≤ q) ad cf) (As := [.ref q0, .int (xs (i + 1)), .ref q2]) (rest := []) S9 E hS hW hH mw_565 mw_563 mw_564 mw_32 ⟨by decide, by decide, by decide +kernel⟩ ⟨rfl, rfl, Nat.le_of_ble_eq_true rfl, Nat.le_of_ble_eq_true rfl⟩ (n := 3) rfl hl.1 rfl (Nat.le_of_ble_eq_true rfl) dL_law_982 ⟨by show cells + 6 ≤ 601024; omega, by show slots + 2019 ≤ 7293033; omega⟩) hS (fun r9 H locs hp9 hS hz8 => ?_)
  obtain ⟨e9, ad1, cf1, o1, hW, hX1, hf1, h15, h00, c15, hans⟩ := hp9
  refine mi_top (v' := .int (nI k)) (by rw [e9]) ?_
  refine lv_istore (lv' := [(5, .int (nI k)), (4, .int (nI i)), (0, .ref b), (1, .ref q0), (2, .ref q1), (3, .ref q2)]) S9.1 S9.2.1 dL_law_985 hl (by decide) rfl (fun ls hl => ?_)
  have hq0 : ad1 0 = q0 := h00.trans ea
  have hq1 : ad1 1000020 = q1 := ((hf1 1000020 (by omega) (by omega)).2).trans eb
  have hq2 : ad1 1500 = q2 := h15.trans ec
  have hMo : mo_W D (fun q => s.heap.size ≤ q) ad1 cf1 f g H := ⟨cf1, hW, mo_at_keep hm (fun r hr => hf1 r (by omega) (by omega)), fun r _ => rfl⟩
  obtain ⟨d9, hd9, hM9⟩ := hM ad1 cf1
  refine lv_aload_n S9.1 S9.2.1 dL_law_987 rfl (lv_at hl 4 rfl) ?_
  refine lv_aload_n S9.1 S9.2.1 dL_law_988 rfl (lv_at hl 2 rfl) ?_
  refine lv_iload S9.1 S9.2.1 dL_law_989 (lv_at hl 1 rfl) ?_
  refine lv_iconst (v := nI 1) S9.1 S9.2.1 dL_law_991 (by decide) ?_
  refine mi_iadd S9 dL_law_992 ?_
  refine lw_sld S9 hX9 hbl hS (by omega) hL dL_law_993 ?_
  have hr8 := hMo.recv E
  rw [hq1] at hM9 hr8
  refine mi_cMi (mi_runV (P := mo_W D (fun q => s.heap.size ≤ q) ad1 cf1 f g) (As := [.int (xs (i + 1))]) (rest := []) S9 E hS hMo q1 hM9 hr8 mw_859 mw_856 mw_857 mw_858 mw_43 ⟨by decide, by decide, by decide +kernel⟩ ⟨rfl, rfl, by show d9 + 1 ≤ 12; omega, by show 8 + (4 + 11) + 37 * d9 ≤ 452; omega⟩ (n := 1) rfl hl.1 rfl (Nat.le_of_ble_eq_true rfl) dL_law_994 ⟨by show cells + 6 + 0 ≤ 601024; omega, by show slots + 2019 + 0 ≤ 7293033; omega⟩) hS (fun r8 H locs hp8 hS hz7 => ?_)
  obtain ⟨hans8, f1, g1, hM1, hR1, hf0⟩ := hp8
  refine lv_istore (lv' := [(6, .int r8), (5, .int (nI k)), (4, .int (nI i)), (0, .ref b), (1, .ref q0), (2, .ref q1), (3, .ref q2)]) S9.1 S9.2.1 dL_law_997 hl (by decide) rfl (fun ls hl => ?_)
  refine lv_aload_n S9.1 S9.2.1 dL_law_999 rfl (lv_at hl 5 rfl) ?_
  have hT := c_mthrown l D (fun q => s.heap.size ≤ q) (cf0 := cf1) (ad := ad1) (g := g1) hf0
  have hr7 := hM1.recv E
  rw [hq1] at hT hr7
  refine mi_cR (mi_runV (P := mo_W D (fun q => s.heap.size ≤ q) ad1 cf1 f1 g1) (As := []) (rest := []) S9 E hS hM1 q1 hT hr7 mw_726 mw_723 mw_724 mw_725 mw_43 ⟨by decide, by decide, by decide +kernel⟩ ⟨rfl, rfl, Nat.le_of_ble_eq_true rfl, Nat.le_of_ble_eq_true rfl⟩ (n := 0) rfl hl.1 rfl (Nat.le_of_ble_eq_true rfl) dL_law_1000 ⟨by show cells + 6 + 0 + 0 ≤ 601024; omega, by show slots + 2019 + 0 + 0 ≤ 7293033; omega⟩) (fun r7 e7 => ?_)
  refine mi_top (v' := .int (nI k)) (by rw [e7]) ?_
  refine lv_iload S9.1 S9.2.1 dL_law_1003 (lv_at hl 1 rfl) ?_
  refine mi_icmp_eq (tgt := 1010) S9 (by omega) (by omega) dL_law_1005 (by decide) (fun _ => ?_) (fun z => absurd rfl z)
  obtain ⟨cf2, hW2, hm2, hs2⟩ := hM1
  refine lv_iload S9.1 S9.2.1 dL_law_1010 (lv_at hl 1 rfl) ?_
  refine mi_if_ne (tgt := 1027) S9 (by omega) dL_law_1012 (by decide) (fun c1 => ?_) (fun c1 => ?_)
  · refine lv_goto (tgt := 1433) S9.1 S9.2.1 dL_law_1027 (by decide) ?_
    exact K S1 H locs ls hO1 ⟨ad1, cf2, f1, g1, _, hW2, hX1.same hO1 (fun r hr => ⟨hs2 r (Or.inl (by omega)), rfl⟩), hR1, hm2, (hs2 1500 (Or.inl (by omega))).trans c15, hq0, hq1, hq2⟩ hS (lv_sub hl [2, 3, 4, 5, 6] rfl)
  · refine lv_aload_n S9.1 S9.2.1 dL_law_1015 rfl (lv_at hl 6 rfl) ?_
    refine lv_iconst (v := nI 0) S9.1 S9.2.1 dL_law_1016 (by decide) ?_
    refine mi_lald S9 E hW2 1500 hq2 ((hs2 1500 (Or.inl (by omega))).trans c15) (by omega) (by omega) dL_law_1017 ?_
    refine mi_top (v' := .long a.toInt64) (by rw [hans c1]) ?_
    refine lv_iload S9.1 S9.2.1 dL_law_1018 (lv_at hl 0 rfl) ?_
    refine mi_top (v' := .int a) (by rw [hans8 c1]) ?_
    refine lv_i2l (v := a.toInt64) S9.1 S9.2.1 dL_law_1020 rfl ?_
    refine W.lcmp S9.1 S9.2.1 dL_law_1021 ?_
    refine mi_top (v' := .int (nI 0)) (congrArg Value.int (lw_cmp a.toInt64)) ?_
    refine mi_if_eq (tgt := 1027) S9 (a := 0) (by omega) dL_law_1022 (by decide) (fun _ => ?_) (fun z => absurd rfl z)
    refine lv_goto (tgt := 1433) S9.1 S9.2.1 dL_law_1027 (by decide) ?_
    exact K S1 H locs ls hO1 ⟨ad1, cf2, f1, g1, _, hW2, hX1.same hO1 (fun r hr => ⟨hs2 r (Or.inl (by omega)), rfl⟩), hR1, hm2, (hs2 1500 (Or.inl (by omega))).trans c15, hq0, hq1, hq2⟩ hS (lv_sub hl [2, 3, 4, 5, 6] rfl)
set_option maxHeartbeats 4000000 in
set_option maxRecDepth 100000 in
theorem lw_case_19 {p : Program} {l : Launch} {e : Env} {s : State} {m : MethodId} {below : List Frame} {meth : Method} {c : Code} {b L : Nat} {xs : Nat → Int32} {D : va_G} (hst : l.stackTraces = false) (S9 : CallFix p m c cL_law 7 s #[Value.ref b] (lw_w0 :: mi_G) RL) (hX9 : va_X b L xs s s.heap) (hbl : b < s.heap.size) (hL : L ≤ 2048) (E : mi_E D (fun q => s.heap.size ≤ q) s) {S : sT} (hO : st_ok S) {q0 q1 q2 i cells slots : Nat} {H : Heap} {locs : List Loc} {ls : Array Slot} (hi : i + 4 ≤ L) (hI : lw_I D (fun q => s.heap.size ≤ q) S q0 q1 q2 H) (hS : va_S (fun q => s.heap.size ≤ q) s.heap H locs) (hl : lv_has ls 7 [(4, .int (nI i)), (0, .ref b), (1, .ref q0), (2, .ref q1), (3, .ref q2)]) (hcc : cells + 6 ≤ 601024) (hss : slots + 2019 ≤ 7293033) (K : ∀ (S1 : sT) (H : Heap) (locs : List Loc) (ls : Array Slot), st_ok S1 → lw_I D (fun q => s.heap.size ≤ q) S1 q0 q1 q2 H → va_S (fun q => s.heap.size ≤ q) s.heap H locs → lv_has ls 7 [(4, .int (nI i)), (0, .ref b), (1, .ref q0), (2, .ref q1), (3, .ref q2)] → W p l e room_1 s m #[Value.ref b] below meth c H locs (cells + 6) (slots + 2019) (lw_Z below #[Value.ref b] s) (F0 m 1433 ls [])) : W p l e room_1 s m #[Value.ref b] below meth c H locs cells slots (lw_Z below #[Value.ref b] s) (F0 m 1030 ls []) := by
  obtain ⟨ad, cf, f, g, o, hW, hX, hR, hm, ho, ea, eb, ec⟩ := hI
  obtain ⟨k, a, S1, hk3, hO1, hC, hM⟩ := lw_o_forge l D (fun q => s.heap.size ≤ q) hst (fun a b h1 h2 => Nat.le_trans h1 h2) hO hR (xs (i + 1)) (xs (i + 2)) (xs (i + 3))
  refine lv_aload_n S9.1 S9.2.1 dL_law_1030 rfl (lv_at hl 2 rfl) ?_
  refine lv_aload_n S9.1 S9.2.1 dL_law_1031 rfl (lv_at hl 1 rfl) ?_
  refine lv_iload S9.1 S9.2.1 dL_law_1032 (lv_at hl 0 rfl) ?_
  refine lv_iconst (v := nI 1) S9.1 S9.2.1 dL_law_1034 (by decide) ?_
  refine mi_iadd S9 dL_law_1035 ?_
  refine lw_sld S9 hX9 hbl hS (by omega) hL dL_law_1036 ?_
  refine lv_aload_n S9.1 S9.2.1 dL_law_1037 rfl (lv_at hl 1 rfl) ?_
  refine lv_iload S9.1 S9.2.1 dL_law_1038 (lv_at hl 0 rfl) ?_
  refine lv_iconst (v := nI 2) S9.1 S9.2.1 dL_law_1040 (by decide) ?_
  refine mi_iadd S9 dL_law_1041 ?_
  refine lw_sld S9 hX9 hbl hS (by omega) hL dL_law_1042 ?_
  refine lv_aload_n S9.1 S9.2.1 dL_law_1043 rfl (lv_at hl 1 rfl) ?_
  refine lv_iload S9.1 S9.2.1 dL_law_1044 (lv_at hl 0 rfl) ?_
  refine lv_iconst (v := nI 3) S9.1 S9.2.1 dL_law_1046 (by decide) ?_
  refine mi_iadd S9 dL_law_1047 ?_
  refine lw_sld S9 hX9 hbl hS (by omega) hL dL_law_1048 ?_
  refine lv_aload_n S9.1 S9.2.1 dL_law_1049 rfl (lv_at hl 4 rfl) ?_
  have hH := c_Lforge l D (fun q => s.heap.size ≤ q) hk3 ho hX.o0 hO1 (hC ad cf hX)
  rw [ea, ec] at hH
  refine mi_cMi (mi_runSH (P := mi_W D (fun q => s.heap.size ≤ q) ad cf) (As := [.ref q0, .int (xs (i + 1)), .int (xs (i + 2)), .int (xs (i + 3)), .ref q2]) (rest := []) S9 E hS hW hH mw_615 mw_613 mw_614 mw_32 ⟨by decide, by decide, by decide +kernel⟩ ⟨rfl, rfl, Nat.le_of_ble_eq_true rfl, Nat.le_of_ble_eq_true rfl⟩ (n := 5) rfl hl.1 rfl (Nat.le_of_ble_eq_true rfl) dL_law_1050 ⟨by show cells + 6 ≤ 601024; omega, by show slots + 2019 ≤ 7293033; omega⟩) hS (fun r9 H locs hp9 hS hz8 => ?_)
  obtain ⟨e9, ad1, cf1, o1, hW, hX1, hf1, h15, h00, c15, hans⟩ := hp9
  refine mi_top (v' := .int (nI k)) (by rw [e9]) ?_
  refine lv_istore (lv' := [(5, .int (nI k)), (4, .int (nI i)), (0, .ref b), (1, .ref q0), (2, .ref q1), (3, .ref q2)]) S9.1 S9.2.1 dL_law_1053 hl (by decide) rfl (fun ls hl => ?_)
  have hq0 : ad1 0 = q0 := h00.trans ea
  have hq1 : ad1 1000020 = q1 := ((hf1 1000020 (by omega) (by omega)).2).trans eb
  have hq2 : ad1 1500 = q2 := h15.trans ec
  have hMo : mo_W D (fun q => s.heap.size ≤ q) ad1 cf1 f g H := ⟨cf1, hW, mo_at_keep hm (fun r hr => hf1 r (by omega) (by omega)), fun r _ => rfl⟩
  obtain ⟨d9, hd9, hM9⟩ := hM ad1 cf1
  refine lv_aload_n S9.1 S9.2.1 dL_law_1055 rfl (lv_at hl 4 rfl) ?_
  refine lv_aload_n S9.1 S9.2.1 dL_law_1056 rfl (lv_at hl 2 rfl) ?_
  refine lv_iload S9.1 S9.2.1 dL_law_1057 (lv_at hl 1 rfl) ?_
  refine lv_iconst (v := nI 1) S9.1 S9.2.1 dL_law_1059 (by decide) ?_
  refine mi_iadd S9 dL_law_1060 ?_
  refine lw_sld S9 hX9 hbl hS (by omega) hL dL_law_1061 ?_
  refine lv_aload_n S9.1 S9.2.1 dL_law_1062 rfl (lv_at hl 2 rfl) ?_
  refine lv_iload S9.1 S9.2.1 dL_law_1063 (lv_at hl 1 rfl) ?_
  refine lv_iconst (v := nI 2) S9.1 S9.2.1 dL_law_1065 (by decide) ?_
  refine mi_iadd S9 dL_law_1066 ?_
  refine lw_sld S9 hX9 hbl hS (by omega) hL dL_law_1067 ?_
  refine lv_aload_n S9.1 S9.2.1 dL_law_1068 rfl (lv_at hl 2 rfl) ?_
  refine lv_iload S9.1 S9.2.1 dL_law_1069 (lv_at hl 1 rfl) ?_
  refine lv_iconst (v := nI 3) S9.1 S9.2.1 dL_law_1071 (by decide) ?_
  refine mi_iadd S9 dL_law_1072 ?_
  refine lw_sld S9 hX9 hbl hS (by omega) hL dL_law_1073 ?_
  have hr8 := hMo.recv E
  rw [hq1] at hM9 hr8
  refine mi_cMi (mi_runV (P := mo_W D (fun q => s.heap.size ≤ q) ad1 cf1 f g) (As := [.int (xs (i + 1)), .int (xs (i + 2)), .int (xs (i + 3))]) (rest := []) S9 E hS hMo q1 hM9 hr8 mw_867 mw_864 mw_865 mw_866 mw_43 ⟨by decide, by decide, by decide +kernel⟩ ⟨rfl, rfl, by show d9 + 1 ≤ 12; omega, by show 8 + (5 + 11) + 37 * d9 ≤ 452; omega⟩ (n := 3) rfl hl.1 rfl (Nat.le_of_ble_eq_true rfl) dL_law_1074 ⟨by show cells + 6 + 0 ≤ 601024; omega, by show slots + 2019 + 0 ≤ 7293033; omega⟩) hS (fun r8 H locs hp8 hS hz7 => ?_)
  obtain ⟨hans8, f1, g1, hM1, hR1, hf0⟩ := hp8
  refine lv_istore (lv' := [(6, .int r8), (5, .int (nI k)), (4, .int (nI i)), (0, .ref b), (1, .ref q0), (2, .ref q1), (3, .ref q2)]) S9.1 S9.2.1 dL_law_1077 hl (by decide) rfl (fun ls hl => ?_)
  refine lv_aload_n S9.1 S9.2.1 dL_law_1079 rfl (lv_at hl 5 rfl) ?_
  have hT := c_mthrown l D (fun q => s.heap.size ≤ q) (cf0 := cf1) (ad := ad1) (g := g1) hf0
  have hr7 := hM1.recv E
  rw [hq1] at hT hr7
  refine mi_cR (mi_runV (P := mo_W D (fun q => s.heap.size ≤ q) ad1 cf1 f1 g1) (As := []) (rest := []) S9 E hS hM1 q1 hT hr7 mw_726 mw_723 mw_724 mw_725 mw_43 ⟨by decide, by decide, by decide +kernel⟩ ⟨rfl, rfl, Nat.le_of_ble_eq_true rfl, Nat.le_of_ble_eq_true rfl⟩ (n := 0) rfl hl.1 rfl (Nat.le_of_ble_eq_true rfl) dL_law_1080 ⟨by show cells + 6 + 0 + 0 ≤ 601024; omega, by show slots + 2019 + 0 + 0 ≤ 7293033; omega⟩) (fun r7 e7 => ?_)
  refine mi_top (v' := .int (nI k)) (by rw [e7]) ?_
  refine lv_iload S9.1 S9.2.1 dL_law_1083 (lv_at hl 1 rfl) ?_
  refine mi_icmp_eq (tgt := 1090) S9 (by omega) (by omega) dL_law_1085 (by decide) (fun _ => ?_) (fun z => absurd rfl z)
  obtain ⟨cf2, hW2, hm2, hs2⟩ := hM1
  refine lv_iload S9.1 S9.2.1 dL_law_1090 (lv_at hl 1 rfl) ?_
  refine mi_if_ne (tgt := 1107) S9 (by omega) dL_law_1092 (by decide) (fun c1 => ?_) (fun c1 => ?_)
  · refine lv_goto (tgt := 1433) S9.1 S9.2.1 dL_law_1107 (by decide) ?_
    exact K S1 H locs ls hO1 ⟨ad1, cf2, f1, g1, _, hW2, hX1.same hO1 (fun r hr => ⟨hs2 r (Or.inl (by omega)), rfl⟩), hR1, hm2, (hs2 1500 (Or.inl (by omega))).trans c15, hq0, hq1, hq2⟩ hS (lv_sub hl [2, 3, 4, 5, 6] rfl)
  · refine lv_aload_n S9.1 S9.2.1 dL_law_1095 rfl (lv_at hl 6 rfl) ?_
    refine lv_iconst (v := nI 0) S9.1 S9.2.1 dL_law_1096 (by decide) ?_
    refine mi_lald S9 E hW2 1500 hq2 ((hs2 1500 (Or.inl (by omega))).trans c15) (by omega) (by omega) dL_law_1097 ?_
    refine mi_top (v' := .long a.toInt64) (by rw [hans c1]) ?_
    refine lv_iload S9.1 S9.2.1 dL_law_1098 (lv_at hl 0 rfl) ?_
    refine mi_top (v' := .int a) (by rw [hans8 c1]) ?_
    refine lv_i2l (v := a.toInt64) S9.1 S9.2.1 dL_law_1100 rfl ?_
    refine W.lcmp S9.1 S9.2.1 dL_law_1101 ?_
    refine mi_top (v' := .int (nI 0)) (congrArg Value.int (lw_cmp a.toInt64)) ?_
    refine mi_if_eq (tgt := 1107) S9 (a := 0) (by omega) dL_law_1102 (by decide) (fun _ => ?_) (fun z => absurd rfl z)
    refine lv_goto (tgt := 1433) S9.1 S9.2.1 dL_law_1107 (by decide) ?_
    exact K S1 H locs ls hO1 ⟨ad1, cf2, f1, g1, _, hW2, hX1.same hO1 (fun r hr => ⟨hs2 r (Or.inl (by omega)), rfl⟩), hR1, hm2, (hs2 1500 (Or.inl (by omega))).trans c15, hq0, hq1, hq2⟩ hS (lv_sub hl [2, 3, 4, 5, 6] rfl)
set_option maxHeartbeats 4000000 in
set_option maxRecDepth 100000 in
theorem lw_case_20 {p : Program} {l : Launch} {e : Env} {s : State} {m : MethodId} {below : List Frame} {meth : Method} {c : Code} {b L : Nat} {xs : Nat → Int32} {D : va_G} (hst : l.stackTraces = false) (S9 : CallFix p m c cL_law 7 s #[Value.ref b] (lw_w0 :: mi_G) RL) (hX9 : va_X b L xs s s.heap) (hbl : b < s.heap.size) (hL : L ≤ 2048) (E : mi_E D (fun q => s.heap.size ≤ q) s) {S : sT} (hO : st_ok S) {q0 q1 q2 i cells slots : Nat} {H : Heap} {locs : List Loc} {ls : Array Slot} (hi : i + 4 ≤ L) (hI : lw_I D (fun q => s.heap.size ≤ q) S q0 q1 q2 H) (hS : va_S (fun q => s.heap.size ≤ q) s.heap H locs) (hl : lv_has ls 7 [(4, .int (nI i)), (0, .ref b), (1, .ref q0), (2, .ref q1), (3, .ref q2)]) (hcc : cells + 6 ≤ 601024) (hss : slots + 2019 ≤ 7293033) (K : ∀ (S1 : sT) (H : Heap) (locs : List Loc) (ls : Array Slot), st_ok S1 → lw_I D (fun q => s.heap.size ≤ q) S1 q0 q1 q2 H → va_S (fun q => s.heap.size ≤ q) s.heap H locs → lv_has ls 7 [(4, .int (nI i)), (0, .ref b), (1, .ref q0), (2, .ref q1), (3, .ref q2)] → W p l e room_1 s m #[Value.ref b] below meth c H locs (cells + 6) (slots + 2019) (lw_Z below #[Value.ref b] s) (F0 m 1433 ls [])) : W p l e room_1 s m #[Value.ref b] below meth c H locs cells slots (lw_Z below #[Value.ref b] s) (F0 m 1110 ls []) := by
  obtain ⟨ad, cf, f, g, o, hW, hX, hR, hm, ho, ea, eb, ec⟩ := hI
  obtain ⟨k, a, S1, hk3, hO1, hC, hM⟩ := lw_o_dieHeight l D (fun q => s.heap.size ≤ q) hst (fun a b h1 h2 => Nat.le_trans h1 h2) hO hR (xs (i + 1)) (xs (i + 2))
  refine lv_aload_n S9.1 S9.2.1 dL_law_1110 rfl (lv_at hl 2 rfl) ?_
  refine lv_aload_n S9.1 S9.2.1 dL_law_1111 rfl (lv_at hl 1 rfl) ?_
  refine lv_iload S9.1 S9.2.1 dL_law_1112 (lv_at hl 0 rfl) ?_
  refine lv_iconst (v := nI 1) S9.1 S9.2.1 dL_law_1114 (by decide) ?_
  refine mi_iadd S9 dL_law_1115 ?_
  refine lw_sld S9 hX9 hbl hS (by omega) hL dL_law_1116 ?_
  refine lv_aload_n S9.1 S9.2.1 dL_law_1117 rfl (lv_at hl 1 rfl) ?_
  refine lv_iload S9.1 S9.2.1 dL_law_1118 (lv_at hl 0 rfl) ?_
  refine lv_iconst (v := nI 2) S9.1 S9.2.1 dL_law_1120 (by decide) ?_
  refine mi_iadd S9 dL_law_1121 ?_
  refine lw_sld S9 hX9 hbl hS (by omega) hL dL_law_1122 ?_
  refine lv_aload_n S9.1 S9.2.1 dL_law_1123 rfl (lv_at hl 4 rfl) ?_
  have hH := c_LdieHeight l D (fun q => s.heap.size ≤ q) hk3 ho hX.o0 hO1 (hC ad cf hX)
  rw [ea, ec] at hH
  refine mi_cMi (mi_runSH (P := mi_W D (fun q => s.heap.size ≤ q) ad cf) (As := [.ref q0, .int (xs (i + 1)), .int (xs (i + 2)), .ref q2]) (rest := []) S9 E hS hW hH mw_631 mw_629 mw_630 mw_32 ⟨by decide, by decide, by decide +kernel⟩ ⟨rfl, rfl, Nat.le_of_ble_eq_true rfl, Nat.le_of_ble_eq_true rfl⟩ (n := 4) rfl hl.1 rfl (Nat.le_of_ble_eq_true rfl) dL_law_1124 ⟨by show cells + 6 ≤ 601024; omega, by show slots + 2019 ≤ 7293033; omega⟩) hS (fun r9 H locs hp9 hS hz8 => ?_)
  obtain ⟨e9, ad1, cf1, o1, hW, hX1, hf1, h15, h00, c15, hans⟩ := hp9
  refine mi_top (v' := .int (nI k)) (by rw [e9]) ?_
  refine lv_istore (lv' := [(5, .int (nI k)), (4, .int (nI i)), (0, .ref b), (1, .ref q0), (2, .ref q1), (3, .ref q2)]) S9.1 S9.2.1 dL_law_1127 hl (by decide) rfl (fun ls hl => ?_)
  have hq0 : ad1 0 = q0 := h00.trans ea
  have hq1 : ad1 1000020 = q1 := ((hf1 1000020 (by omega) (by omega)).2).trans eb
  have hq2 : ad1 1500 = q2 := h15.trans ec
  have hMo : mo_W D (fun q => s.heap.size ≤ q) ad1 cf1 f g H := ⟨cf1, hW, mo_at_keep hm (fun r hr => hf1 r (by omega) (by omega)), fun r _ => rfl⟩
  obtain ⟨d9, hd9, hM9⟩ := hM ad1 cf1
  refine lv_aload_n S9.1 S9.2.1 dL_law_1129 rfl (lv_at hl 4 rfl) ?_
  refine lv_aload_n S9.1 S9.2.1 dL_law_1130 rfl (lv_at hl 2 rfl) ?_
  refine lv_iload S9.1 S9.2.1 dL_law_1131 (lv_at hl 1 rfl) ?_
  refine lv_iconst (v := nI 1) S9.1 S9.2.1 dL_law_1133 (by decide) ?_
  refine mi_iadd S9 dL_law_1134 ?_
  refine lw_sld S9 hX9 hbl hS (by omega) hL dL_law_1135 ?_
  refine lv_aload_n S9.1 S9.2.1 dL_law_1136 rfl (lv_at hl 2 rfl) ?_
  refine lv_iload S9.1 S9.2.1 dL_law_1137 (lv_at hl 1 rfl) ?_
  refine lv_iconst (v := nI 2) S9.1 S9.2.1 dL_law_1139 (by decide) ?_
  refine mi_iadd S9 dL_law_1140 ?_
  refine lw_sld S9 hX9 hbl hS (by omega) hL dL_law_1141 ?_
  have hr8 := hMo.recv E
  rw [hq1] at hM9 hr8
  refine mi_cMi (mi_runV (P := mo_W D (fun q => s.heap.size ≤ q) ad1 cf1 f g) (As := [.int (xs (i + 1)), .int (xs (i + 2))]) (rest := []) S9 E hS hMo q1 hM9 hr8 mw_875 mw_872 mw_873 mw_874 mw_43 ⟨by decide, by decide, by decide +kernel⟩ ⟨rfl, rfl, by show d9 + 1 ≤ 12; omega, by show 8 + (3 + 11) + 37 * d9 ≤ 452; omega⟩ (n := 2) rfl hl.1 rfl (Nat.le_of_ble_eq_true rfl) dL_law_1142 ⟨by show cells + 6 + 0 ≤ 601024; omega, by show slots + 2019 + 0 ≤ 7293033; omega⟩) hS (fun r8 H locs hp8 hS hz7 => ?_)
  obtain ⟨hans8, f1, g1, hM1, hR1, hf0⟩ := hp8
  refine lv_istore (lv' := [(6, .int r8), (5, .int (nI k)), (4, .int (nI i)), (0, .ref b), (1, .ref q0), (2, .ref q1), (3, .ref q2)]) S9.1 S9.2.1 dL_law_1145 hl (by decide) rfl (fun ls hl => ?_)
  refine lv_aload_n S9.1 S9.2.1 dL_law_1147 rfl (lv_at hl 5 rfl) ?_
  have hT := c_mthrown l D (fun q => s.heap.size ≤ q) (cf0 := cf1) (ad := ad1) (g := g1) hf0
  have hr7 := hM1.recv E
  rw [hq1] at hT hr7
  refine mi_cR (mi_runV (P := mo_W D (fun q => s.heap.size ≤ q) ad1 cf1 f1 g1) (As := []) (rest := []) S9 E hS hM1 q1 hT hr7 mw_726 mw_723 mw_724 mw_725 mw_43 ⟨by decide, by decide, by decide +kernel⟩ ⟨rfl, rfl, Nat.le_of_ble_eq_true rfl, Nat.le_of_ble_eq_true rfl⟩ (n := 0) rfl hl.1 rfl (Nat.le_of_ble_eq_true rfl) dL_law_1148 ⟨by show cells + 6 + 0 + 0 ≤ 601024; omega, by show slots + 2019 + 0 + 0 ≤ 7293033; omega⟩) (fun r7 e7 => ?_)
  refine mi_top (v' := .int (nI k)) (by rw [e7]) ?_
  refine lv_iload S9.1 S9.2.1 dL_law_1151 (lv_at hl 1 rfl) ?_
  refine mi_icmp_eq (tgt := 1158) S9 (by omega) (by omega) dL_law_1153 (by decide) (fun _ => ?_) (fun z => absurd rfl z)
  obtain ⟨cf2, hW2, hm2, hs2⟩ := hM1
  refine lv_iload S9.1 S9.2.1 dL_law_1158 (lv_at hl 1 rfl) ?_
  refine mi_if_ne (tgt := 1175) S9 (by omega) dL_law_1160 (by decide) (fun c1 => ?_) (fun c1 => ?_)
  · refine lv_goto (tgt := 1433) S9.1 S9.2.1 dL_law_1175 (by decide) ?_
    exact K S1 H locs ls hO1 ⟨ad1, cf2, f1, g1, _, hW2, hX1.same hO1 (fun r hr => ⟨hs2 r (Or.inl (by omega)), rfl⟩), hR1, hm2, (hs2 1500 (Or.inl (by omega))).trans c15, hq0, hq1, hq2⟩ hS (lv_sub hl [2, 3, 4, 5, 6] rfl)
  · refine lv_aload_n S9.1 S9.2.1 dL_law_1163 rfl (lv_at hl 6 rfl) ?_
    refine lv_iconst (v := nI 0) S9.1 S9.2.1 dL_law_1164 (by decide) ?_
    refine mi_lald S9 E hW2 1500 hq2 ((hs2 1500 (Or.inl (by omega))).trans c15) (by omega) (by omega) dL_law_1165 ?_
    refine mi_top (v' := .long a.toInt64) (by rw [hans c1]) ?_
    refine lv_iload S9.1 S9.2.1 dL_law_1166 (lv_at hl 0 rfl) ?_
    refine mi_top (v' := .int a) (by rw [hans8 c1]) ?_
    refine lv_i2l (v := a.toInt64) S9.1 S9.2.1 dL_law_1168 rfl ?_
    refine W.lcmp S9.1 S9.2.1 dL_law_1169 ?_
    refine mi_top (v' := .int (nI 0)) (congrArg Value.int (lw_cmp a.toInt64)) ?_
    refine mi_if_eq (tgt := 1175) S9 (a := 0) (by omega) dL_law_1170 (by decide) (fun _ => ?_) (fun z => absurd rfl z)
    refine lv_goto (tgt := 1433) S9.1 S9.2.1 dL_law_1175 (by decide) ?_
    exact K S1 H locs ls hO1 ⟨ad1, cf2, f1, g1, _, hW2, hX1.same hO1 (fun r hr => ⟨hs2 r (Or.inl (by omega)), rfl⟩), hR1, hm2, (hs2 1500 (Or.inl (by omega))).trans c15, hq0, hq1, hq2⟩ hS (lv_sub hl [2, 3, 4, 5, 6] rfl)
set_option maxHeartbeats 4000000 in
set_option maxRecDepth 100000 in
theorem lw_case_21 {p : Program} {l : Launch} {e : Env} {s : State} {m : MethodId} {below : List Frame} {meth : Method} {c : Code} {b L : Nat} {xs : Nat → Int32} {D : va_G} (hst : l.stackTraces = false) (S9 : CallFix p m c cL_law 7 s #[Value.ref b] (lw_w0 :: mi_G) RL) (hX9 : va_X b L xs s s.heap) (hbl : b < s.heap.size) (hL : L ≤ 2048) (E : mi_E D (fun q => s.heap.size ≤ q) s) {S : sT} (hO : st_ok S) {q0 q1 q2 i cells slots : Nat} {H : Heap} {locs : List Loc} {ls : Array Slot} (hi : i + 4 ≤ L) (hI : lw_I D (fun q => s.heap.size ≤ q) S q0 q1 q2 H) (hS : va_S (fun q => s.heap.size ≤ q) s.heap H locs) (hl : lv_has ls 7 [(4, .int (nI i)), (0, .ref b), (1, .ref q0), (2, .ref q1), (3, .ref q2)]) (hcc : cells + 6 ≤ 601024) (hss : slots + 2019 ≤ 7293033) (K : ∀ (S1 : sT) (H : Heap) (locs : List Loc) (ls : Array Slot), st_ok S1 → lw_I D (fun q => s.heap.size ≤ q) S1 q0 q1 q2 H → va_S (fun q => s.heap.size ≤ q) s.heap H locs → lv_has ls 7 [(4, .int (nI i)), (0, .ref b), (1, .ref q0), (2, .ref q1), (3, .ref q2)] → W p l e room_1 s m #[Value.ref b] below meth c H locs (cells + 6) (slots + 2019) (lw_Z below #[Value.ref b] s) (F0 m 1433 ls [])) : W p l e room_1 s m #[Value.ref b] below meth c H locs cells slots (lw_Z below #[Value.ref b] s) (F0 m 1178 ls []) := by
  obtain ⟨ad, cf, f, g, o, hW, hX, hR, hm, ho, ea, eb, ec⟩ := hI
  obtain ⟨k, a, S1, hk3, hO1, hC, hM⟩ := lw_o_coinHeight l D (fun q => s.heap.size ≤ q) hst (fun a b h1 h2 => Nat.le_trans h1 h2) hO hR (xs (i + 1)) (xs (i + 2))
  refine lv_aload_n S9.1 S9.2.1 dL_law_1178 rfl (lv_at hl 2 rfl) ?_
  refine lv_aload_n S9.1 S9.2.1 dL_law_1179 rfl (lv_at hl 1 rfl) ?_
  refine lv_iload S9.1 S9.2.1 dL_law_1180 (lv_at hl 0 rfl) ?_
  refine lv_iconst (v := nI 1) S9.1 S9.2.1 dL_law_1182 (by decide) ?_
  refine mi_iadd S9 dL_law_1183 ?_
  refine lw_sld S9 hX9 hbl hS (by omega) hL dL_law_1184 ?_
  refine lv_aload_n S9.1 S9.2.1 dL_law_1185 rfl (lv_at hl 1 rfl) ?_
  refine lv_iload S9.1 S9.2.1 dL_law_1186 (lv_at hl 0 rfl) ?_
  refine lv_iconst (v := nI 2) S9.1 S9.2.1 dL_law_1188 (by decide) ?_
  refine mi_iadd S9 dL_law_1189 ?_
  refine lw_sld S9 hX9 hbl hS (by omega) hL dL_law_1190 ?_
  refine lv_aload_n S9.1 S9.2.1 dL_law_1191 rfl (lv_at hl 4 rfl) ?_
  have hH := c_LcoinHeight l D (fun q => s.heap.size ≤ q) hk3 ho hX.o0 hO1 (hC ad cf hX)
  rw [ea, ec] at hH
  refine mi_cMi (mi_runSH (P := mi_W D (fun q => s.heap.size ≤ q) ad cf) (As := [.ref q0, .int (xs (i + 1)), .int (xs (i + 2)), .ref q2]) (rest := []) S9 E hS hW hH mw_638 mw_636 mw_637 mw_32 ⟨by decide, by decide, by decide +kernel⟩ ⟨rfl, rfl, Nat.le_of_ble_eq_true rfl, Nat.le_of_ble_eq_true rfl⟩ (n := 4) rfl hl.1 rfl (Nat.le_of_ble_eq_true rfl) dL_law_1192 ⟨by show cells + 6 ≤ 601024; omega, by show slots + 2019 ≤ 7293033; omega⟩) hS (fun r9 H locs hp9 hS hz8 => ?_)
  obtain ⟨e9, ad1, cf1, o1, hW, hX1, hf1, h15, h00, c15, hans⟩ := hp9
  refine mi_top (v' := .int (nI k)) (by rw [e9]) ?_
  refine lv_istore (lv' := [(5, .int (nI k)), (4, .int (nI i)), (0, .ref b), (1, .ref q0), (2, .ref q1), (3, .ref q2)]) S9.1 S9.2.1 dL_law_1195 hl (by decide) rfl (fun ls hl => ?_)
  have hq0 : ad1 0 = q0 := h00.trans ea
  have hq1 : ad1 1000020 = q1 := ((hf1 1000020 (by omega) (by omega)).2).trans eb
  have hq2 : ad1 1500 = q2 := h15.trans ec
  have hMo : mo_W D (fun q => s.heap.size ≤ q) ad1 cf1 f g H := ⟨cf1, hW, mo_at_keep hm (fun r hr => hf1 r (by omega) (by omega)), fun r _ => rfl⟩
  obtain ⟨d9, hd9, hM9⟩ := hM ad1 cf1
  refine lv_aload_n S9.1 S9.2.1 dL_law_1197 rfl (lv_at hl 4 rfl) ?_
  refine lv_aload_n S9.1 S9.2.1 dL_law_1198 rfl (lv_at hl 2 rfl) ?_
  refine lv_iload S9.1 S9.2.1 dL_law_1199 (lv_at hl 1 rfl) ?_
  refine lv_iconst (v := nI 1) S9.1 S9.2.1 dL_law_1201 (by decide) ?_
  refine mi_iadd S9 dL_law_1202 ?_
  refine lw_sld S9 hX9 hbl hS (by omega) hL dL_law_1203 ?_
  refine lv_aload_n S9.1 S9.2.1 dL_law_1204 rfl (lv_at hl 2 rfl) ?_
  refine lv_iload S9.1 S9.2.1 dL_law_1205 (lv_at hl 1 rfl) ?_
  refine lv_iconst (v := nI 2) S9.1 S9.2.1 dL_law_1207 (by decide) ?_
  refine mi_iadd S9 dL_law_1208 ?_
  refine lw_sld S9 hX9 hbl hS (by omega) hL dL_law_1209 ?_
  have hr8 := hMo.recv E
  rw [hq1] at hM9 hr8
  refine mi_cMi (mi_runV (P := mo_W D (fun q => s.heap.size ≤ q) ad1 cf1 f g) (As := [.int (xs (i + 1)), .int (xs (i + 2))]) (rest := []) S9 E hS hMo q1 hM9 hr8 mw_879 mw_876 mw_877 mw_878 mw_43 ⟨by decide, by decide, by decide +kernel⟩ ⟨rfl, rfl, by show d9 + 1 ≤ 12; omega, by show 8 + (3 + 11) + 37 * d9 ≤ 452; omega⟩ (n := 2) rfl hl.1 rfl (Nat.le_of_ble_eq_true rfl) dL_law_1210 ⟨by show cells + 6 + 0 ≤ 601024; omega, by show slots + 2019 + 0 ≤ 7293033; omega⟩) hS (fun r8 H locs hp8 hS hz7 => ?_)
  obtain ⟨hans8, f1, g1, hM1, hR1, hf0⟩ := hp8
  refine lv_istore (lv' := [(6, .int r8), (5, .int (nI k)), (4, .int (nI i)), (0, .ref b), (1, .ref q0), (2, .ref q1), (3, .ref q2)]) S9.1 S9.2.1 dL_law_1213 hl (by decide) rfl (fun ls hl => ?_)
  refine lv_aload_n S9.1 S9.2.1 dL_law_1215 rfl (lv_at hl 5 rfl) ?_
  have hT := c_mthrown l D (fun q => s.heap.size ≤ q) (cf0 := cf1) (ad := ad1) (g := g1) hf0
  have hr7 := hM1.recv E
  rw [hq1] at hT hr7
  refine mi_cR (mi_runV (P := mo_W D (fun q => s.heap.size ≤ q) ad1 cf1 f1 g1) (As := []) (rest := []) S9 E hS hM1 q1 hT hr7 mw_726 mw_723 mw_724 mw_725 mw_43 ⟨by decide, by decide, by decide +kernel⟩ ⟨rfl, rfl, Nat.le_of_ble_eq_true rfl, Nat.le_of_ble_eq_true rfl⟩ (n := 0) rfl hl.1 rfl (Nat.le_of_ble_eq_true rfl) dL_law_1216 ⟨by show cells + 6 + 0 + 0 ≤ 601024; omega, by show slots + 2019 + 0 + 0 ≤ 7293033; omega⟩) (fun r7 e7 => ?_)
  refine mi_top (v' := .int (nI k)) (by rw [e7]) ?_
  refine lv_iload S9.1 S9.2.1 dL_law_1219 (lv_at hl 1 rfl) ?_
  refine mi_icmp_eq (tgt := 1226) S9 (by omega) (by omega) dL_law_1221 (by decide) (fun _ => ?_) (fun z => absurd rfl z)
  obtain ⟨cf2, hW2, hm2, hs2⟩ := hM1
  refine lv_iload S9.1 S9.2.1 dL_law_1226 (lv_at hl 1 rfl) ?_
  refine mi_if_ne (tgt := 1243) S9 (by omega) dL_law_1228 (by decide) (fun c1 => ?_) (fun c1 => ?_)
  · refine lv_goto (tgt := 1433) S9.1 S9.2.1 dL_law_1243 (by decide) ?_
    exact K S1 H locs ls hO1 ⟨ad1, cf2, f1, g1, _, hW2, hX1.same hO1 (fun r hr => ⟨hs2 r (Or.inl (by omega)), rfl⟩), hR1, hm2, (hs2 1500 (Or.inl (by omega))).trans c15, hq0, hq1, hq2⟩ hS (lv_sub hl [2, 3, 4, 5, 6] rfl)
  · refine lv_aload_n S9.1 S9.2.1 dL_law_1231 rfl (lv_at hl 6 rfl) ?_
    refine lv_iconst (v := nI 0) S9.1 S9.2.1 dL_law_1232 (by decide) ?_
    refine mi_lald S9 E hW2 1500 hq2 ((hs2 1500 (Or.inl (by omega))).trans c15) (by omega) (by omega) dL_law_1233 ?_
    refine mi_top (v' := .long a.toInt64) (by rw [hans c1]) ?_
    refine lv_iload S9.1 S9.2.1 dL_law_1234 (lv_at hl 0 rfl) ?_
    refine mi_top (v' := .int a) (by rw [hans8 c1]) ?_
    refine lv_i2l (v := a.toInt64) S9.1 S9.2.1 dL_law_1236 rfl ?_
    refine W.lcmp S9.1 S9.2.1 dL_law_1237 ?_
    refine mi_top (v' := .int (nI 0)) (congrArg Value.int (lw_cmp a.toInt64)) ?_
    refine mi_if_eq (tgt := 1243) S9 (a := 0) (by omega) dL_law_1238 (by decide) (fun _ => ?_) (fun z => absurd rfl z)
    refine lv_goto (tgt := 1433) S9.1 S9.2.1 dL_law_1243 (by decide) ?_
    exact K S1 H locs ls hO1 ⟨ad1, cf2, f1, g1, _, hW2, hX1.same hO1 (fun r hr => ⟨hs2 r (Or.inl (by omega)), rfl⟩), hR1, hm2, (hs2 1500 (Or.inl (by omega))).trans c15, hq0, hq1, hq2⟩ hS (lv_sub hl [2, 3, 4, 5, 6] rfl)
set_option maxHeartbeats 4000000 in
set_option maxRecDepth 100000 in
theorem lw_case_22 {p : Program} {l : Launch} {e : Env} {s : State} {m : MethodId} {below : List Frame} {meth : Method} {c : Code} {b L : Nat} {xs : Nat → Int32} {D : va_G} (hst : l.stackTraces = false) (S9 : CallFix p m c cL_law 7 s #[Value.ref b] (lw_w0 :: mi_G) RL) (hX9 : va_X b L xs s s.heap) (hbl : b < s.heap.size) (hL : L ≤ 2048) (E : mi_E D (fun q => s.heap.size ≤ q) s) {S : sT} (hO : st_ok S) {q0 q1 q2 i cells slots : Nat} {H : Heap} {locs : List Loc} {ls : Array Slot} (hi : i + 4 ≤ L) (hI : lw_I D (fun q => s.heap.size ≤ q) S q0 q1 q2 H) (hS : va_S (fun q => s.heap.size ≤ q) s.heap H locs) (hl : lv_has ls 7 [(4, .int (nI i)), (0, .ref b), (1, .ref q0), (2, .ref q1), (3, .ref q2)]) (hcc : cells + 6 ≤ 601024) (hss : slots + 2019 ≤ 7293033) (K : ∀ (S1 : sT) (H : Heap) (locs : List Loc) (ls : Array Slot), st_ok S1 → lw_I D (fun q => s.heap.size ≤ q) S1 q0 q1 q2 H → va_S (fun q => s.heap.size ≤ q) s.heap H locs → lv_has ls 7 [(4, .int (nI i)), (0, .ref b), (1, .ref q0), (2, .ref q1), (3, .ref q2)] → W p l e room_1 s m #[Value.ref b] below meth c H locs (cells + 6) (slots + 2019) (lw_Z below #[Value.ref b] s) (F0 m 1433 ls [])) : W p l e room_1 s m #[Value.ref b] below meth c H locs cells slots (lw_Z below #[Value.ref b] s) (F0 m 1246 ls []) := by
  obtain ⟨ad, cf, f, g, o, hW, hX, hR, hm, ho, ea, eb, ec⟩ := hI
  obtain ⟨k, a, S1, hk3, hO1, hC, hM⟩ := lw_o_grade l D (fun q => s.heap.size ≤ q) hst (fun a b h1 h2 => Nat.le_trans h1 h2) hO hR (xs (i + 1))
  refine lv_aload_n S9.1 S9.2.1 dL_law_1246 rfl (lv_at hl 2 rfl) ?_
  refine lv_aload_n S9.1 S9.2.1 dL_law_1247 rfl (lv_at hl 1 rfl) ?_
  refine lv_iload S9.1 S9.2.1 dL_law_1248 (lv_at hl 0 rfl) ?_
  refine lv_iconst (v := nI 1) S9.1 S9.2.1 dL_law_1250 (by decide) ?_
  refine mi_iadd S9 dL_law_1251 ?_
  refine lw_sld S9 hX9 hbl hS (by omega) hL dL_law_1252 ?_
  refine lv_aload_n S9.1 S9.2.1 dL_law_1253 rfl (lv_at hl 4 rfl) ?_
  have hH := c_Lgrade l D (fun q => s.heap.size ≤ q) hk3 ho hX.o0 hO1 (hC ad cf hX)
  rw [ea, ec] at hH
  refine mi_cMi (mi_runSH (P := mi_W D (fun q => s.heap.size ≤ q) ad cf) (As := [.ref q0, .int (xs (i + 1)), .ref q2]) (rest := []) S9 E hS hW hH mw_645 mw_643 mw_644 mw_32 ⟨by decide, by decide, by decide +kernel⟩ ⟨rfl, rfl, Nat.le_of_ble_eq_true rfl, Nat.le_of_ble_eq_true rfl⟩ (n := 3) rfl hl.1 rfl (Nat.le_of_ble_eq_true rfl) dL_law_1254 ⟨by show cells + 6 ≤ 601024; omega, by show slots + 2019 ≤ 7293033; omega⟩) hS (fun r9 H locs hp9 hS hz8 => ?_)
  obtain ⟨e9, ad1, cf1, o1, hW, hX1, hf1, h15, h00, c15, hans⟩ := hp9
  refine mi_top (v' := .int (nI k)) (by rw [e9]) ?_
  refine lv_istore (lv' := [(5, .int (nI k)), (4, .int (nI i)), (0, .ref b), (1, .ref q0), (2, .ref q1), (3, .ref q2)]) S9.1 S9.2.1 dL_law_1257 hl (by decide) rfl (fun ls hl => ?_)
  have hq0 : ad1 0 = q0 := h00.trans ea
  have hq1 : ad1 1000020 = q1 := ((hf1 1000020 (by omega) (by omega)).2).trans eb
  have hq2 : ad1 1500 = q2 := h15.trans ec
  have hMo : mo_W D (fun q => s.heap.size ≤ q) ad1 cf1 f g H := ⟨cf1, hW, mo_at_keep hm (fun r hr => hf1 r (by omega) (by omega)), fun r _ => rfl⟩
  obtain ⟨d9, hd9, hM9⟩ := hM ad1 cf1
  refine lv_aload_n S9.1 S9.2.1 dL_law_1259 rfl (lv_at hl 4 rfl) ?_
  refine lv_aload_n S9.1 S9.2.1 dL_law_1260 rfl (lv_at hl 2 rfl) ?_
  refine lv_iload S9.1 S9.2.1 dL_law_1261 (lv_at hl 1 rfl) ?_
  refine lv_iconst (v := nI 1) S9.1 S9.2.1 dL_law_1263 (by decide) ?_
  refine mi_iadd S9 dL_law_1264 ?_
  refine lw_sld S9 hX9 hbl hS (by omega) hL dL_law_1265 ?_
  have hr8 := hMo.recv E
  rw [hq1] at hM9 hr8
  refine mi_cMi (mi_runV (P := mo_W D (fun q => s.heap.size ≤ q) ad1 cf1 f g) (As := [.int (xs (i + 1))]) (rest := []) S9 E hS hMo q1 hM9 hr8 mw_883 mw_880 mw_881 mw_882 mw_43 ⟨by decide, by decide, by decide +kernel⟩ ⟨rfl, rfl, by show d9 + 1 ≤ 12; omega, by show 8 + (4 + 11) + 37 * d9 ≤ 452; omega⟩ (n := 1) rfl hl.1 rfl (Nat.le_of_ble_eq_true rfl) dL_law_1266 ⟨by show cells + 6 + 0 ≤ 601024; omega, by show slots + 2019 + 0 ≤ 7293033; omega⟩) hS (fun r8 H locs hp8 hS hz7 => ?_)
  obtain ⟨hans8, f1, g1, hM1, hR1, hf0⟩ := hp8
  refine lv_istore (lv' := [(6, .int r8), (5, .int (nI k)), (4, .int (nI i)), (0, .ref b), (1, .ref q0), (2, .ref q1), (3, .ref q2)]) S9.1 S9.2.1 dL_law_1269 hl (by decide) rfl (fun ls hl => ?_)
  refine lv_aload_n S9.1 S9.2.1 dL_law_1271 rfl (lv_at hl 5 rfl) ?_
  have hT := c_mthrown l D (fun q => s.heap.size ≤ q) (cf0 := cf1) (ad := ad1) (g := g1) hf0
  have hr7 := hM1.recv E
  rw [hq1] at hT hr7
  refine mi_cR (mi_runV (P := mo_W D (fun q => s.heap.size ≤ q) ad1 cf1 f1 g1) (As := []) (rest := []) S9 E hS hM1 q1 hT hr7 mw_726 mw_723 mw_724 mw_725 mw_43 ⟨by decide, by decide, by decide +kernel⟩ ⟨rfl, rfl, Nat.le_of_ble_eq_true rfl, Nat.le_of_ble_eq_true rfl⟩ (n := 0) rfl hl.1 rfl (Nat.le_of_ble_eq_true rfl) dL_law_1272 ⟨by show cells + 6 + 0 + 0 ≤ 601024; omega, by show slots + 2019 + 0 + 0 ≤ 7293033; omega⟩) (fun r7 e7 => ?_)
  refine mi_top (v' := .int (nI k)) (by rw [e7]) ?_
  refine lv_iload S9.1 S9.2.1 dL_law_1275 (lv_at hl 1 rfl) ?_
  refine mi_icmp_eq (tgt := 1282) S9 (by omega) (by omega) dL_law_1277 (by decide) (fun _ => ?_) (fun z => absurd rfl z)
  obtain ⟨cf2, hW2, hm2, hs2⟩ := hM1
  refine lv_iload S9.1 S9.2.1 dL_law_1282 (lv_at hl 1 rfl) ?_
  refine mi_if_ne (tgt := 1299) S9 (by omega) dL_law_1284 (by decide) (fun c1 => ?_) (fun c1 => ?_)
  · refine lv_goto (tgt := 1433) S9.1 S9.2.1 dL_law_1299 (by decide) ?_
    exact K S1 H locs ls hO1 ⟨ad1, cf2, f1, g1, _, hW2, hX1.same hO1 (fun r hr => ⟨hs2 r (Or.inl (by omega)), rfl⟩), hR1, hm2, (hs2 1500 (Or.inl (by omega))).trans c15, hq0, hq1, hq2⟩ hS (lv_sub hl [2, 3, 4, 5, 6] rfl)
  · refine lv_aload_n S9.1 S9.2.1 dL_law_1287 rfl (lv_at hl 6 rfl) ?_
    refine lv_iconst (v := nI 0) S9.1 S9.2.1 dL_law_1288 (by decide) ?_
    refine mi_lald S9 E hW2 1500 hq2 ((hs2 1500 (Or.inl (by omega))).trans c15) (by omega) (by omega) dL_law_1289 ?_
    refine mi_top (v' := .long a.toInt64) (by rw [hans c1]) ?_
    refine lv_iload S9.1 S9.2.1 dL_law_1290 (lv_at hl 0 rfl) ?_
    refine mi_top (v' := .int a) (by rw [hans8 c1]) ?_
    refine lv_i2l (v := a.toInt64) S9.1 S9.2.1 dL_law_1292 rfl ?_
    refine W.lcmp S9.1 S9.2.1 dL_law_1293 ?_
    refine mi_top (v' := .int (nI 0)) (congrArg Value.int (lw_cmp a.toInt64)) ?_
    refine mi_if_eq (tgt := 1299) S9 (a := 0) (by omega) dL_law_1294 (by decide) (fun _ => ?_) (fun z => absurd rfl z)
    refine lv_goto (tgt := 1433) S9.1 S9.2.1 dL_law_1299 (by decide) ?_
    exact K S1 H locs ls hO1 ⟨ad1, cf2, f1, g1, _, hW2, hX1.same hO1 (fun r hr => ⟨hs2 r (Or.inl (by omega)), rfl⟩), hR1, hm2, (hs2 1500 (Or.inl (by omega))).trans c15, hq0, hq1, hq2⟩ hS (lv_sub hl [2, 3, 4, 5, 6] rfl)
set_option maxHeartbeats 4000000 in
set_option maxRecDepth 100000 in
theorem lw_case_23 {p : Program} {l : Launch} {e : Env} {s : State} {m : MethodId} {below : List Frame} {meth : Method} {c : Code} {b L : Nat} {xs : Nat → Int32} {D : va_G} (hst : l.stackTraces = false) (S9 : CallFix p m c cL_law 7 s #[Value.ref b] (lw_w0 :: mi_G) RL) (hX9 : va_X b L xs s s.heap) (hbl : b < s.heap.size) (hL : L ≤ 2048) (E : mi_E D (fun q => s.heap.size ≤ q) s) {S : sT} (hO : st_ok S) {q0 q1 q2 i cells slots : Nat} {H : Heap} {locs : List Loc} {ls : Array Slot} (hi : i + 4 ≤ L) (hI : lw_I D (fun q => s.heap.size ≤ q) S q0 q1 q2 H) (hS : va_S (fun q => s.heap.size ≤ q) s.heap H locs) (hl : lv_has ls 7 [(4, .int (nI i)), (0, .ref b), (1, .ref q0), (2, .ref q1), (3, .ref q2)]) (hcc : cells + 6 ≤ 601024) (hss : slots + 2019 ≤ 7293033) (K : ∀ (S1 : sT) (H : Heap) (locs : List Loc) (ls : Array Slot), st_ok S1 → lw_I D (fun q => s.heap.size ≤ q) S1 q0 q1 q2 H → va_S (fun q => s.heap.size ≤ q) s.heap H locs → lv_has ls 7 [(4, .int (nI i)), (0, .ref b), (1, .ref q0), (2, .ref q1), (3, .ref q2)] → W p l e room_1 s m #[Value.ref b] below meth c H locs (cells + 6) (slots + 2019) (lw_Z below #[Value.ref b] s) (F0 m 1433 ls [])) : W p l e room_1 s m #[Value.ref b] below meth c H locs cells slots (lw_Z below #[Value.ref b] s) (F0 m 1302 ls []) := by
  obtain ⟨ad, cf, f, g, o, hW, hX, hR, hm, ho, ea, eb, ec⟩ := hI
  obtain ⟨k, a, S1, hk3, hO1, hz9, hC, hM⟩ := lw_o_isForged l D (fun q => s.heap.size ≤ q) hst (fun a b h1 h2 => Nat.le_trans h1 h2) hO hR (xs (i + 1))
  refine lv_aload_n S9.1 S9.2.1 dL_law_1302 rfl (lv_at hl 2 rfl) ?_
  refine lv_aload_n S9.1 S9.2.1 dL_law_1303 rfl (lv_at hl 1 rfl) ?_
  refine lv_iload S9.1 S9.2.1 dL_law_1304 (lv_at hl 0 rfl) ?_
  refine lv_iconst (v := nI 1) S9.1 S9.2.1 dL_law_1306 (by decide) ?_
  refine mi_iadd S9 dL_law_1307 ?_
  refine lw_sld S9 hX9 hbl hS (by omega) hL dL_law_1308 ?_
  refine lv_aload_n S9.1 S9.2.1 dL_law_1309 rfl (lv_at hl 4 rfl) ?_
  have hH := c_LisForged l D (fun q => s.heap.size ≤ q) hk3 ho hX.o0 hO1 hz9 (hC ad cf hX)
  rw [ea, ec] at hH
  refine mi_cMi (mi_runSH (P := mi_W D (fun q => s.heap.size ≤ q) ad cf) (As := [.ref q0, .int (xs (i + 1)), .ref q2]) (rest := []) S9 E hS hW hH mw_659 mw_657 mw_658 mw_32 ⟨by decide, by decide, by decide +kernel⟩ ⟨rfl, rfl, Nat.le_of_ble_eq_true rfl, Nat.le_of_ble_eq_true rfl⟩ (n := 3) rfl hl.1 rfl (Nat.le_of_ble_eq_true rfl) dL_law_1310 ⟨by show cells + 6 ≤ 601024; omega, by show slots + 2019 ≤ 7293033; omega⟩) hS (fun r9 H locs hp9 hS hz8 => ?_)
  obtain ⟨e9, ad1, cf1, o1, hW, hX1, hf1, h15, h00, c15, hans⟩ := hp9
  refine mi_top (v' := .int (nI k)) (by rw [e9]) ?_
  refine lv_istore (lv' := [(5, .int (nI k)), (4, .int (nI i)), (0, .ref b), (1, .ref q0), (2, .ref q1), (3, .ref q2)]) S9.1 S9.2.1 dL_law_1313 hl (by decide) rfl (fun ls hl => ?_)
  have hq0 : ad1 0 = q0 := h00.trans ea
  have hq1 : ad1 1000020 = q1 := ((hf1 1000020 (by omega) (by omega)).2).trans eb
  have hq2 : ad1 1500 = q2 := h15.trans ec
  have hMo : mo_W D (fun q => s.heap.size ≤ q) ad1 cf1 f g H := ⟨cf1, hW, mo_at_keep hm (fun r hr => hf1 r (by omega) (by omega)), fun r _ => rfl⟩
  obtain ⟨d9, hd9, hM9⟩ := hM ad1 cf1
  refine lv_aload_n S9.1 S9.2.1 dL_law_1315 rfl (lv_at hl 4 rfl) ?_
  refine lv_aload_n S9.1 S9.2.1 dL_law_1316 rfl (lv_at hl 2 rfl) ?_
  refine lv_iload S9.1 S9.2.1 dL_law_1317 (lv_at hl 1 rfl) ?_
  refine lv_iconst (v := nI 1) S9.1 S9.2.1 dL_law_1319 (by decide) ?_
  refine mi_iadd S9 dL_law_1320 ?_
  refine lw_sld S9 hX9 hbl hS (by omega) hL dL_law_1321 ?_
  have hr8 := hMo.recv E
  rw [hq1] at hM9 hr8
  refine mi_cMi (mi_runV (P := mo_W D (fun q => s.heap.size ≤ q) ad1 cf1 f g) (As := [.int (xs (i + 1))]) (rest := []) S9 E hS hMo q1 hM9 hr8 mw_890 mw_887 mw_888 mw_889 mw_43 ⟨by decide, by decide, by decide +kernel⟩ ⟨rfl, rfl, by show d9 + 1 ≤ 12; omega, by show 8 + (4 + 11) + 37 * d9 ≤ 452; omega⟩ (n := 1) rfl hl.1 rfl (Nat.le_of_ble_eq_true rfl) dL_law_1322 ⟨by show cells + 6 + 0 ≤ 601024; omega, by show slots + 2019 + 0 ≤ 7293033; omega⟩) hS (fun r8 H locs hp8 hS hz7 => ?_)
  obtain ⟨hans8, f1, g1, hM1, hR1, hf0⟩ := hp8
  refine lv_istore (lv' := [(6, .int r8), (5, .int (nI k)), (4, .int (nI i)), (0, .ref b), (1, .ref q0), (2, .ref q1), (3, .ref q2)]) S9.1 S9.2.1 dL_law_1325 hl (by decide) rfl (fun ls hl => ?_)
  refine lv_aload_n S9.1 S9.2.1 dL_law_1327 rfl (lv_at hl 5 rfl) ?_
  have hT := c_mthrown l D (fun q => s.heap.size ≤ q) (cf0 := cf1) (ad := ad1) (g := g1) hf0
  have hr7 := hM1.recv E
  rw [hq1] at hT hr7
  refine mi_cR (mi_runV (P := mo_W D (fun q => s.heap.size ≤ q) ad1 cf1 f1 g1) (As := []) (rest := []) S9 E hS hM1 q1 hT hr7 mw_726 mw_723 mw_724 mw_725 mw_43 ⟨by decide, by decide, by decide +kernel⟩ ⟨rfl, rfl, Nat.le_of_ble_eq_true rfl, Nat.le_of_ble_eq_true rfl⟩ (n := 0) rfl hl.1 rfl (Nat.le_of_ble_eq_true rfl) dL_law_1328 ⟨by show cells + 6 + 0 + 0 ≤ 601024; omega, by show slots + 2019 + 0 + 0 ≤ 7293033; omega⟩) (fun r7 e7 => ?_)
  refine mi_top (v' := .int (nI k)) (by rw [e7]) ?_
  refine lv_iload S9.1 S9.2.1 dL_law_1331 (lv_at hl 1 rfl) ?_
  refine mi_icmp_eq (tgt := 1338) S9 (by omega) (by omega) dL_law_1333 (by decide) (fun _ => ?_) (fun z => absurd rfl z)
  obtain ⟨cf2, hW2, hm2, hs2⟩ := hM1
  refine lv_iload S9.1 S9.2.1 dL_law_1338 (lv_at hl 1 rfl) ?_
  refine mi_if_ne (tgt := 1362) S9 (by omega) dL_law_1340 (by decide) (fun c1 => ?_) (fun c1 => ?_)
  · refine lv_goto (tgt := 1433) S9.1 S9.2.1 dL_law_1362 (by decide) ?_
    exact K S1 H locs ls hO1 ⟨ad1, cf2, f1, g1, _, hW2, hX1.same hO1 (fun r hr => ⟨hs2 r (Or.inl (by omega)), rfl⟩), hR1, hm2, (hs2 1500 (Or.inl (by omega))).trans c15, hq0, hq1, hq2⟩ hS (lv_sub hl [2, 3, 4, 5, 6] rfl)
  · refine lv_aload_n S9.1 S9.2.1 dL_law_1343 rfl (lv_at hl 6 rfl) ?_
    refine lv_iconst (v := nI 0) S9.1 S9.2.1 dL_law_1344 (by decide) ?_
    refine mi_lald S9 E hW2 1500 hq2 ((hs2 1500 (Or.inl (by omega))).trans c15) (by omega) (by omega) dL_law_1345 ?_
    refine mi_top (v' := .long a.toInt64) (by rw [hans c1]) ?_
    obtain rfl : r8 = a := hans8 c1
    refine lv_iload S9.1 S9.2.1 dL_law_1346 (lv_at hl 0 rfl) ?_
    rcases hz9 with hz9 | hz9
    · subst hz9
      refine mi_if_eq (tgt := 1355) S9 (a := 0) (by omega) dL_law_1348 (by decide) (fun _ => ?_) (fun z => absurd rfl z)
      refine lv_lconst (v := 0) S9.1 S9.2.1 dL_law_1355 (by decide) ?_
      refine W.lcmp S9.1 S9.2.1 dL_law_1356 ?_
      refine mi_top (v' := .int (nI 0)) (congrArg Value.int (by decide +kernel)) ?_
      refine mi_if_eq (tgt := 1362) S9 (a := 0) (by omega) dL_law_1357 (by decide) (fun _ => ?_) (fun z => absurd rfl z)
      refine lv_goto (tgt := 1433) S9.1 S9.2.1 dL_law_1362 (by decide) ?_
      exact K S1 H locs ls hO1 ⟨ad1, cf2, f1, g1, _, hW2, hX1.same hO1 (fun r hr => ⟨hs2 r (Or.inl (by omega)), rfl⟩), hR1, hm2, (hs2 1500 (Or.inl (by omega))).trans c15, hq0, hq1, hq2⟩ hS (lv_sub hl [2, 3, 4, 5, 6] rfl)
    · subst hz9
      refine mi_if_eq (tgt := 1355) S9 (a := 1) (by omega) dL_law_1348 (by decide) (fun z => absurd z (by omega)) (fun _ => ?_)
      refine lv_lconst (v := 1) S9.1 S9.2.1 dL_law_1351 (by decide) ?_
      refine lv_goto (tgt := 1356) S9.1 S9.2.1 dL_law_1352 (by decide) ?_
      refine W.lcmp S9.1 S9.2.1 dL_law_1356 ?_
      refine mi_top (v' := .int (nI 0)) (congrArg Value.int (by decide +kernel)) ?_
      refine mi_if_eq (tgt := 1362) S9 (a := 0) (by omega) dL_law_1357 (by decide) (fun _ => ?_) (fun z => absurd rfl z)
      refine lv_goto (tgt := 1433) S9.1 S9.2.1 dL_law_1362 (by decide) ?_
      exact K S1 H locs ls hO1 ⟨ad1, cf2, f1, g1, _, hW2, hX1.same hO1 (fun r hr => ⟨hs2 r (Or.inl (by omega)), rfl⟩), hR1, hm2, (hs2 1500 (Or.inl (by omega))).trans c15, hq0, hq1, hq2⟩ hS (lv_sub hl [2, 3, 4, 5, 6] rfl)
set_option maxHeartbeats 4000000 in
set_option maxRecDepth 100000 in
theorem lw_case_24 {p : Program} {l : Launch} {e : Env} {s : State} {m : MethodId} {below : List Frame} {meth : Method} {c : Code} {b L : Nat} {xs : Nat → Int32} {D : va_G} (hst : l.stackTraces = false) (S9 : CallFix p m c cL_law 7 s #[Value.ref b] (lw_w0 :: mi_G) RL) (hX9 : va_X b L xs s s.heap) (hbl : b < s.heap.size) (hL : L ≤ 2048) (E : mi_E D (fun q => s.heap.size ≤ q) s) {S : sT} (hO : st_ok S) {q0 q1 q2 i cells slots : Nat} {H : Heap} {locs : List Loc} {ls : Array Slot} (hi : i + 4 ≤ L) (hI : lw_I D (fun q => s.heap.size ≤ q) S q0 q1 q2 H) (hS : va_S (fun q => s.heap.size ≤ q) s.heap H locs) (hl : lv_has ls 7 [(4, .int (nI i)), (0, .ref b), (1, .ref q0), (2, .ref q1), (3, .ref q2)]) (hcc : cells + 6 ≤ 601024) (hss : slots + 2019 ≤ 7293033) (K : ∀ (S1 : sT) (H : Heap) (locs : List Loc) (ls : Array Slot), st_ok S1 → lw_I D (fun q => s.heap.size ≤ q) S1 q0 q1 q2 H → va_S (fun q => s.heap.size ≤ q) s.heap H locs → lv_has ls 7 [(4, .int (nI i)), (0, .ref b), (1, .ref q0), (2, .ref q1), (3, .ref q2)] → W p l e room_1 s m #[Value.ref b] below meth c H locs (cells + 6) (slots + 2019) (lw_Z below #[Value.ref b] s) (F0 m 1433 ls [])) : W p l e room_1 s m #[Value.ref b] below meth c H locs cells slots (lw_Z below #[Value.ref b] s) (F0 m 1365 ls []) := by
  obtain ⟨ad, cf, f, g, o, hW, hX, hR, hm, ho, ea, eb, ec⟩ := hI
  obtain ⟨k, a, S1, hk3, hO1, hC, hM⟩ := lw_o_distance l D (fun q => s.heap.size ≤ q) hst (fun a b h1 h2 => Nat.le_trans h1 h2) hO hR (xs (i + 1)) (xs (i + 2))
  refine lv_aload_n S9.1 S9.2.1 dL_law_1365 rfl (lv_at hl 2 rfl) ?_
  refine lv_aload_n S9.1 S9.2.1 dL_law_1366 rfl (lv_at hl 1 rfl) ?_
  refine lv_iload S9.1 S9.2.1 dL_law_1367 (lv_at hl 0 rfl) ?_
  refine lv_iconst (v := nI 1) S9.1 S9.2.1 dL_law_1369 (by decide) ?_
  refine mi_iadd S9 dL_law_1370 ?_
  refine lw_sld S9 hX9 hbl hS (by omega) hL dL_law_1371 ?_
  refine lv_aload_n S9.1 S9.2.1 dL_law_1372 rfl (lv_at hl 1 rfl) ?_
  refine lv_iload S9.1 S9.2.1 dL_law_1373 (lv_at hl 0 rfl) ?_
  refine lv_iconst (v := nI 2) S9.1 S9.2.1 dL_law_1375 (by decide) ?_
  refine mi_iadd S9 dL_law_1376 ?_
  refine lw_sld S9 hX9 hbl hS (by omega) hL dL_law_1377 ?_
  refine lv_aload_n S9.1 S9.2.1 dL_law_1378 rfl (lv_at hl 4 rfl) ?_
  have hH := c_Ldistance l D (fun q => s.heap.size ≤ q) hk3 ho hX.o0 hO1 (hC ad cf hX)
  rw [ea, ec] at hH
  refine mi_cMi (mi_runSH (P := mi_W D (fun q => s.heap.size ≤ q) ad cf) (As := [.ref q0, .int (xs (i + 1)), .int (xs (i + 2)), .ref q2]) (rest := []) S9 E hS hW hH mw_666 mw_664 mw_665 mw_32 ⟨by decide, by decide, by decide +kernel⟩ ⟨rfl, rfl, Nat.le_of_ble_eq_true rfl, Nat.le_of_ble_eq_true rfl⟩ (n := 4) rfl hl.1 rfl (Nat.le_of_ble_eq_true rfl) dL_law_1379 ⟨by show cells + 6 ≤ 601024; omega, by show slots + 2019 ≤ 7293033; omega⟩) hS (fun r9 H locs hp9 hS hz8 => ?_)
  obtain ⟨e9, ad1, cf1, o1, hW, hX1, hf1, h15, h00, c15, hans⟩ := hp9
  refine mi_top (v' := .int (nI k)) (by rw [e9]) ?_
  refine lv_istore (lv' := [(5, .int (nI k)), (4, .int (nI i)), (0, .ref b), (1, .ref q0), (2, .ref q1), (3, .ref q2)]) S9.1 S9.2.1 dL_law_1382 hl (by decide) rfl (fun ls hl => ?_)
  have hq0 : ad1 0 = q0 := h00.trans ea
  have hq1 : ad1 1000020 = q1 := ((hf1 1000020 (by omega) (by omega)).2).trans eb
  have hq2 : ad1 1500 = q2 := h15.trans ec
  have hMo : mo_W D (fun q => s.heap.size ≤ q) ad1 cf1 f g H := ⟨cf1, hW, mo_at_keep hm (fun r hr => hf1 r (by omega) (by omega)), fun r _ => rfl⟩
  obtain ⟨d9, hd9, hM9⟩ := hM ad1 cf1
  refine lv_aload_n S9.1 S9.2.1 dL_law_1384 rfl (lv_at hl 4 rfl) ?_
  refine lv_aload_n S9.1 S9.2.1 dL_law_1385 rfl (lv_at hl 2 rfl) ?_
  refine lv_iload S9.1 S9.2.1 dL_law_1386 (lv_at hl 1 rfl) ?_
  refine lv_iconst (v := nI 1) S9.1 S9.2.1 dL_law_1388 (by decide) ?_
  refine mi_iadd S9 dL_law_1389 ?_
  refine lw_sld S9 hX9 hbl hS (by omega) hL dL_law_1390 ?_
  refine lv_aload_n S9.1 S9.2.1 dL_law_1391 rfl (lv_at hl 2 rfl) ?_
  refine lv_iload S9.1 S9.2.1 dL_law_1392 (lv_at hl 1 rfl) ?_
  refine lv_iconst (v := nI 2) S9.1 S9.2.1 dL_law_1394 (by decide) ?_
  refine mi_iadd S9 dL_law_1395 ?_
  refine lw_sld S9 hX9 hbl hS (by omega) hL dL_law_1396 ?_
  have hr8 := hMo.recv E
  rw [hq1] at hM9 hr8
  refine mi_cMi (mi_runV (P := mo_W D (fun q => s.heap.size ≤ q) ad1 cf1 f g) (As := [.int (xs (i + 1)), .int (xs (i + 2))]) (rest := []) S9 E hS hMo q1 hM9 hr8 mw_898 mw_895 mw_896 mw_897 mw_43 ⟨by decide, by decide, by decide +kernel⟩ ⟨rfl, rfl, by show d9 + 1 ≤ 12; omega, by show 8 + (5 + 11) + 37 * d9 ≤ 452; omega⟩ (n := 2) rfl hl.1 rfl (Nat.le_of_ble_eq_true rfl) dL_law_1397 ⟨by show cells + 6 + 0 ≤ 601024; omega, by show slots + 2019 + 0 ≤ 7293033; omega⟩) hS (fun r8 H locs hp8 hS hz7 => ?_)
  obtain ⟨hans8, f1, g1, hM1, hR1, hf0⟩ := hp8
  refine lv_istore (lv' := [(6, .int r8), (5, .int (nI k)), (4, .int (nI i)), (0, .ref b), (1, .ref q0), (2, .ref q1), (3, .ref q2)]) S9.1 S9.2.1 dL_law_1400 hl (by decide) rfl (fun ls hl => ?_)
  refine lv_aload_n S9.1 S9.2.1 dL_law_1402 rfl (lv_at hl 5 rfl) ?_
  have hT := c_mthrown l D (fun q => s.heap.size ≤ q) (cf0 := cf1) (ad := ad1) (g := g1) hf0
  have hr7 := hM1.recv E
  rw [hq1] at hT hr7
  refine mi_cR (mi_runV (P := mo_W D (fun q => s.heap.size ≤ q) ad1 cf1 f1 g1) (As := []) (rest := []) S9 E hS hM1 q1 hT hr7 mw_726 mw_723 mw_724 mw_725 mw_43 ⟨by decide, by decide, by decide +kernel⟩ ⟨rfl, rfl, Nat.le_of_ble_eq_true rfl, Nat.le_of_ble_eq_true rfl⟩ (n := 0) rfl hl.1 rfl (Nat.le_of_ble_eq_true rfl) dL_law_1403 ⟨by show cells + 6 + 0 + 0 ≤ 601024; omega, by show slots + 2019 + 0 + 0 ≤ 7293033; omega⟩) (fun r7 e7 => ?_)
  refine mi_top (v' := .int (nI k)) (by rw [e7]) ?_
  refine lv_iload S9.1 S9.2.1 dL_law_1406 (lv_at hl 1 rfl) ?_
  refine mi_icmp_eq (tgt := 1413) S9 (by omega) (by omega) dL_law_1408 (by decide) (fun _ => ?_) (fun z => absurd rfl z)
  obtain ⟨cf2, hW2, hm2, hs2⟩ := hM1
  refine lv_iload S9.1 S9.2.1 dL_law_1413 (lv_at hl 1 rfl) ?_
  refine mi_if_ne (tgt := 1430) S9 (by omega) dL_law_1415 (by decide) (fun c1 => ?_) (fun c1 => ?_)
  · refine lv_goto (tgt := 1433) S9.1 S9.2.1 dL_law_1430 (by decide) ?_
    exact K S1 H locs ls hO1 ⟨ad1, cf2, f1, g1, _, hW2, hX1.same hO1 (fun r hr => ⟨hs2 r (Or.inl (by omega)), rfl⟩), hR1, hm2, (hs2 1500 (Or.inl (by omega))).trans c15, hq0, hq1, hq2⟩ hS (lv_sub hl [2, 3, 4, 5, 6] rfl)
  · refine lv_aload_n S9.1 S9.2.1 dL_law_1418 rfl (lv_at hl 6 rfl) ?_
    refine lv_iconst (v := nI 0) S9.1 S9.2.1 dL_law_1419 (by decide) ?_
    refine mi_lald S9 E hW2 1500 hq2 ((hs2 1500 (Or.inl (by omega))).trans c15) (by omega) (by omega) dL_law_1420 ?_
    refine mi_top (v' := .long a.toInt64) (by rw [hans c1]) ?_
    refine lv_iload S9.1 S9.2.1 dL_law_1421 (lv_at hl 0 rfl) ?_
    refine mi_top (v' := .int a) (by rw [hans8 c1]) ?_
    refine lv_i2l (v := a.toInt64) S9.1 S9.2.1 dL_law_1423 rfl ?_
    refine W.lcmp S9.1 S9.2.1 dL_law_1424 ?_
    refine mi_top (v' := .int (nI 0)) (congrArg Value.int (lw_cmp a.toInt64)) ?_
    refine mi_if_eq (tgt := 1430) S9 (a := 0) (by omega) dL_law_1425 (by decide) (fun _ => ?_) (fun z => absurd rfl z)
    refine lv_goto (tgt := 1433) S9.1 S9.2.1 dL_law_1430 (by decide) ?_
    exact K S1 H locs ls hO1 ⟨ad1, cf2, f1, g1, _, hW2, hX1.same hO1 (fun r hr => ⟨hs2 r (Or.inl (by omega)), rfl⟩), hR1, hm2, (hs2 1500 (Or.inl (by omega))).trans c15, hq0, hq1, hq2⟩ hS (lv_sub hl [2, 3, 4, 5, 6] rfl)
