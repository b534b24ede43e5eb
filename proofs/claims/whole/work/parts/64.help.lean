/-! the law's helpers: a call of the class, its exceptions caught -/
set_option maxHeartbeats 4000000 in
set_option maxRecDepth 100000 in
theorem c_Lset (l : Launch) (D : va_G) (A : Nat → Prop) {ad : Nat → Nat} {cf : Nat → Option va_E} {o : Nat → Int64} {x y z : Int32} {k : Nat} {a : Int32} {S1 : sT} (hk3 : k ≤ 3) (hO : cf 1500 = some (mi_al D 1 o)) (h0 : ∃ fs, cf 0 = some (.inr (5, fs))) (hO1 : st_ok S1) (hM : lw_Cl l D A ad cf yX4_set (Cond.code yX4_set cX4_set 4 (some Jvm.ClassFile.FieldType.int)) [.ref (ad 0), .int x, .int y, .int z] lw_ex3 k a S1) : mi_Mi l yL_set (Cond.codeWith yL_set cL_set 6 (some Jvm.ClassFile.FieldType.int) [(0, 12, 15, 13), (0, 12, 19, 15), (0, 12, 23, 17)]) (mi_rq 9 6 2019) D A (mi_W D A ad cf) [.ref (ad 0), .int x, .int y, .int z, .ref (ad 1500)] 6 2019 (fun r H => r = nI k ∧ lw_B D A S1 ad cf (k = 0) a H) := by
  refine mi_startH (cc := cL_set) (nL := 6) (ret := (some Jvm.ClassFile.FieldType.int)) (hh := [(0, 12, 15, 13), (0, 12, 19, 15), (0, 12, 23, 17)]) rfl (by decide) (Nat.le_of_ble_eq_true rfl) ?_
  intro p e s m below meth c ls S E hW hS hr hk ht hl
  have S : CallFix p m c cL_set 6 s _ ((Cond.codeWith yL_set cL_set 6 (some Jvm.ClassFile.FieldType.int) [(0, 12, 15, 13), (0, 12, 19, 15), (0, 12, 23, 17)]) :: mi_G) RL := S
  have hl : lv_has ls 6 [(0, .ref (ad 0)), (1, .int x), (2, .int y), (3, .int z), (4, .ref (ad 1500))] := hl
  obtain ⟨fs0, h00⟩ := h0
  refine lv_aload S.1 S.2.1 dL_set_0 (lv_at hl 4 rfl) ?_
  refine lv_iconst (v := nI 0) S.1 S.2.1 dL_set_2 (by decide) ?_
  refine lv_aload_n S.1 S.2.1 dL_set_3 rfl (lv_at hl 0 rfl) ?_
  refine lv_iload_n S.1 S.2.1 dL_set_4 rfl (lv_at hl 1 rfl) ?_
  refine lv_iload_n S.1 S.2.1 dL_set_5 rfl (lv_at hl 2 rfl) ?_
  refine lv_iload_n S.1 S.2.1 dL_set_6 rfl (lv_at hl 3 rfl) ?_
  rcases hM with ⟨hk0, d, mc, ms, hd, hmc, hms, hM⟩ | ⟨hkn, d, hd, hM⟩
  · refine mi_cMi (mi_runV (P := mi_W D A ad cf) (As := [.int x, .int y, .int z]) (rest := [.int (nI 0), .ref (ad 1500)]) S E hS hW (ad 0) hM (hW.recv E h00 rfl) mw_289 mw_286 mw_287 mw_288 mw_33 ⟨by decide, by decide, by decide +kernel⟩ ⟨rfl, rfl, by show d + 1 ≤ 9; omega, by show 8 + (4 + 11) + 37 * d ≤ 37 * 9; omega⟩ (n := 3) rfl hl.1 rfl (Nat.le_of_ble_eq_true rfl) dL_set_7 ⟨by show 0 + mc ≤ 6; omega, by show 0 + ms ≤ 2019; omega⟩) hS (fun r9 H locs hp9 hS hz9 => ?_)
    obtain ⟨e9, ad1, cf1, hW, hX1, hf1, ha1⟩ := hp9
    have o1 : ad1 1500 = ad 1500 := (hf1 1500 (by omega)).2
    have c1 : cf1 1500 = some (mi_al D 1 o) := (hf1 1500 (by omega)).1.trans hO
    refine mi_top (v' := .int a) (by rw [e9]) ?_
    refine lv_i2l (v := a.toInt64) S.1 S.2.1 dL_set_10 rfl ?_
    refine mi_last S E hS hW 1500 o1 c1 (by omega) (by omega) dL_set_11 (fun H locs hW hS hz9 => ?_)
    refine lv_goto (tgt := 27) S.1 S.2.1 dL_set_12 (by decide) ?_
    refine lv_iconst (v := nI 0) S.1 S.2.1 dL_set_27 (by decide) ?_
    refine mi_retMi S hr hk hS dL_set_28 (by show 0 + mc ≤ 6; omega) (by show 0 + ms ≤ 2019; omega) ⟨by rw [hk0], ad1, _, _, hW, hX1.same hO1 (fun r hr9 => ⟨mi_up_n (by omega), rfl⟩), fun r h1 h2 => ⟨(mi_up_n h2).trans (hf1 r h1).1, (hf1 r h1).2⟩, o1, ha1, mi_up_s, fun _ => ?_⟩
    exact if_pos rfl
  · rcases (show k = 1 ∨ k = 2 ∨ k = 3 by omega) with rfl | rfl | rfl
    · skip
      refine mi_cTh (P := rx_P D A S1 ad cf) (Ex := mi_IO) (mi_runVX (P := mi_W D A ad cf) (As := [.int x, .int y, .int z]) (rest := [.int (nI 0), .ref (ad 1500)]) S E hS hW (ad 0) hM (hW.recv E h00 rfl) mw_289 mw_286 mw_287 mw_288 mw_33 ⟨by decide, by decide, by decide +kernel⟩ ⟨rfl, rfl, by show d + 1 ≤ 9; omega, by show 8 + (4 + 11) + 37 * d ≤ 37 * 9; omega⟩ (n := 3) rfl hl.1 rfl (Nat.le_of_ble_eq_true rfl) dL_set_7 ⟨by show 0 + 1 ≤ 6; omega, by show 0 + 6 ≤ 2019; omega⟩) hS (fun ce q9 H locs hp9 hS h1 h2 h3 => ?_)
      obtain ⟨ad1, cf1, hW, hX1, hf1, ha1⟩ := hp9
      refine vx_catch (name := mi_IO) S.2.2.2.1 [] ⟨0, 12, 15, 13⟩ [⟨0, 12, 19, 15⟩, ⟨0, 12, 23, 17⟩] ht (fun z hz => absurd hz List.not_mem_nil) rfl (by decide) (S.2.2.2.2 _ (List.mem_cons_of_mem _ mw_283)) (va_Nw.use rfl (E.2.2.1 (mi_IO, mi_IO) (by decide))) h1 h2 h3 ?_
      refine lv_astore (lv' := [(5, .ref q9), (0, .ref (ad 0)), (1, .int x), (2, .int y), (3, .int z), (4, .ref (ad 1500))]) S.1 S.2.1 dL_set_15 hl (by decide) rfl (fun ls hl => ?_)
      refine lv_iconst (v := nI 1) S.1 S.2.1 dL_set_17 (by decide) ?_
      exact mi_retMi S hr hk hS dL_set_18 (by show 0 + 1 ≤ 6; omega) (by show 0 + 6 ≤ 2019; omega) ⟨rfl, ad1, cf1, o, hW, hX1, fun r g1 g2 => hf1 r g1, (hf1 1500 (by omega)).2, ha1, (hf1 1500 (by omega)).1.trans hO, fun z => absurd z (by decide)⟩
    · skip
      refine mi_cTh (P := rx_P D A S1 ad cf) (Ex := mi_IA) (mi_runVX (P := mi_W D A ad cf) (As := [.int x, .int y, .int z]) (rest := [.int (nI 0), .ref (ad 1500)]) S E hS hW (ad 0) hM (hW.recv E h00 rfl) mw_289 mw_286 mw_287 mw_288 mw_33 ⟨by decide, by decide, by decide +kernel⟩ ⟨rfl, rfl, by show d + 1 ≤ 9; omega, by show 8 + (4 + 11) + 37 * d ≤ 37 * 9; omega⟩ (n := 3) rfl hl.1 rfl (Nat.le_of_ble_eq_true rfl) dL_set_7 ⟨by show 0 + 1 ≤ 6; omega, by show 0 + 6 ≤ 2019; omega⟩) hS (fun ce q9 H locs hp9 hS h1 h2 h3 => ?_)
      obtain ⟨ad1, cf1, hW, hX1, hf1, ha1⟩ := hp9
      refine vx_catch (name := mi_IA) S.2.2.2.1 [⟨0, 12, 15, 13⟩] ⟨0, 12, 19, 15⟩ [⟨0, 12, 23, 17⟩] ht (List.forall_mem_cons.mpr ⟨Or.inr ⟨by decide, mi_IO, (S.2.2.2.2 _ (List.mem_cons_of_mem _ mw_283)), E.2.2.2.1 (mi_IA, mi_IO) (by decide)⟩, fun _ h => absurd h List.not_mem_nil⟩) rfl (by decide) (S.2.2.2.2 _ (List.mem_cons_of_mem _ mw_284)) (va_Nw.use rfl (E.2.2.1 (mi_IA, mi_IA) (by decide))) h1 h2 h3 ?_
      refine lv_astore (lv' := [(5, .ref q9), (0, .ref (ad 0)), (1, .int x), (2, .int y), (3, .int z), (4, .ref (ad 1500))]) S.1 S.2.1 dL_set_19 hl (by decide) rfl (fun ls hl => ?_)
      refine lv_iconst (v := nI 2) S.1 S.2.1 dL_set_21 (by decide) ?_
      exact mi_retMi S hr hk hS dL_set_22 (by show 0 + 1 ≤ 6; omega) (by show 0 + 6 ≤ 2019; omega) ⟨rfl, ad1, cf1, o, hW, hX1, fun r g1 g2 => hf1 r g1, (hf1 1500 (by omega)).2, ha1, (hf1 1500 (by omega)).1.trans hO, fun z => absurd z (by decide)⟩
    · skip
      refine mi_cTh (P := rx_P D A S1 ad cf) (Ex := mi_IS) (mi_runVX (P := mi_W D A ad cf) (As := [.int x, .int y, .int z]) (rest := [.int (nI 0), .ref (ad 1500)]) S E hS hW (ad 0) hM (hW.recv E h00 rfl) mw_289 mw_286 mw_287 mw_288 mw_33 ⟨by decide, by decide, by decide +kernel⟩ ⟨rfl, rfl, by show d + 1 ≤ 9; omega, by show 8 + (4 + 11) + 37 * d ≤ 37 * 9; omega⟩ (n := 3) rfl hl.1 rfl (Nat.le_of_ble_eq_true rfl) dL_set_7 ⟨by show 0 + 1 ≤ 6; omega, by show 0 + 6 ≤ 2019; omega⟩) hS (fun ce q9 H locs hp9 hS h1 h2 h3 => ?_)
      obtain ⟨ad1, cf1, hW, hX1, hf1, ha1⟩ := hp9
      refine vx_catch (name := mi_IS) S.2.2.2.1 [⟨0, 12, 15, 13⟩, ⟨0, 12, 19, 15⟩] ⟨0, 12, 23, 17⟩ [] ht (List.forall_mem_cons.mpr ⟨Or.inr ⟨by decide, mi_IO, (S.2.2.2.2 _ (List.mem_cons_of_mem _ mw_283)), E.2.2.2.1 (mi_IS, mi_IO) (by decide)⟩, List.forall_mem_cons.mpr ⟨Or.inr ⟨by decide, mi_IA, (S.2.2.2.2 _ (List.mem_cons_of_mem _ mw_284)), E.2.2.2.1 (mi_IS, mi_IA) (by decide)⟩, fun _ h => absurd h List.not_mem_nil⟩⟩) rfl (by decide) (S.2.2.2.2 _ (List.mem_cons_of_mem _ mw_285)) (va_Nw.use rfl (E.2.2.1 (mi_IS, mi_IS) (by decide))) h1 h2 h3 ?_
      refine lv_astore (lv' := [(5, .ref q9), (0, .ref (ad 0)), (1, .int x), (2, .int y), (3, .int z), (4, .ref (ad 1500))]) S.1 S.2.1 dL_set_23 hl (by decide) rfl (fun ls hl => ?_)
      refine lv_iconst (v := nI 3) S.1 S.2.1 dL_set_25 (by decide) ?_
      exact mi_retMi S hr hk hS dL_set_26 (by show 0 + 1 ≤ 6; omega) (by show 0 + 6 ≤ 2019; omega) ⟨rfl, ad1, cf1, o, hW, hX1, fun r g1 g2 => hf1 r g1, (hf1 1500 (by omega)).2, ha1, (hf1 1500 (by omega)).1.trans hO, fun z => absurd z (by decide)⟩
set_option maxHeartbeats 4000000 in
set_option maxRecDepth 100000 in
theorem c_Lraise (l : Launch) (D : va_G) (A : Nat → Prop) {ad : Nat → Nat} {cf : Nat → Option va_E} {o : Nat → Int64} {x y z : Int32} {k : Nat} {a : Int32} {S1 : sT} (hk3 : k ≤ 3) (hO : cf 1500 = some (mi_al D 1 o)) (h0 : ∃ fs, cf 0 = some (.inr (5, fs))) (hO1 : st_ok S1) (hM : lw_Cl l D A ad cf yX4_raise (Cond.code yX4_raise cX4_raise 5 (some Jvm.ClassFile.FieldType.int)) [.ref (ad 0), .int x, .int y, .int z] lw_ex3 k a S1) : mi_Mi l yL_raise (Cond.codeWith yL_raise cL_raise 6 (some Jvm.ClassFile.FieldType.int) [(0, 12, 15, 13), (0, 12, 19, 15), (0, 12, 23, 17)]) (mi_rq 9 6 2019) D A (mi_W D A ad cf) [.ref (ad 0), .int x, .int y, .int z, .ref (ad 1500)] 6 2019 (fun r H => r = nI k ∧ lw_B D A S1 ad cf (k = 0) a H) := by
  refine mi_startH (cc := cL_raise) (nL := 6) (ret := (some Jvm.ClassFile.FieldType.int)) (hh := [(0, 12, 15, 13), (0, 12, 19, 15), (0, 12, 23, 17)]) rfl (by decide) (Nat.le_of_ble_eq_true rfl) ?_
  intro p e s m below meth c ls S E hW hS hr hk ht hl
  have S : CallFix p m c cL_raise 6 s _ ((Cond.codeWith yL_raise cL_raise 6 (some Jvm.ClassFile.FieldType.int) [(0, 12, 15, 13), (0, 12, 19, 15), (0, 12, 23, 17)]) :: mi_G) RL := S
  have hl : lv_has ls 6 [(0, .ref (ad 0)), (1, .int x), (2, .int y), (3, .int z), (4, .ref (ad 1500))] := hl
  obtain ⟨fs0, h00⟩ := h0
  refine lv_aload S.1 S.2.1 dL_raise_0 (lv_at hl 4 rfl) ?_
  refine lv_iconst (v := nI 0) S.1 S.2.1 dL_raise_2 (by decide) ?_
  refine lv_aload_n S.1 S.2.1 dL_raise_3 rfl (lv_at hl 0 rfl) ?_
  refine lv_iload_n S.1 S.2.1 dL_raise_4 rfl (lv_at hl 1 rfl) ?_
  refine lv_iload_n S.1 S.2.1 dL_raise_5 rfl (lv_at hl 2 rfl) ?_
  refine lv_iload_n S.1 S.2.1 dL_raise_6 rfl (lv_at hl 3 rfl) ?_
  rcases hM with ⟨hk0, d, mc, ms, hd, hmc, hms, hM⟩ | ⟨hkn, d, hd, hM⟩
  · refine mi_cMi (mi_runV (P := mi_W D A ad cf) (As := [.int x, .int y, .int z]) (rest := [.int (nI 0), .ref (ad 1500)]) S E hS hW (ad 0) hM (hW.recv E h00 rfl) mw_427 mw_424 mw_425 mw_426 mw_33 ⟨by decide, by decide, by decide +kernel⟩ ⟨rfl, rfl, by show d + 1 ≤ 9; omega, by show 8 + (5 + 11) + 37 * d ≤ 37 * 9; omega⟩ (n := 3) rfl hl.1 rfl (Nat.le_of_ble_eq_true rfl) dL_raise_7 ⟨by show 0 + mc ≤ 6; omega, by show 0 + ms ≤ 2019; omega⟩) hS (fun r9 H locs hp9 hS hz9 => ?_)
    obtain ⟨e9, ad1, cf1, hW, hX1, hf1, ha1⟩ := hp9
    have o1 : ad1 1500 = ad 1500 := (hf1 1500 (by omega)).2
    have c1 : cf1 1500 = some (mi_al D 1 o) := (hf1 1500 (by omega)).1.trans hO
    refine mi_top (v' := .int a) (by rw [e9]) ?_
    refine lv_i2l (v := a.toInt64) S.1 S.2.1 dL_raise_10 rfl ?_
    refine mi_last S E hS hW 1500 o1 c1 (by omega) (by omega) dL_raise_11 (fun H locs hW hS hz9 => ?_)
    refine lv_goto (tgt := 27) S.1 S.2.1 dL_raise_12 (by decide) ?_
    refine lv_iconst (v := nI 0) S.1 S.2.1 dL_raise_27 (by decide) ?_
    refine mi_retMi S hr hk hS dL_raise_28 (by show 0 + mc ≤ 6; omega) (by show 0 + ms ≤ 2019; omega) ⟨by rw [hk0], ad1, _, _, hW, hX1.same hO1 (fun r hr9 => ⟨mi_up_n (by omega), rfl⟩), fun r h1 h2 => ⟨(mi_up_n h2).trans (hf1 r h1).1, (hf1 r h1).2⟩, o1, ha1, mi_up_s, fun _ => ?_⟩
    exact if_pos rfl
  · rcases (show k = 1 ∨ k = 2 ∨ k = 3 by omega) with rfl | rfl | rfl
    · skip
      refine mi_cTh (P := rx_P D A S1 ad cf) (Ex := mi_IO) (mi_runVX (P := mi_W D A ad cf) (As := [.int x, .int y, .int z]) (rest := [.int (nI 0), .ref (ad 1500)]) S E hS hW (ad 0) hM (hW.recv E h00 rfl) mw_427 mw_424 mw_425 mw_426 mw_33 ⟨by decide, by decide, by decide +kernel⟩ ⟨rfl, rfl, by show d + 1 ≤ 9; omega, by show 8 + (5 + 11) + 37 * d ≤ 37 * 9; omega⟩ (n := 3) rfl hl.1 rfl (Nat.le_of_ble_eq_true rfl) dL_raise_7 ⟨by show 0 + 1 ≤ 6; omega, by show 0 + 6 ≤ 2019; omega⟩) hS (fun ce q9 H locs hp9 hS h1 h2 h3 => ?_)
      obtain ⟨ad1, cf1, hW, hX1, hf1, ha1⟩ := hp9
      refine vx_catch (name := mi_IO) S.2.2.2.1 [] ⟨0, 12, 15, 13⟩ [⟨0, 12, 19, 15⟩, ⟨0, 12, 23, 17⟩] ht (fun z hz => absurd hz List.not_mem_nil) rfl (by decide) (S.2.2.2.2 _ (List.mem_cons_of_mem _ mw_283)) (va_Nw.use rfl (E.2.2.1 (mi_IO, mi_IO) (by decide))) h1 h2 h3 ?_
      refine lv_astore (lv' := [(5, .ref q9), (0, .ref (ad 0)), (1, .int x), (2, .int y), (3, .int z), (4, .ref (ad 1500))]) S.1 S.2.1 dL_raise_15 hl (by decide) rfl (fun ls hl => ?_)
      refine lv_iconst (v := nI 1) S.1 S.2.1 dL_raise_17 (by decide) ?_
      exact mi_retMi S hr hk hS dL_raise_18 (by show 0 + 1 ≤ 6; omega) (by show 0 + 6 ≤ 2019; omega) ⟨rfl, ad1, cf1, o, hW, hX1, fun r g1 g2 => hf1 r g1, (hf1 1500 (by omega)).2, ha1, (hf1 1500 (by omega)).1.trans hO, fun z => absurd z (by decide)⟩
    · skip
      refine mi_cTh (P := rx_P D A S1 ad cf) (Ex := mi_IA) (mi_runVX (P := mi_W D A ad cf) (As := [.int x, .int y, .int z]) (rest := [.int (nI 0), .ref (ad 1500)]) S E hS hW (ad 0) hM (hW.recv E h00 rfl) mw_427 mw_424 mw_425 mw_426 mw_33 ⟨by decide, by decide, by decide +kernel⟩ ⟨rfl, rfl, by show d + 1 ≤ 9; omega, by show 8 + (5 + 11) + 37 * d ≤ 37 * 9; omega⟩ (n := 3) rfl hl.1 rfl (Nat.le_of_ble_eq_true rfl) dL_raise_7 ⟨by show 0 + 1 ≤ 6; omega, by show 0 + 6 ≤ 2019; omega⟩) hS (fun ce q9 H locs hp9 hS h1 h2 h3 => ?_)
      obtain ⟨ad1, cf1, hW, hX1, hf1, ha1⟩ := hp9
      refine vx_catch (name := mi_IA) S.2.2.2.1 [⟨0, 12, 15, 13⟩] ⟨0, 12, 19, 15⟩ [⟨0, 12, 23, 17⟩] ht (List.forall_mem_cons.mpr ⟨Or.inr ⟨by decide, mi_IO, (S.2.2.2.2 _ (List.mem_cons_of_mem _ mw_283)), E.2.2.2.1 (mi_IA, mi_IO) (by decide)⟩, fun _ h => absurd h List.not_mem_nil⟩) rfl (by decide) (S.2.2.2.2 _ (List.mem_cons_of_mem _ mw_284)) (va_Nw.use rfl (E.2.2.1 (mi_IA, mi_IA) (by decide))) h1 h2 h3 ?_
      refine lv_astore (lv' := [(5, .ref q9), (0, .ref (ad 0)), (1, .int x), (2, .int y), (3, .int z), (4, .ref (ad 1500))]) S.1 S.2.1 dL_raise_19 hl (by decide) rfl (fun ls hl => ?_)
      refine lv_iconst (v := nI 2) S.1 S.2.1 dL_raise_21 (by decide) ?_
      exact mi_retMi S hr hk hS dL_raise_22 (by show 0 + 1 ≤ 6; omega) (by show 0 + 6 ≤ 2019; omega) ⟨rfl, ad1, cf1, o, hW, hX1, fun r g1 g2 => hf1 r g1, (hf1 1500 (by omega)).2, ha1, (hf1 1500 (by omega)).1.trans hO, fun z => absurd z (by decide)⟩
    · skip
      refine mi_cTh (P := rx_P D A S1 ad cf) (Ex := mi_IS) (mi_runVX (P := mi_W D A ad cf) (As := [.int x, .int y, .int z]) (rest := [.int (nI 0), .ref (ad 1500)]) S E hS hW (ad 0) hM (hW.recv E h00 rfl) mw_427 mw_424 mw_425 mw_426 mw_33 ⟨by decide, by decide, by decide +kernel⟩ ⟨rfl, rfl, by show d + 1 ≤ 9; omega, by show 8 + (5 + 11) + 37 * d ≤ 37 * 9; omega⟩ (n := 3) rfl hl.1 rfl (Nat.le_of_ble_eq_true rfl) dL_raise_7 ⟨by show 0 + 1 ≤ 6; omega, by show 0 + 6 ≤ 2019; omega⟩) hS (fun ce q9 H locs hp9 hS h1 h2 h3 => ?_)
      obtain ⟨ad1, cf1, hW, hX1, hf1, ha1⟩ := hp9
      refine vx_catch (name := mi_IS) S.2.2.2.1 [⟨0, 12, 15, 13⟩, ⟨0, 12, 19, 15⟩] ⟨0, 12, 23, 17⟩ [] ht (List.forall_mem_cons.mpr ⟨Or.inr ⟨by decide, mi_IO, (S.2.2.2.2 _ (List.mem_cons_of_mem _ mw_283)), E.2.2.2.1 (mi_IS, mi_IO) (by decide)⟩, List.forall_mem_cons.mpr ⟨Or.inr ⟨by decide, mi_IA, (S.2.2.2.2 _ (List.mem_cons_of_mem _ mw_284)), E.2.2.2.1 (mi_IS, mi_IA) (by decide)⟩, fun _ h => absurd h List.not_mem_nil⟩⟩) rfl (by decide) (S.2.2.2.2 _ (List.mem_cons_of_mem _ mw_285)) (va_Nw.use rfl (E.2.2.1 (mi_IS, mi_IS) (by decide))) h1 h2 h3 ?_
      refine lv_astore (lv' := [(5, .ref q9), (0, .ref (ad 0)), (1, .int x), (2, .int y), (3, .int z), (4, .ref (ad 1500))]) S.1 S.2.1 dL_raise_23 hl (by decide) rfl (fun ls hl => ?_)
      refine lv_iconst (v := nI 3) S.1 S.2.1 dL_raise_25 (by decide) ?_
      exact mi_retMi S hr hk hS dL_raise_26 (by show 0 + 1 ≤ 6; omega) (by show 0 + 6 ≤ 2019; omega) ⟨rfl, ad1, cf1, o, hW, hX1, fun r g1 g2 => hf1 r g1, (hf1 1500 (by omega)).2, ha1, (hf1 1500 (by omega)).1.trans hO, fun z => absurd z (by decide)⟩
set_option maxHeartbeats 4000000 in
set_option maxRecDepth 100000 in
theorem c_Llayer (l : Launch) (D : va_G) (A : Nat → Prop) {ad : Nat → Nat} {cf : Nat → Option va_E} {o : Nat → Int64} {x y : Int32} {k : Nat} {a : Int32} {S1 : sT} (hk3 : k ≤ 3) (hO : cf 1500 = some (mi_al D 1 o)) (h0 : ∃ fs, cf 0 = some (.inr (5, fs))) (hO1 : st_ok S1) (hM : lw_Cl l D A ad cf yX4_layer (Cond.code yX4_layer cX4_layer 4 (some Jvm.ClassFile.FieldType.int)) [.ref (ad 0), .int x, .int y] lw_ex3 k a S1) : mi_Mi l yL_layer (Cond.codeWith yL_layer cL_layer 5 (some Jvm.ClassFile.FieldType.int) [(0, 10, 13, 13), (0, 10, 17, 15), (0, 10, 21, 17)]) (mi_rq 9 6 2019) D A (mi_W D A ad cf) [.ref (ad 0), .int x, .int y, .ref (ad 1500)] 6 2019 (fun r H => r = nI k ∧ lw_B D A S1 ad cf (k = 0) a H) := by
  refine mi_startH (cc := cL_layer) (nL := 5) (ret := (some Jvm.ClassFile.FieldType.int)) (hh := [(0, 10, 13, 13), (0, 10, 17, 15), (0, 10, 21, 17)]) rfl (by decide) (Nat.le_of_ble_eq_true rfl) ?_
  intro p e s m below meth c ls S E hW hS hr hk ht hl
  have S : CallFix p m c cL_layer 5 s _ ((Cond.codeWith yL_layer cL_layer 5 (some Jvm.ClassFile.FieldType.int) [(0, 10, 13, 13), (0, 10, 17, 15), (0, 10, 21, 17)]) :: mi_G) RL := S
  have hl : lv_has ls 5 [(0, .ref (ad 0)), (1, .int x), (2, .int y), (3, .ref (ad 1500))] := hl
  obtain ⟨fs0, h00⟩ := h0
  refine lv_aload_n S.1 S.2.1 dL_layer_0 rfl (lv_at hl 3 rfl) ?_
  refine lv_iconst (v := nI 0) S.1 S.2.1 dL_layer_1 (by decide) ?_
  refine lv_aload_n S.1 S.2.1 dL_layer_2 rfl (lv_at hl 0 rfl) ?_
  refine lv_iload_n S.1 S.2.1 dL_layer_3 rfl (lv_at hl 1 rfl) ?_
  refine lv_iload_n S.1 S.2.1 dL_layer_4 rfl (lv_at hl 2 rfl) ?_
  rcases hM with ⟨hk0, d, mc, ms, hd, hmc, hms, hM⟩ | ⟨hkn, d, hd, hM⟩
  · refine mi_cMi (mi_runV (P := mi_W D A ad cf) (As := [.int x, .int y]) (rest := [.int (nI 0), .ref (ad 1500)]) S E hS hW (ad 0) hM (hW.recv E h00 rfl) mw_441 mw_438 mw_439 mw_440 mw_33 ⟨by decide, by decide, by decide +kernel⟩ ⟨rfl, rfl, by show d + 1 ≤ 9; omega, by show 8 + (4 + 11) + 37 * d ≤ 37 * 9; omega⟩ (n := 2) rfl hl.1 rfl (Nat.le_of_ble_eq_true rfl) dL_layer_5 ⟨by show 0 + mc ≤ 6; omega, by show 0 + ms ≤ 2019; omega⟩) hS (fun r9 H locs hp9 hS hz9 => ?_)
    obtain ⟨e9, ad1, cf1, hW, hX1, hf1, ha1⟩ := hp9
    have o1 : ad1 1500 = ad 1500 := (hf1 1500 (by omega)).2
    have c1 : cf1 1500 = some (mi_al D 1 o) := (hf1 1500 (by omega)).1.trans hO
    refine mi_top (v' := .int a) (by rw [e9]) ?_
    refine lv_i2l (v := a.toInt64) S.1 S.2.1 dL_layer_8 rfl ?_
    refine mi_last S E hS hW 1500 o1 c1 (by omega) (by omega) dL_layer_9 (fun H locs hW hS hz9 => ?_)
    refine lv_goto (tgt := 25) S.1 S.2.1 dL_layer_10 (by decide) ?_
    refine lv_iconst (v := nI 0) S.1 S.2.1 dL_layer_25 (by decide) ?_
    refine mi_retMi S hr hk hS dL_layer_26 (by show 0 + mc ≤ 6; omega) (by show 0 + ms ≤ 2019; omega) ⟨by rw [hk0], ad1, _, _, hW, hX1.same hO1 (fun r hr9 => ⟨mi_up_n (by omega), rfl⟩), fun r h1 h2 => ⟨(mi_up_n h2).trans (hf1 r h1).1, (hf1 r h1).2⟩, o1, ha1, mi_up_s, fun _ => ?_⟩
    exact if_pos rfl
  · rcases (show k = 1 ∨ k = 2 ∨ k = 3 by omega) with rfl | rfl | rfl
    · skip
      refine mi_cTh (P := rx_P D A S1 ad cf) (Ex := mi_IO) (mi_runVX (P := mi_W D A ad cf) (As := [.int x, .int y]) (rest := [.int (nI 0), .ref (ad 1500)]) S E hS hW (ad 0) hM (hW.recv E h00 rfl) mw_441 mw_438 mw_439 mw_440 mw_33 ⟨by decide, by decide, by decide +kernel⟩ ⟨rfl, rfl, by show d + 1 ≤ 9; omega, by show 8 + (4 + 11) + 37 * d ≤ 37 * 9; omega⟩ (n := 2) rfl hl.1 rfl (Nat.le_of_ble_eq_true rfl) dL_layer_5 ⟨by show 0 + 1 ≤ 6; omega, by show 0 + 6 ≤ 2019; omega⟩) hS (fun ce q9 H locs hp9 hS h1 h2 h3 => ?_)
      obtain ⟨ad1, cf1, hW, hX1, hf1, ha1⟩ := hp9
      refine vx_catch (name := mi_IO) S.2.2.2.1 [] ⟨0, 10, 13, 13⟩ [⟨0, 10, 17, 15⟩, ⟨0, 10, 21, 17⟩] ht (fun z hz => absurd hz List.not_mem_nil) rfl (by decide) (S.2.2.2.2 _ (List.mem_cons_of_mem _ mw_283)) (va_Nw.use rfl (E.2.2.1 (mi_IO, mi_IO) (by decide))) h1 h2 h3 ?_
      refine lv_astore (lv' := [(4, .ref q9), (0, .ref (ad 0)), (1, .int x), (2, .int y), (3, .ref (ad 1500))]) S.1 S.2.1 dL_layer_13 hl (by decide) rfl (fun ls hl => ?_)
      refine lv_iconst (v := nI 1) S.1 S.2.1 dL_layer_15 (by decide) ?_
      exact mi_retMi S hr hk hS dL_layer_16 (by show 0 + 1 ≤ 6; omega) (by show 0 + 6 ≤ 2019; omega) ⟨rfl, ad1, cf1, o, hW, hX1, fun r g1 g2 => hf1 r g1, (hf1 1500 (by omega)).2, ha1, (hf1 1500 (by omega)).1.trans hO, fun z => absurd z (by decide)⟩
    · skip
      refine mi_cTh (P := rx_P D A S1 ad cf) (Ex := mi_IA) (mi_runVX (P := mi_W D A ad cf) (As := [.int x, .int y]) (rest := [.int (nI 0), .ref (ad 1500)]) S E hS hW (ad 0) hM (hW.recv E h00 rfl) mw_441 mw_438 mw_439 mw_440 mw_33 ⟨by decide, by decide, by decide +kernel⟩ ⟨rfl, rfl, by show d + 1 ≤ 9; omega, by show 8 + (4 + 11) + 37 * d ≤ 37 * 9; omega⟩ (n := 2) rfl hl.1 rfl (Nat.le_of_ble_eq_true rfl) dL_layer_5 ⟨by show 0 + 1 ≤ 6; omega, by show 0 + 6 ≤ 2019; omega⟩) hS (fun ce q9 H locs hp9 hS h1 h2 h3 => ?_)
      obtain ⟨ad1, cf1, hW, hX1, hf1, ha1⟩ := hp9
      refine vx_catch (name := mi_IA) S.2.2.2.1 [⟨0, 10, 13, 13⟩] ⟨0, 10, 17, 15⟩ [⟨0, 10, 21, 17⟩] ht (List.forall_mem_cons.mpr ⟨Or.inr ⟨by decide, mi_IO, (S.2.2.2.2 _ (List.mem_cons_of_mem _ mw_283)), E.2.2.2.1 (mi_IA, mi_IO) (by decide)⟩, fun _ h => absurd h List.not_mem_nil⟩) rfl (by decide) (S.2.2.2.2 _ (List.mem_cons_of_mem _ mw_284)) (va_Nw.use rfl (E.2.2.1 (mi_IA, mi_IA) (by decide))) h1 h2 h3 ?_
      refine lv_astore (lv' := [(4, .ref q9), (0, .ref (ad 0)), (1, .int x), (2, .int y), (3, .ref (ad 1500))]) S.1 S.2.1 dL_layer_17 hl (by decide) rfl (fun ls hl => ?_)
      refine lv_iconst (v := nI 2) S.1 S.2.1 dL_layer_19 (by decide) ?_
      exact mi_retMi S hr hk hS dL_layer_20 (by show 0 + 1 ≤ 6; omega) (by show 0 + 6 ≤ 2019; omega) ⟨rfl, ad1, cf1, o, hW, hX1, fun r g1 g2 => hf1 r g1, (hf1 1500 (by omega)).2, ha1, (hf1 1500 (by omega)).1.trans hO, fun z => absurd z (by decide)⟩
    · skip
      refine mi_cTh (P := rx_P D A S1 ad cf) (Ex := mi_IS) (mi_runVX (P := mi_W D A ad cf) (As := [.int x, .int y]) (rest := [.int (nI 0), .ref (ad 1500)]) S E hS hW (ad 0) hM (hW.recv E h00 rfl) mw_441 mw_438 mw_439 mw_440 mw_33 ⟨by decide, by decide, by decide +kernel⟩ ⟨rfl, rfl, by show d + 1 ≤ 9; omega, by show 8 + (4 + 11) + 37 * d ≤ 37 * 9; omega⟩ (n := 2) rfl hl.1 rfl (Nat.le_of_ble_eq_true rfl) dL_layer_5 ⟨by show 0 + 1 ≤ 6; omega, by show 0 + 6 ≤ 2019; omega⟩) hS (fun ce q9 H locs hp9 hS h1 h2 h3 => ?_)
      obtain ⟨ad1, cf1, hW, hX1, hf1, ha1⟩ := hp9
      refine vx_catch (name := mi_IS) S.2.2.2.1 [⟨0, 10, 13, 13⟩, ⟨0, 10, 17, 15⟩] ⟨0, 10, 21, 17⟩ [] ht (List.forall_mem_cons.mpr ⟨Or.inr ⟨by decide, mi_IO, (S.2.2.2.2 _ (List.mem_cons_of_mem _ mw_283)), E.2.2.2.1 (mi_IS, mi_IO) (by decide)⟩, List.forall_mem_cons.mpr ⟨Or.inr ⟨by decide, mi_IA, (S.2.2.2.2 _ (List.mem_cons_of_mem _ mw_284)), E.2.2.2.1 (mi_IS, mi_IA) (by decide)⟩, fun _ h => absurd h List.not_mem_nil⟩⟩) rfl (by decide) (S.2.2.2.2 _ (List.mem_cons_of_mem _ mw_285)) (va_Nw.use rfl (E.2.2.1 (mi_IS, mi_IS) (by decide))) h1 h2 h3 ?_
      refine lv_astore (lv' := [(4, .ref q9), (0, .ref (ad 0)), (1, .int x), (2, .int y), (3, .ref (ad 1500))]) S.1 S.2.1 dL_layer_21 hl (by decide) rfl (fun ls hl => ?_)
      refine lv_iconst (v := nI 3) S.1 S.2.1 dL_layer_23 (by decide) ?_
      exact mi_retMi S hr hk hS dL_layer_24 (by show 0 + 1 ≤ 6; omega) (by show 0 + 6 ≤ 2019; omega) ⟨rfl, ad1, cf1, o, hW, hX1, fun r g1 g2 => hf1 r g1, (hf1 1500 (by omega)).2, ha1, (hf1 1500 (by omega)).1.trans hO, fun z => absurd z (by decide)⟩
set_option maxHeartbeats 4000000 in
set_option maxRecDepth 100000 in
theorem c_Lkind (l : Launch) (D : va_G) (A : Nat → Prop) {ad : Nat → Nat} {cf : Nat → Option va_E} {o : Nat → Int64} {x y : Int32} {k : Nat} {a : Int32} {S1 : sT} (hk3 : k ≤ 1) (hO : cf 1500 = some (mi_al D 1 o)) (h0 : ∃ fs, cf 0 = some (.inr (5, fs))) (hO1 : st_ok S1) (hM : lw_Cl l D A ad cf yX4_kind (Cond.code yX4_kind cX4_kind 3 (some Jvm.ClassFile.FieldType.int)) [.ref (ad 0), .int x, .int y] lw_exO k a S1) : mi_Mi l yL_kind (Cond.codeWith yL_kind cL_kind 5 (some Jvm.ClassFile.FieldType.int) [(0, 10, 13, 13)]) (mi_rq 9 6 2019) D A (mi_W D A ad cf) [.ref (ad 0), .int x, .int y, .ref (ad 1500)] 6 2019 (fun r H => r = nI k ∧ lw_B D A S1 ad cf (k = 0) a H) := by
  refine mi_startH (cc := cL_kind) (nL := 5) (ret := (some Jvm.ClassFile.FieldType.int)) (hh := [(0, 10, 13, 13)]) rfl (by decide) (Nat.le_of_ble_eq_true rfl) ?_
  intro p e s m below meth c ls S E hW hS hr hk ht hl
  have S : CallFix p m c cL_kind 5 s _ ((Cond.codeWith yL_kind cL_kind 5 (some Jvm.ClassFile.FieldType.int) [(0, 10, 13, 13)]) :: mi_G) RL := S
  have hl : lv_has ls 5 [(0, .ref (ad 0)), (1, .int x), (2, .int y), (3, .ref (ad 1500))] := hl
  obtain ⟨fs0, h00⟩ := h0
  refine lv_aload_n S.1 S.2.1 dL_kind_0 rfl (lv_at hl 3 rfl) ?_
  refine lv_iconst (v := nI 0) S.1 S.2.1 dL_kind_1 (by decide) ?_
  refine lv_aload_n S.1 S.2.1 dL_kind_2 rfl (lv_at hl 0 rfl) ?_
  refine lv_iload_n S.1 S.2.1 dL_kind_3 rfl (lv_at hl 1 rfl) ?_
  refine lv_iload_n S.1 S.2.1 dL_kind_4 rfl (lv_at hl 2 rfl) ?_
  rcases hM with ⟨hk0, d, mc, ms, hd, hmc, hms, hM⟩ | ⟨hkn, d, hd, hM⟩
  · refine mi_cMi (mi_runV (P := mi_W D A ad cf) (As := [.int x, .int y]) (rest := [.int (nI 0), .ref (ad 1500)]) S E hS hW (ad 0) hM (hW.recv E h00 rfl) mw_448 mw_445 mw_446 mw_447 mw_33 ⟨by decide, by decide, by decide +kernel⟩ ⟨rfl, rfl, by show d + 1 ≤ 9; omega, by show 8 + (3 + 11) + 37 * d ≤ 37 * 9; omega⟩ (n := 2) rfl hl.1 rfl (Nat.le_of_ble_eq_true rfl) dL_kind_5 ⟨by show 0 + mc ≤ 6; omega, by show 0 + ms ≤ 2019; omega⟩) hS (fun r9 H locs hp9 hS hz9 => ?_)
    obtain ⟨e9, ad1, cf1, hW, hX1, hf1, ha1⟩ := hp9
    have o1 : ad1 1500 = ad 1500 := (hf1 1500 (by omega)).2
    have c1 : cf1 1500 = some (mi_al D 1 o) := (hf1 1500 (by omega)).1.trans hO
    refine mi_top (v' := .int a) (by rw [e9]) ?_
    refine lv_i2l (v := a.toInt64) S.1 S.2.1 dL_kind_8 rfl ?_
    refine mi_last S E hS hW 1500 o1 c1 (by omega) (by omega) dL_kind_9 (fun H locs hW hS hz9 => ?_)
    refine lv_goto (tgt := 17) S.1 S.2.1 dL_kind_10 (by decide) ?_
    refine lv_iconst (v := nI 0) S.1 S.2.1 dL_kind_17 (by decide) ?_
    refine mi_retMi S hr hk hS dL_kind_18 (by show 0 + mc ≤ 6; omega) (by show 0 + ms ≤ 2019; omega) ⟨by rw [hk0], ad1, _, _, hW, hX1.same hO1 (fun r hr9 => ⟨mi_up_n (by omega), rfl⟩), fun r h1 h2 => ⟨(mi_up_n h2).trans (hf1 r h1).1, (hf1 r h1).2⟩, o1, ha1, mi_up_s, fun _ => ?_⟩
    exact if_pos rfl
  · obtain rfl : k = 1 := by omega
    refine mi_cTh (P := rx_P D A S1 ad cf) (Ex := mi_IO) (mi_runVX (P := mi_W D A ad cf) (As := [.int x, .int y]) (rest := [.int (nI 0), .ref (ad 1500)]) S E hS hW (ad 0) hM (hW.recv E h00 rfl) mw_448 mw_445 mw_446 mw_447 mw_33 ⟨by decide, by decide, by decide +kernel⟩ ⟨rfl, rfl, by show d + 1 ≤ 9; omega, by show 8 + (3 + 11) + 37 * d ≤ 37 * 9; omega⟩ (n := 2) rfl hl.1 rfl (Nat.le_of_ble_eq_true rfl) dL_kind_5 ⟨by show 0 + 1 ≤ 6; omega, by show 0 + 6 ≤ 2019; omega⟩) hS (fun ce q9 H locs hp9 hS h1 h2 h3 => ?_)
    obtain ⟨ad1, cf1, hW, hX1, hf1, ha1⟩ := hp9
    refine vx_catch (name := mi_IO) S.2.2.2.1 [] ⟨0, 10, 13, 13⟩ [] ht (fun z hz => absurd hz List.not_mem_nil) rfl (by decide) (S.2.2.2.2 _ (List.mem_cons_of_mem _ mw_283)) (va_Nw.use rfl (E.2.2.1 (mi_IO, mi_IO) (by decide))) h1 h2 h3 ?_
    refine lv_astore (lv' := [(4, .ref q9), (0, .ref (ad 0)), (1, .int x), (2, .int y), (3, .ref (ad 1500))]) S.1 S.2.1 dL_kind_13 hl (by decide) rfl (fun ls hl => ?_)
    refine lv_iconst (v := nI 1) S.1 S.2.1 dL_kind_15 (by decide) ?_
    exact mi_retMi S hr hk hS dL_kind_16 (by show 0 + 1 ≤ 6; omega) (by show 0 + 6 ≤ 2019; omega) ⟨rfl, ad1, cf1, o, hW, hX1, fun r g1 g2 => hf1 r g1, (hf1 1500 (by omega)).2, ha1, (hf1 1500 (by omega)).1.trans hO, fun z => absurd z (by decide)⟩
set_option maxHeartbeats 4000000 in
set_option maxRecDepth 100000 in
theorem c_Lruns (l : Launch) (D : va_G) (A : Nat → Prop) {ad : Nat → Nat} {cf : Nat → Option va_E} {o : Nat → Int64} {x : Int32} {k : Nat} {a : Int32} {S1 : sT} (hk3 : k ≤ 1) (hO : cf 1500 = some (mi_al D 1 o)) (h0 : ∃ fs, cf 0 = some (.inr (5, fs))) (hO1 : st_ok S1) (hM : lw_Cl l D A ad cf yX4_runs (Cond.code yX4_runs cX4_runs 2 (some Jvm.ClassFile.FieldType.int)) [.ref (ad 0), .int x] lw_exO k a S1) : mi_Mi l yL_runs (Cond.codeWith yL_runs cL_runs 4 (some Jvm.ClassFile.FieldType.int) [(0, 9, 12, 13)]) (mi_rq 9 6 2019) D A (mi_W D A ad cf) [.ref (ad 0), .int x, .ref (ad 1500)] 6 2019 (fun r H => r = nI k ∧ lw_B D A S1 ad cf (k = 0) a H) := by
  refine mi_startH (cc := cL_runs) (nL := 4) (ret := (some Jvm.ClassFile.FieldType.int)) (hh := [(0, 9, 12, 13)]) rfl (by decide) (Nat.le_of_ble_eq_true rfl) ?_
  intro p e s m below meth c ls S E hW hS hr hk ht hl
  have S : CallFix p m c cL_runs 4 s _ ((Cond.codeWith yL_runs cL_runs 4 (some Jvm.ClassFile.FieldType.int) [(0, 9, 12, 13)]) :: mi_G) RL := S
  have hl : lv_has ls 4 [(0, .ref (ad 0)), (1, .int x), (2, .ref (ad 1500))] := hl
  obtain ⟨fs0, h00⟩ := h0
  refine lv_aload_n S.1 S.2.1 dL_runs_0 rfl (lv_at hl 2 rfl) ?_
  refine lv_iconst (v := nI 0) S.1 S.2.1 dL_runs_1 (by decide) ?_
  refine lv_aload_n S.1 S.2.1 dL_runs_2 rfl (lv_at hl 0 rfl) ?_
  refine lv_iload_n S.1 S.2.1 dL_runs_3 rfl (lv_at hl 1 rfl) ?_
  rcases hM with ⟨hk0, d, mc, ms, hd, hmc, hms, hM⟩ | ⟨hkn, d, hd, hM⟩
  · refine mi_cMi (mi_runV (P := mi_W D A ad cf) (As := [.int x]) (rest := [.int (nI 0), .ref (ad 1500)]) S E hS hW (ad 0) hM (hW.recv E h00 rfl) mw_455 mw_452 mw_453 mw_454 mw_33 ⟨by decide, by decide, by decide +kernel⟩ ⟨rfl, rfl, by show d + 1 ≤ 9; omega, by show 8 + (2 + 11) + 37 * d ≤ 37 * 9; omega⟩ (n := 1) rfl hl.1 rfl (Nat.le_of_ble_eq_true rfl) dL_runs_4 ⟨by show 0 + mc ≤ 6; omega, by show 0 + ms ≤ 2019; omega⟩) hS (fun r9 H locs hp9 hS hz9 => ?_)
    obtain ⟨e9, ad1, cf1, hW, hX1, hf1, ha1⟩ := hp9
    have o1 : ad1 1500 = ad 1500 := (hf1 1500 (by omega)).2
    have c1 : cf1 1500 = some (mi_al D 1 o) := (hf1 1500 (by omega)).1.trans hO
    refine mi_top (v' := .int a) (by rw [e9]) ?_
    refine lv_i2l (v := a.toInt64) S.1 S.2.1 dL_runs_7 rfl ?_
    refine mi_last S E hS hW 1500 o1 c1 (by omega) (by omega) dL_runs_8 (fun H locs hW hS hz9 => ?_)
    refine lv_goto (tgt := 15) S.1 S.2.1 dL_runs_9 (by decide) ?_
    refine lv_iconst (v := nI 0) S.1 S.2.1 dL_runs_15 (by decide) ?_
    refine mi_retMi S hr hk hS dL_runs_16 (by show 0 + mc ≤ 6; omega) (by show 0 + ms ≤ 2019; omega) ⟨by rw [hk0], ad1, _, _, hW, hX1.same hO1 (fun r hr9 => ⟨mi_up_n (by omega), rfl⟩), fun r h1 h2 => ⟨(mi_up_n h2).trans (hf1 r h1).1, (hf1 r h1).2⟩, o1, ha1, mi_up_s, fun _ => ?_⟩
    exact if_pos rfl
  · obtain rfl : k = 1 := by omega
    refine mi_cTh (P := rx_P D A S1 ad cf) (Ex := mi_IO) (mi_runVX (P := mi_W D A ad cf) (As := [.int x]) (rest := [.int (nI 0), .ref (ad 1500)]) S E hS hW (ad 0) hM (hW.recv E h00 rfl) mw_455 mw_452 mw_453 mw_454 mw_33 ⟨by decide, by decide, by decide +kernel⟩ ⟨rfl, rfl, by show d + 1 ≤ 9; omega, by show 8 + (2 + 11) + 37 * d ≤ 37 * 9; omega⟩ (n := 1) rfl hl.1 rfl (Nat.le_of_ble_eq_true rfl) dL_runs_4 ⟨by show 0 + 1 ≤ 6; omega, by show 0 + 6 ≤ 2019; omega⟩) hS (fun ce q9 H locs hp9 hS h1 h2 h3 => ?_)
    obtain ⟨ad1, cf1, hW, hX1, hf1, ha1⟩ := hp9
    refine vx_catch (name := mi_IO) S.2.2.2.1 [] ⟨0, 9, 12, 13⟩ [] ht (fun z hz => absurd hz List.not_mem_nil) rfl (by decide) (S.2.2.2.2 _ (List.mem_cons_of_mem _ mw_283)) (va_Nw.use rfl (E.2.2.1 (mi_IO, mi_IO) (by decide))) h1 h2 h3 ?_
    refine lv_astore_n (lv' := [(3, .ref q9), (0, .ref (ad 0)), (1, .int x), (2, .ref (ad 1500))]) S.1 S.2.1 dL_runs_12 rfl hl (by decide) rfl (fun ls hl => ?_)
    refine lv_iconst (v := nI 1) S.1 S.2.1 dL_runs_13 (by decide) ?_
    exact mi_retMi S hr hk hS dL_runs_14 (by show 0 + 1 ≤ 6; omega) (by show 0 + 6 ≤ 2019; omega) ⟨rfl, ad1, cf1, o, hW, hX1, fun r g1 g2 => hf1 r g1, (hf1 1500 (by omega)).2, ha1, (hf1 1500 (by omega)).1.trans hO, fun z => absurd z (by decide)⟩
set_option maxHeartbeats 4000000 in
set_option maxRecDepth 100000 in
theorem c_LrunLength (l : Launch) (D : va_G) (A : Nat → Prop) {ad : Nat → Nat} {cf : Nat → Option va_E} {o : Nat → Int64} {x y : Int32} {k : Nat} {a : Int32} {S1 : sT} (hk3 : k ≤ 1) (hO : cf 1500 = some (mi_al D 1 o)) (h0 : ∃ fs, cf 0 = some (.inr (5, fs))) (hO1 : st_ok S1) (hM : lw_Cl l D A ad cf yX4_runLength (Cond.code yX4_runLength cX4_runLength 3 (some Jvm.ClassFile.FieldType.int)) [.ref (ad 0), .int x, .int y] lw_exO k a S1) : mi_Mi l yL_runLength (Cond.codeWith yL_runLength cL_runLength 5 (some Jvm.ClassFile.FieldType.int) [(0, 10, 13, 13)]) (mi_rq 9 6 2019) D A (mi_W D A ad cf) [.ref (ad 0), .int x, .int y, .ref (ad 1500)] 6 2019 (fun r H => r = nI k ∧ lw_B D A S1 ad cf (k = 0) a H) := by
  refine mi_startH (cc := cL_runLength) (nL := 5) (ret := (some Jvm.ClassFile.FieldType.int)) (hh := [(0, 10, 13, 13)]) rfl (by decide) (Nat.le_of_ble_eq_true rfl) ?_
  intro p e s m below meth c ls S E hW hS hr hk ht hl
  have S : CallFix p m c cL_runLength 5 s _ ((Cond.codeWith yL_runLength cL_runLength 5 (some Jvm.ClassFile.FieldType.int) [(0, 10, 13, 13)]) :: mi_G) RL := S
  have hl : lv_has ls 5 [(0, .ref (ad 0)), (1, .int x), (2, .int y), (3, .ref (ad 1500))] := hl
  obtain ⟨fs0, h00⟩ := h0
  refine lv_aload_n S.1 S.2.1 dL_runLength_0 rfl (lv_at hl 3 rfl) ?_
  refine lv_iconst (v := nI 0) S.1 S.2.1 dL_runLength_1 (by decide) ?_
  refine lv_aload_n S.1 S.2.1 dL_runLength_2 rfl (lv_at hl 0 rfl) ?_
  refine lv_iload_n S.1 S.2.1 dL_runLength_3 rfl (lv_at hl 1 rfl) ?_
  refine lv_iload_n S.1 S.2.1 dL_runLength_4 rfl (lv_at hl 2 rfl) ?_
  rcases hM with ⟨hk0, d, mc, ms, hd, hmc, hms, hM⟩ | ⟨hkn, d, hd, hM⟩
  · refine mi_cMi (mi_runV (P := mi_W D A ad cf) (As := [.int x, .int y]) (rest := [.int (nI 0), .ref (ad 1500)]) S E hS hW (ad 0) hM (hW.recv E h00 rfl) mw_466 mw_463 mw_464 mw_465 mw_33 ⟨by decide, by decide, by decide +kernel⟩ ⟨rfl, rfl, by show d + 1 ≤ 9; omega, by show 8 + (3 + 11) + 37 * d ≤ 37 * 9; omega⟩ (n := 2) rfl hl.1 rfl (Nat.le_of_ble_eq_true rfl) dL_runLength_5 ⟨by show 0 + mc ≤ 6; omega, by show 0 + ms ≤ 2019; omega⟩) hS (fun r9 H locs hp9 hS hz9 => ?_)
    obtain ⟨e9, ad1, cf1, hW, hX1, hf1, ha1⟩ := hp9
    have o1 : ad1 1500 = ad 1500 := (hf1 1500 (by omega)).2
    have c1 : cf1 1500 = some (mi_al D 1 o) := (hf1 1500 (by omega)).1.trans hO
    refine mi_top (v' := .int a) (by rw [e9]) ?_
    refine lv_i2l (v := a.toInt64) S.1 S.2.1 dL_runLength_8 rfl ?_
    refine mi_last S E hS hW 1500 o1 c1 (by omega) (by omega) dL_runLength_9 (fun H locs hW hS hz9 => ?_)
    refine lv_goto (tgt := 17) S.1 S.2.1 dL_runLength_10 (by decide) ?_
    refine lv_iconst (v := nI 0) S.1 S.2.1 dL_runLength_17 (by decide) ?_
    refine mi_retMi S hr hk hS dL_runLength_18 (by show 0 + mc ≤ 6; omega) (by show 0 + ms ≤ 2019; omega) ⟨by rw [hk0], ad1, _, _, hW, hX1.same hO1 (fun r hr9 => ⟨mi_up_n (by omega), rfl⟩), fun r h1 h2 => ⟨(mi_up_n h2).trans (hf1 r h1).1, (hf1 r h1).2⟩, o1, ha1, mi_up_s, fun _ => ?_⟩
    exact if_pos rfl
  · obtain rfl : k = 1 := by omega
    refine mi_cTh (P := rx_P D A S1 ad cf) (Ex := mi_IO) (mi_runVX (P := mi_W D A ad cf) (As := [.int x, .int y]) (rest := [.int (nI 0), .ref (ad 1500)]) S E hS hW (ad 0) hM (hW.recv E h00 rfl) mw_466 mw_463 mw_464 mw_465 mw_33 ⟨by decide, by decide, by decide +kernel⟩ ⟨rfl, rfl, by show d + 1 ≤ 9; omega, by show 8 + (3 + 11) + 37 * d ≤ 37 * 9; omega⟩ (n := 2) rfl hl.1 rfl (Nat.le_of_ble_eq_true rfl) dL_runLength_5 ⟨by show 0 + 1 ≤ 6; omega, by show 0 + 6 ≤ 2019; omega⟩) hS (fun ce q9 H locs hp9 hS h1 h2 h3 => ?_)
    obtain ⟨ad1, cf1, hW, hX1, hf1, ha1⟩ := hp9
    refine vx_catch (name := mi_IO) S.2.2.2.1 [] ⟨0, 10, 13, 13⟩ [] ht (fun z hz => absurd hz List.not_mem_nil) rfl (by decide) (S.2.2.2.2 _ (List.mem_cons_of_mem _ mw_283)) (va_Nw.use rfl (E.2.2.1 (mi_IO, mi_IO) (by decide))) h1 h2 h3 ?_
    refine lv_astore (lv' := [(4, .ref q9), (0, .ref (ad 0)), (1, .int x), (2, .int y), (3, .ref (ad 1500))]) S.1 S.2.1 dL_runLength_13 hl (by decide) rfl (fun ls hl => ?_)
    refine lv_iconst (v := nI 1) S.1 S.2.1 dL_runLength_15 (by decide) ?_
    exact mi_retMi S hr hk hS dL_runLength_16 (by show 0 + 1 ≤ 6; omega) (by show 0 + 6 ≤ 2019; omega) ⟨rfl, ad1, cf1, o, hW, hX1, fun r g1 g2 => hf1 r g1, (hf1 1500 (by omega)).2, ha1, (hf1 1500 (by omega)).1.trans hO, fun z => absurd z (by decide)⟩
set_option maxHeartbeats 4000000 in
set_option maxRecDepth 100000 in
theorem c_Lheight (l : Launch) (D : va_G) (A : Nat → Prop) {ad : Nat → Nat} {cf : Nat → Option va_E} {o : Nat → Int64} {x : Int32} {k : Nat} {a : Int32} {S1 : sT} (hk3 : k ≤ 1) (hO : cf 1500 = some (mi_al D 1 o)) (h0 : ∃ fs, cf 0 = some (.inr (5, fs))) (hO1 : st_ok S1) (hM : lw_Cl l D A ad cf yX4_height (Cond.code yX4_height cX4_height 2 (some Jvm.ClassFile.FieldType.int)) [.ref (ad 0), .int x] lw_exO k a S1) : mi_Mi l yL_height (Cond.codeWith yL_height cL_height 4 (some Jvm.ClassFile.FieldType.int) [(0, 9, 12, 13)]) (mi_rq 9 6 2019) D A (mi_W D A ad cf) [.ref (ad 0), .int x, .ref (ad 1500)] 6 2019 (fun r H => r = nI k ∧ lw_B D A S1 ad cf (k = 0) a H) := by
  refine mi_startH (cc := cL_height) (nL := 4) (ret := (some Jvm.ClassFile.FieldType.int)) (hh := [(0, 9, 12, 13)]) rfl (by decide) (Nat.le_of_ble_eq_true rfl) ?_
  intro p e s m below meth c ls S E hW hS hr hk ht hl
  have S : CallFix p m c cL_height 4 s _ ((Cond.codeWith yL_height cL_height 4 (some Jvm.ClassFile.FieldType.int) [(0, 9, 12, 13)]) :: mi_G) RL := S
  have hl : lv_has ls 4 [(0, .ref (ad 0)), (1, .int x), (2, .ref (ad 1500))] := hl
  obtain ⟨fs0, h00⟩ := h0
  refine lv_aload_n S.1 S.2.1 dL_height_0 rfl (lv_at hl 2 rfl) ?_
  refine lv_iconst (v := nI 0) S.1 S.2.1 dL_height_1 (by decide) ?_
  refine lv_aload_n S.1 S.2.1 dL_height_2 rfl (lv_at hl 0 rfl) ?_
  refine lv_iload_n S.1 S.2.1 dL_height_3 rfl (lv_at hl 1 rfl) ?_
  rcases hM with ⟨hk0, d, mc, ms, hd, hmc, hms, hM⟩ | ⟨hkn, d, hd, hM⟩
  · refine mi_cMi (mi_runV (P := mi_W D A ad cf) (As := [.int x]) (rest := [.int (nI 0), .ref (ad 1500)]) S E hS hW (ad 0) hM (hW.recv E h00 rfl) mw_478 mw_475 mw_476 mw_477 mw_33 ⟨by decide, by decide, by decide +kernel⟩ ⟨rfl, rfl, by show d + 1 ≤ 9; omega, by show 8 + (2 + 11) + 37 * d ≤ 37 * 9; omega⟩ (n := 1) rfl hl.1 rfl (Nat.le_of_ble_eq_true rfl) dL_height_4 ⟨by show 0 + mc ≤ 6; omega, by show 0 + ms ≤ 2019; omega⟩) hS (fun r9 H locs hp9 hS hz9 => ?_)
    obtain ⟨e9, ad1, cf1, hW, hX1, hf1, ha1⟩ := hp9
    have o1 : ad1 1500 = ad 1500 := (hf1 1500 (by omega)).2
    have c1 : cf1 1500 = some (mi_al D 1 o) := (hf1 1500 (by omega)).1.trans hO
    refine mi_top (v' := .int a) (by rw [e9]) ?_
    refine lv_i2l (v := a.toInt64) S.1 S.2.1 dL_height_7 rfl ?_
    refine mi_last S E hS hW 1500 o1 c1 (by omega) (by omega) dL_height_8 (fun H locs hW hS hz9 => ?_)
    refine lv_goto (tgt := 15) S.1 S.2.1 dL_height_9 (by decide) ?_
    refine lv_iconst (v := nI 0) S.1 S.2.1 dL_height_15 (by decide) ?_
    refine mi_retMi S hr hk hS dL_height_16 (by show 0 + mc ≤ 6; omega) (by show 0 + ms ≤ 2019; omega) ⟨by rw [hk0], ad1, _, _, hW, hX1.same hO1 (fun r hr9 => ⟨mi_up_n (by omega), rfl⟩), fun r h1 h2 => ⟨(mi_up_n h2).trans (hf1 r h1).1, (hf1 r h1).2⟩, o1, ha1, mi_up_s, fun _ => ?_⟩
    exact if_pos rfl
  · obtain rfl : k = 1 := by omega
    refine mi_cTh (P := rx_P D A S1 ad cf) (Ex := mi_IO) (mi_runVX (P := mi_W D A ad cf) (As := [.int x]) (rest := [.int (nI 0), .ref (ad 1500)]) S E hS hW (ad 0) hM (hW.recv E h00 rfl) mw_478 mw_475 mw_476 mw_477 mw_33 ⟨by decide, by decide, by decide +kernel⟩ ⟨rfl, rfl, by show d + 1 ≤ 9; omega, by show 8 + (2 + 11) + 37 * d ≤ 37 * 9; omega⟩ (n := 1) rfl hl.1 rfl (Nat.le_of_ble_eq_true rfl) dL_height_4 ⟨by show 0 + 1 ≤ 6; omega, by show 0 + 6 ≤ 2019; omega⟩) hS (fun ce q9 H locs hp9 hS h1 h2 h3 => ?_)
    obtain ⟨ad1, cf1, hW, hX1, hf1, ha1⟩ := hp9
    refine vx_catch (name := mi_IO) S.2.2.2.1 [] ⟨0, 9, 12, 13⟩ [] ht (fun z hz => absurd hz List.not_mem_nil) rfl (by decide) (S.2.2.2.2 _ (List.mem_cons_of_mem _ mw_283)) (va_Nw.use rfl (E.2.2.1 (mi_IO, mi_IO) (by decide))) h1 h2 h3 ?_
    refine lv_astore_n (lv' := [(3, .ref q9), (0, .ref (ad 0)), (1, .int x), (2, .ref (ad 1500))]) S.1 S.2.1 dL_height_12 rfl hl (by decide) rfl (fun ls hl => ?_)
    refine lv_iconst (v := nI 1) S.1 S.2.1 dL_height_13 (by decide) ?_
    exact mi_retMi S hr hk hS dL_height_14 (by show 0 + 1 ≤ 6; omega) (by show 0 + 6 ≤ 2019; omega) ⟨rfl, ad1, cf1, o, hW, hX1, fun r g1 g2 => hf1 r g1, (hf1 1500 (by omega)).2, ha1, (hf1 1500 (by omega)).1.trans hO, fun z => absurd z (by decide)⟩
set_option maxHeartbeats 4000000 in
set_option maxRecDepth 100000 in
theorem c_Lvisit (l : Launch) (D : va_G) (A : Nat → Prop) {ad : Nat → Nat} {cf : Nat → Option va_E} {o : Nat → Int64} {x : Int32} {k : Nat} {a : Int32} {S1 : sT} (hk3 : k ≤ 1) (hO : cf 1500 = some (mi_al D 1 o)) (h0 : ∃ fs, cf 0 = some (.inr (5, fs))) (hO1 : st_ok S1) (hM : lw_Cl l D A ad cf yX4_visit (Cond.code yX4_visit cX4_visit 3 (some Jvm.ClassFile.FieldType.int)) [.ref (ad 0), .int x] lw_exO k a S1) : mi_Mi l yL_visit (Cond.codeWith yL_visit cL_visit 4 (some Jvm.ClassFile.FieldType.int) [(0, 9, 12, 13)]) (mi_rq 9 6 2019) D A (mi_W D A ad cf) [.ref (ad 0), .int x, .ref (ad 1500)] 6 2019 (fun r H => r = nI k ∧ lw_B D A S1 ad cf (k = 0) a H) := by
  refine mi_startH (cc := cL_visit) (nL := 4) (ret := (some Jvm.ClassFile.FieldType.int)) (hh := [(0, 9, 12, 13)]) rfl (by decide) (Nat.le_of_ble_eq_true rfl) ?_
  intro p e s m below meth c ls S E hW hS hr hk ht hl
  have S : CallFix p m c cL_visit 4 s _ ((Cond.codeWith yL_visit cL_visit 4 (some Jvm.ClassFile.FieldType.int) [(0, 9, 12, 13)]) :: mi_G) RL := S
  have hl : lv_has ls 4 [(0, .ref (ad 0)), (1, .int x), (2, .ref (ad 1500))] := hl
  obtain ⟨fs0, h00⟩ := h0
  refine lv_aload_n S.1 S.2.1 dL_visit_0 rfl (lv_at hl 2 rfl) ?_
  refine lv_iconst (v := nI 0) S.1 S.2.1 dL_visit_1 (by decide) ?_
  refine lv_aload_n S.1 S.2.1 dL_visit_2 rfl (lv_at hl 0 rfl) ?_
  refine lv_iload_n S.1 S.2.1 dL_visit_3 rfl (lv_at hl 1 rfl) ?_
  rcases hM with ⟨hk0, d, mc, ms, hd, hmc, hms, hM⟩ | ⟨hkn, d, hd, hM⟩
  · refine mi_cMi (mi_runV (P := mi_W D A ad cf) (As := [.int x]) (rest := [.int (nI 0), .ref (ad 1500)]) S E hS hW (ad 0) hM (hW.recv E h00 rfl) mw_489 mw_486 mw_487 mw_488 mw_33 ⟨by decide, by decide, by decide +kernel⟩ ⟨rfl, rfl, by show d + 1 ≤ 9; omega, by show 8 + (3 + 11) + 37 * d ≤ 37 * 9; omega⟩ (n := 1) rfl hl.1 rfl (Nat.le_of_ble_eq_true rfl) dL_visit_4 ⟨by show 0 + mc ≤ 6; omega, by show 0 + ms ≤ 2019; omega⟩) hS (fun r9 H locs hp9 hS hz9 => ?_)
    obtain ⟨e9, ad1, cf1, hW, hX1, hf1, ha1⟩ := hp9
    have o1 : ad1 1500 = ad 1500 := (hf1 1500 (by omega)).2
    have c1 : cf1 1500 = some (mi_al D 1 o) := (hf1 1500 (by omega)).1.trans hO
    refine mi_top (v' := .int a) (by rw [e9]) ?_
    refine lv_i2l (v := a.toInt64) S.1 S.2.1 dL_visit_7 rfl ?_
    refine mi_last S E hS hW 1500 o1 c1 (by omega) (by omega) dL_visit_8 (fun H locs hW hS hz9 => ?_)
    refine lv_goto (tgt := 15) S.1 S.2.1 dL_visit_9 (by decide) ?_
    refine lv_iconst (v := nI 0) S.1 S.2.1 dL_visit_15 (by decide) ?_
    refine mi_retMi S hr hk hS dL_visit_16 (by show 0 + mc ≤ 6; omega) (by show 0 + ms ≤ 2019; omega) ⟨by rw [hk0], ad1, _, _, hW, hX1.same hO1 (fun r hr9 => ⟨mi_up_n (by omega), rfl⟩), fun r h1 h2 => ⟨(mi_up_n h2).trans (hf1 r h1).1, (hf1 r h1).2⟩, o1, ha1, mi_up_s, fun _ => ?_⟩
    exact if_pos rfl
  · obtain rfl : k = 1 := by omega
    refine mi_cTh (P := rx_P D A S1 ad cf) (Ex := mi_IO) (mi_runVX (P := mi_W D A ad cf) (As := [.int x]) (rest := [.int (nI 0), .ref (ad 1500)]) S E hS hW (ad 0) hM (hW.recv E h00 rfl) mw_489 mw_486 mw_487 mw_488 mw_33 ⟨by decide, by decide, by decide +kernel⟩ ⟨rfl, rfl, by show d + 1 ≤ 9; omega, by show 8 + (3 + 11) + 37 * d ≤ 37 * 9; omega⟩ (n := 1) rfl hl.1 rfl (Nat.le_of_ble_eq_true rfl) dL_visit_4 ⟨by show 0 + 1 ≤ 6; omega, by show 0 + 6 ≤ 2019; omega⟩) hS (fun ce q9 H locs hp9 hS h1 h2 h3 => ?_)
    obtain ⟨ad1, cf1, hW, hX1, hf1, ha1⟩ := hp9
    refine vx_catch (name := mi_IO) S.2.2.2.1 [] ⟨0, 9, 12, 13⟩ [] ht (fun z hz => absurd hz List.not_mem_nil) rfl (by decide) (S.2.2.2.2 _ (List.mem_cons_of_mem _ mw_283)) (va_Nw.use rfl (E.2.2.1 (mi_IO, mi_IO) (by decide))) h1 h2 h3 ?_
    refine lv_astore_n (lv' := [(3, .ref q9), (0, .ref (ad 0)), (1, .int x), (2, .ref (ad 1500))]) S.1 S.2.1 dL_visit_12 rfl hl (by decide) rfl (fun ls hl => ?_)
    refine lv_iconst (v := nI 1) S.1 S.2.1 dL_visit_13 (by decide) ?_
    exact mi_retMi S hr hk hS dL_visit_14 (by show 0 + 1 ≤ 6; omega) (by show 0 + 6 ≤ 2019; omega) ⟨rfl, ad1, cf1, o, hW, hX1, fun r g1 g2 => hf1 r g1, (hf1 1500 (by omega)).2, ha1, (hf1 1500 (by omega)).1.trans hO, fun z => absurd z (by decide)⟩
set_option maxHeartbeats 4000000 in
set_option maxRecDepth 100000 in
theorem c_Lundo (l : Launch) (D : va_G) (A : Nat → Prop) {ad : Nat → Nat} {cf : Nat → Option va_E} {o : Nat → Int64} {k : Nat} {a : Int32} {S1 : sT} (hk3 : k ≤ 1) (hO : cf 1500 = some (mi_al D 1 o)) (h0 : ∃ fs, cf 0 = some (.inr (5, fs))) (hO1 : st_ok S1) (hM : lw_Cl l D A ad cf yX4_undo (Cond.code yX4_undo cX4_undo 2 (some Jvm.ClassFile.FieldType.int)) [.ref (ad 0)] lw_exS k a S1) : mi_Mi l yL_undo (Cond.codeWith yL_undo cL_undo 3 (some Jvm.ClassFile.FieldType.int) [(0, 8, 11, 17)]) (mi_rq 9 6 2019) D A (mi_W D A ad cf) [.ref (ad 0), .ref (ad 1500)] 6 2019 (fun r H => r = nI k ∧ lw_B D A S1 ad cf (k = 0) a H) := by
  refine mi_startH (cc := cL_undo) (nL := 3) (ret := (some Jvm.ClassFile.FieldType.int)) (hh := [(0, 8, 11, 17)]) rfl (by decide) (Nat.le_of_ble_eq_true rfl) ?_
  intro p e s m below meth c ls S E hW hS hr hk ht hl
  have S : CallFix p m c cL_undo 3 s _ ((Cond.codeWith yL_undo cL_undo 3 (some Jvm.ClassFile.FieldType.int) [(0, 8, 11, 17)]) :: mi_G) RL := S
  have hl : lv_has ls 3 [(0, .ref (ad 0)), (1, .ref (ad 1500))] := hl
  obtain ⟨fs0, h00⟩ := h0
  refine lv_aload_n S.1 S.2.1 dL_undo_0 rfl (lv_at hl 1 rfl) ?_
  refine lv_iconst (v := nI 0) S.1 S.2.1 dL_undo_1 (by decide) ?_
  refine lv_aload_n S.1 S.2.1 dL_undo_2 rfl (lv_at hl 0 rfl) ?_
  rcases hM with ⟨hk0, d, mc, ms, hd, hmc, hms, hM⟩ | ⟨hkn, d, hd, hM⟩
  · refine mi_cMi (mi_runV (P := mi_W D A ad cf) (As := []) (rest := [.int (nI 0), .ref (ad 1500)]) S E hS hW (ad 0) hM (hW.recv E h00 rfl) mw_501 mw_498 mw_499 mw_500 mw_33 ⟨by decide, by decide, by decide +kernel⟩ ⟨rfl, rfl, by show d + 1 ≤ 9; omega, by show 8 + (2 + 11) + 37 * d ≤ 37 * 9; omega⟩ (n := 0) rfl hl.1 rfl (Nat.le_of_ble_eq_true rfl) dL_undo_3 ⟨by show 0 + mc ≤ 6; omega, by show 0 + ms ≤ 2019; omega⟩) hS (fun r9 H locs hp9 hS hz9 => ?_)
    obtain ⟨e9, ad1, cf1, hW, hX1, hf1, ha1⟩ := hp9
    have o1 : ad1 1500 = ad 1500 := (hf1 1500 (by omega)).2
    have c1 : cf1 1500 = some (mi_al D 1 o) := (hf1 1500 (by omega)).1.trans hO
    refine mi_top (v' := .int a) (by rw [e9]) ?_
    refine lv_i2l (v := a.toInt64) S.1 S.2.1 dL_undo_6 rfl ?_
    refine mi_last S E hS hW 1500 o1 c1 (by omega) (by omega) dL_undo_7 (fun H locs hW hS hz9 => ?_)
    refine lv_goto (tgt := 14) S.1 S.2.1 dL_undo_8 (by decide) ?_
    refine lv_iconst (v := nI 0) S.1 S.2.1 dL_undo_14 (by decide) ?_
    refine mi_retMi S hr hk hS dL_undo_15 (by show 0 + mc ≤ 6; omega) (by show 0 + ms ≤ 2019; omega) ⟨by rw [hk0], ad1, _, _, hW, hX1.same hO1 (fun r hr9 => ⟨mi_up_n (by omega), rfl⟩), fun r h1 h2 => ⟨(mi_up_n h2).trans (hf1 r h1).1, (hf1 r h1).2⟩, o1, ha1, mi_up_s, fun _ => ?_⟩
    exact if_pos rfl
  · obtain rfl : k = 1 := by omega
    refine mi_cTh (P := rx_P D A S1 ad cf) (Ex := mi_IS) (mi_runVX (P := mi_W D A ad cf) (As := []) (rest := [.int (nI 0), .ref (ad 1500)]) S E hS hW (ad 0) hM (hW.recv E h00 rfl) mw_501 mw_498 mw_499 mw_500 mw_33 ⟨by decide, by decide, by decide +kernel⟩ ⟨rfl, rfl, by show d + 1 ≤ 9; omega, by show 8 + (2 + 11) + 37 * d ≤ 37 * 9; omega⟩ (n := 0) rfl hl.1 rfl (Nat.le_of_ble_eq_true rfl) dL_undo_3 ⟨by show 0 + 1 ≤ 6; omega, by show 0 + 6 ≤ 2019; omega⟩) hS (fun ce q9 H locs hp9 hS h1 h2 h3 => ?_)
    obtain ⟨ad1, cf1, hW, hX1, hf1, ha1⟩ := hp9
    refine vx_catch (name := mi_IS) S.2.2.2.1 [] ⟨0, 8, 11, 17⟩ [] ht (fun z hz => absurd hz List.not_mem_nil) rfl (by decide) (S.2.2.2.2 _ (List.mem_cons_of_mem _ mw_285)) (va_Nw.use rfl (E.2.2.1 (mi_IS, mi_IS) (by decide))) h1 h2 h3 ?_
    refine lv_astore_n (lv' := [(2, .ref q9), (0, .ref (ad 0)), (1, .ref (ad 1500))]) S.1 S.2.1 dL_undo_11 rfl hl (by decide) rfl (fun ls hl => ?_)
    refine lv_iconst (v := nI 1) S.1 S.2.1 dL_undo_12 (by decide) ?_
    exact mi_retMi S hr hk hS dL_undo_13 (by show 0 + 1 ≤ 6; omega) (by show 0 + 6 ≤ 2019; omega) ⟨rfl, ad1, cf1, o, hW, hX1, fun r g1 g2 => hf1 r g1, (hf1 1500 (by omega)).2, ha1, (hf1 1500 (by omega)).1.trans hO, fun z => absurd z (by decide)⟩
set_option maxHeartbeats 4000000 in
set_option maxRecDepth 100000 in
theorem c_Lredo (l : Launch) (D : va_G) (A : Nat → Prop) {ad : Nat → Nat} {cf : Nat → Option va_E} {o : Nat → Int64} {x : Int32} {k : Nat} {a : Int32} {S1 : sT} (hk3 : k ≤ 1) (hO : cf 1500 = some (mi_al D 1 o)) (h0 : ∃ fs, cf 0 = some (.inr (5, fs))) (hO1 : st_ok S1) (hM : lw_Cl l D A ad cf yX4_redo (Cond.code yX4_redo cX4_redo 3 (some Jvm.ClassFile.FieldType.int)) [.ref (ad 0), .int x] lw_exO k a S1) : mi_Mi l yL_redo (Cond.codeWith yL_redo cL_redo 4 (some Jvm.ClassFile.FieldType.int) [(0, 9, 12, 13)]) (mi_rq 9 6 2019) D A (mi_W D A ad cf) [.ref (ad 0), .int x, .ref (ad 1500)] 6 2019 (fun r H => r = nI k ∧ lw_B D A S1 ad cf (k = 0) a H) := by
  refine mi_startH (cc := cL_redo) (nL := 4) (ret := (some Jvm.ClassFile.FieldType.int)) (hh := [(0, 9, 12, 13)]) rfl (by decide) (Nat.le_of_ble_eq_true rfl) ?_
  intro p e s m below meth c ls S E hW hS hr hk ht hl
  have S : CallFix p m c cL_redo 4 s _ ((Cond.codeWith yL_redo cL_redo 4 (some Jvm.ClassFile.FieldType.int) [(0, 9, 12, 13)]) :: mi_G) RL := S
  have hl : lv_has ls 4 [(0, .ref (ad 0)), (1, .int x), (2, .ref (ad 1500))] := hl
  obtain ⟨fs0, h00⟩ := h0
  refine lv_aload_n S.1 S.2.1 dL_redo_0 rfl (lv_at hl 2 rfl) ?_
  refine lv_iconst (v := nI 0) S.1 S.2.1 dL_redo_1 (by decide) ?_
  refine lv_aload_n S.1 S.2.1 dL_redo_2 rfl (lv_at hl 0 rfl) ?_
  refine lv_iload_n S.1 S.2.1 dL_redo_3 rfl (lv_at hl 1 rfl) ?_
  rcases hM with ⟨hk0, d, mc, ms, hd, hmc, hms, hM⟩ | ⟨hkn, d, hd, hM⟩
  · refine mi_cMi (mi_runV (P := mi_W D A ad cf) (As := [.int x]) (rest := [.int (nI 0), .ref (ad 1500)]) S E hS hW (ad 0) hM (hW.recv E h00 rfl) mw_509 mw_506 mw_507 mw_508 mw_33 ⟨by decide, by decide, by decide +kernel⟩ ⟨rfl, rfl, by show d + 1 ≤ 9; omega, by show 8 + (3 + 11) + 37 * d ≤ 37 * 9; omega⟩ (n := 1) rfl hl.1 rfl (Nat.le_of_ble_eq_true rfl) dL_redo_4 ⟨by show 0 + mc ≤ 6; omega, by show 0 + ms ≤ 2019; omega⟩) hS (fun r9 H locs hp9 hS hz9 => ?_)
    obtain ⟨e9, ad1, cf1, hW, hX1, hf1, ha1⟩ := hp9
    have o1 : ad1 1500 = ad 1500 := (hf1 1500 (by omega)).2
    have c1 : cf1 1500 = some (mi_al D 1 o) := (hf1 1500 (by omega)).1.trans hO
    refine mi_top (v' := .int a) (by rw [e9]) ?_
    refine lv_i2l (v := a.toInt64) S.1 S.2.1 dL_redo_7 rfl ?_
    refine mi_last S E hS hW 1500 o1 c1 (by omega) (by omega) dL_redo_8 (fun H locs hW hS hz9 => ?_)
    refine lv_goto (tgt := 15) S.1 S.2.1 dL_redo_9 (by decide) ?_
    refine lv_iconst (v := nI 0) S.1 S.2.1 dL_redo_15 (by decide) ?_
    refine mi_retMi S hr hk hS dL_redo_16 (by show 0 + mc ≤ 6; omega) (by show 0 + ms ≤ 2019; omega) ⟨by rw [hk0], ad1, _, _, hW, hX1.same hO1 (fun r hr9 => ⟨mi_up_n (by omega), rfl⟩), fun r h1 h2 => ⟨(mi_up_n h2).trans (hf1 r h1).1, (hf1 r h1).2⟩, o1, ha1, mi_up_s, fun _ => ?_⟩
    exact if_pos rfl
  · obtain rfl : k = 1 := by omega
    refine mi_cTh (P := rx_P D A S1 ad cf) (Ex := mi_IO) (mi_runVX (P := mi_W D A ad cf) (As := [.int x]) (rest := [.int (nI 0), .ref (ad 1500)]) S E hS hW (ad 0) hM (hW.recv E h00 rfl) mw_509 mw_506 mw_507 mw_508 mw_33 ⟨by decide, by decide, by decide +kernel⟩ ⟨rfl, rfl, by show d + 1 ≤ 9; omega, by show 8 + (3 + 11) + 37 * d ≤ 37 * 9; omega⟩ (n := 1) rfl hl.1 rfl (Nat.le_of_ble_eq_true rfl) dL_redo_4 ⟨by show 0 + 1 ≤ 6; omega, by show 0 + 6 ≤ 2019; omega⟩) hS (fun ce q9 H locs hp9 hS h1 h2 h3 => ?_)
    obtain ⟨ad1, cf1, hW, hX1, hf1, ha1⟩ := hp9
    refine vx_catch (name := mi_IO) S.2.2.2.1 [] ⟨0, 9, 12, 13⟩ [] ht (fun z hz => absurd hz List.not_mem_nil) rfl (by decide) (S.2.2.2.2 _ (List.mem_cons_of_mem _ mw_283)) (va_Nw.use rfl (E.2.2.1 (mi_IO, mi_IO) (by decide))) h1 h2 h3 ?_
    refine lv_astore_n (lv' := [(3, .ref q9), (0, .ref (ad 0)), (1, .int x), (2, .ref (ad 1500))]) S.1 S.2.1 dL_redo_12 rfl hl (by decide) rfl (fun ls hl => ?_)
    refine lv_iconst (v := nI 1) S.1 S.2.1 dL_redo_13 (by decide) ?_
    exact mi_retMi S hr hk hS dL_redo_14 (by show 0 + 1 ≤ 6; omega) (by show 0 + 6 ≤ 2019; omega) ⟨rfl, ad1, cf1, o, hW, hX1, fun r g1 g2 => hf1 r g1, (hf1 1500 (by omega)).2, ha1, (hf1 1500 (by omega)).1.trans hO, fun z => absurd z (by decide)⟩
set_option maxHeartbeats 4000000 in
set_option maxRecDepth 100000 in
theorem c_Lunlike (l : Launch) (D : va_G) (A : Nat → Prop) {ad : Nat → Nat} {cf : Nat → Option va_E} {o : Nat → Int64} {x y : Int32} {k : Nat} {a : Int32} {S1 : sT} (hk3 : k ≤ 1) (hO : cf 1500 = some (mi_al D 1 o)) (h0 : ∃ fs, cf 0 = some (.inr (5, fs))) (hO1 : st_ok S1) (hM : lw_Cl l D A ad cf yX4_unlike (Cond.code yX4_unlike cX4_unlike 7 (some Jvm.ClassFile.FieldType.int)) [.ref (ad 0), .int x, .int y] lw_exO k a S1) : mi_Mi l yL_unlike (Cond.codeWith yL_unlike cL_unlike 5 (some Jvm.ClassFile.FieldType.int) [(0, 10, 13, 13)]) (mi_rq 9 6 2019) D A (mi_W D A ad cf) [.ref (ad 0), .int x, .int y, .ref (ad 1500)] 6 2019 (fun r H => r = nI k ∧ lw_B D A S1 ad cf (k = 0) a H) := by
  refine mi_startH (cc := cL_unlike) (nL := 5) (ret := (some Jvm.ClassFile.FieldType.int)) (hh := [(0, 10, 13, 13)]) rfl (by decide) (Nat.le_of_ble_eq_true rfl) ?_
  intro p e s m below meth c ls S E hW hS hr hk ht hl
  have S : CallFix p m c cL_unlike 5 s _ ((Cond.codeWith yL_unlike cL_unlike 5 (some Jvm.ClassFile.FieldType.int) [(0, 10, 13, 13)]) :: mi_G) RL := S
  have hl : lv_has ls 5 [(0, .ref (ad 0)), (1, .int x), (2, .int y), (3, .ref (ad 1500))] := hl
  obtain ⟨fs0, h00⟩ := h0
  refine lv_aload_n S.1 S.2.1 dL_unlike_0 rfl (lv_at hl 3 rfl) ?_
  refine lv_iconst (v := nI 0) S.1 S.2.1 dL_unlike_1 (by decide) ?_
  refine lv_aload_n S.1 S.2.1 dL_unlike_2 rfl (lv_at hl 0 rfl) ?_
  refine lv_iload_n S.1 S.2.1 dL_unlike_3 rfl (lv_at hl 1 rfl) ?_
  refine lv_iload_n S.1 S.2.1 dL_unlike_4 rfl (lv_at hl 2 rfl) ?_
  rcases hM with ⟨hk0, d, mc, ms, hd, hmc, hms, hM⟩ | ⟨hkn, d, hd, hM⟩
  · refine mi_cMi (mi_runV (P := mi_W D A ad cf) (As := [.int x, .int y]) (rest := [.int (nI 0), .ref (ad 1500)]) S E hS hW (ad 0) hM (hW.recv E h00 rfl) mw_521 mw_518 mw_519 mw_520 mw_33 ⟨by decide, by decide, by decide +kernel⟩ ⟨rfl, rfl, by show d + 1 ≤ 9; omega, by show 8 + (7 + 11) + 37 * d ≤ 37 * 9; omega⟩ (n := 2) rfl hl.1 rfl (Nat.le_of_ble_eq_true rfl) dL_unlike_5 ⟨by show 0 + mc ≤ 6; omega, by show 0 + ms ≤ 2019; omega⟩) hS (fun r9 H locs hp9 hS hz9 => ?_)
    obtain ⟨e9, ad1, cf1, hW, hX1, hf1, ha1⟩ := hp9
    have o1 : ad1 1500 = ad 1500 := (hf1 1500 (by omega)).2
    have c1 : cf1 1500 = some (mi_al D 1 o) := (hf1 1500 (by omega)).1.trans hO
    refine mi_top (v' := .int a) (by rw [e9]) ?_
    refine lv_i2l (v := a.toInt64) S.1 S.2.1 dL_unlike_8 rfl ?_
    refine mi_last S E hS hW 1500 o1 c1 (by omega) (by omega) dL_unlike_9 (fun H locs hW hS hz9 => ?_)
    refine lv_goto (tgt := 17) S.1 S.2.1 dL_unlike_10 (by decide) ?_
    refine lv_iconst (v := nI 0) S.1 S.2.1 dL_unlike_17 (by decide) ?_
    refine mi_retMi S hr hk hS dL_unlike_18 (by show 0 + mc ≤ 6; omega) (by show 0 + ms ≤ 2019; omega) ⟨by rw [hk0], ad1, _, _, hW, hX1.same hO1 (fun r hr9 => ⟨mi_up_n (by omega), rfl⟩), fun r h1 h2 => ⟨(mi_up_n h2).trans (hf1 r h1).1, (hf1 r h1).2⟩, o1, ha1, mi_up_s, fun _ => ?_⟩
    exact if_pos rfl
  · obtain rfl : k = 1 := by omega
    refine mi_cTh (P := rx_P D A S1 ad cf) (Ex := mi_IO) (mi_runVX (P := mi_W D A ad cf) (As := [.int x, .int y]) (rest := [.int (nI 0), .ref (ad 1500)]) S E hS hW (ad 0) hM (hW.recv E h00 rfl) mw_521 mw_518 mw_519 mw_520 mw_33 ⟨by decide, by decide, by decide +kernel⟩ ⟨rfl, rfl, by show d + 1 ≤ 9; omega, by show 8 + (7 + 11) + 37 * d ≤ 37 * 9; omega⟩ (n := 2) rfl hl.1 rfl (Nat.le_of_ble_eq_true rfl) dL_unlike_5 ⟨by show 0 + 1 ≤ 6; omega, by show 0 + 6 ≤ 2019; omega⟩) hS (fun ce q9 H locs hp9 hS h1 h2 h3 => ?_)
    obtain ⟨ad1, cf1, hW, hX1, hf1, ha1⟩ := hp9
    refine vx_catch (name := mi_IO) S.2.2.2.1 [] ⟨0, 10, 13, 13⟩ [] ht (fun z hz => absurd hz List.not_mem_nil) rfl (by decide) (S.2.2.2.2 _ (List.mem_cons_of_mem _ mw_283)) (va_Nw.use rfl (E.2.2.1 (mi_IO, mi_IO) (by decide))) h1 h2 h3 ?_
    refine lv_astore (lv' := [(4, .ref q9), (0, .ref (ad 0)), (1, .int x), (2, .int y), (3, .ref (ad 1500))]) S.1 S.2.1 dL_unlike_13 hl (by decide) rfl (fun ls hl => ?_)
    refine lv_iconst (v := nI 1) S.1 S.2.1 dL_unlike_15 (by decide) ?_
    exact mi_retMi S hr hk hS dL_unlike_16 (by show 0 + 1 ≤ 6; omega) (by show 0 + 6 ≤ 2019; omega) ⟨rfl, ad1, cf1, o, hW, hX1, fun r g1 g2 => hf1 r g1, (hf1 1500 (by omega)).2, ha1, (hf1 1500 (by omega)).1.trans hO, fun z => absurd z (by decide)⟩
set_option maxHeartbeats 4000000 in
set_option maxRecDepth 100000 in
theorem c_Lstrike (l : Launch) (D : va_G) (A : Nat → Prop) {ad : Nat → Nat} {cf : Nat → Option va_E} {o : Nat → Int64} {x : Int32} {k : Nat} {a : Int32} {S1 : sT} (hk3 : k ≤ 2) (hO : cf 1500 = some (mi_al D 1 o)) (h0 : ∃ fs, cf 0 = some (.inr (5, fs))) (hO1 : st_ok S1) (hM : lw_Cl l D A ad cf yX4_strike (Cond.code yX4_strike cX4_strike 2 (some Jvm.ClassFile.FieldType.int)) [.ref (ad 0), .int x] lw_ex2 k a S1) : mi_Mi l yL_strike (Cond.codeWith yL_strike cL_strike 4 (some Jvm.ClassFile.FieldType.int) [(0, 9, 12, 13), (0, 9, 15, 17)]) (mi_rq 9 6 2019) D A (mi_W D A ad cf) [.ref (ad 0), .int x, .ref (ad 1500)] 6 2019 (fun r H => r = nI k ∧ lw_B D A S1 ad cf (k = 0) a H) := by
  refine mi_startH (cc := cL_strike) (nL := 4) (ret := (some Jvm.ClassFile.FieldType.int)) (hh := [(0, 9, 12, 13), (0, 9, 15, 17)]) rfl (by decide) (Nat.le_of_ble_eq_true rfl) ?_
  intro p e s m below meth c ls S E hW hS hr hk ht hl
  have S : CallFix p m c cL_strike 4 s _ ((Cond.codeWith yL_strike cL_strike 4 (some Jvm.ClassFile.FieldType.int) [(0, 9, 12, 13), (0, 9, 15, 17)]) :: mi_G) RL := S
  have hl : lv_has ls 4 [(0, .ref (ad 0)), (1, .int x), (2, .ref (ad 1500))] := hl
  obtain ⟨fs0, h00⟩ := h0
  refine lv_aload_n S.1 S.2.1 dL_strike_0 rfl (lv_at hl 2 rfl) ?_
  refine lv_iconst (v := nI 0) S.1 S.2.1 dL_strike_1 (by decide) ?_
  refine lv_aload_n S.1 S.2.1 dL_strike_2 rfl (lv_at hl 0 rfl) ?_
  refine lv_iload_n S.1 S.2.1 dL_strike_3 rfl (lv_at hl 1 rfl) ?_
  rcases hM with ⟨hk0, d, mc, ms, hd, hmc, hms, hM⟩ | ⟨hkn, d, hd, hM⟩
  · refine mi_cMi (mi_runV (P := mi_W D A ad cf) (As := [.int x]) (rest := [.int (nI 0), .ref (ad 1500)]) S E hS hW (ad 0) hM (hW.recv E h00 rfl) mw_569 mw_566 mw_567 mw_568 mw_33 ⟨by decide, by decide, by decide +kernel⟩ ⟨rfl, rfl, by show d + 1 ≤ 9; omega, by show 8 + (2 + 11) + 37 * d ≤ 37 * 9; omega⟩ (n := 1) rfl hl.1 rfl (Nat.le_of_ble_eq_true rfl) dL_strike_4 ⟨by show 0 + mc ≤ 6; omega, by show 0 + ms ≤ 2019; omega⟩) hS (fun r9 H locs hp9 hS hz9 => ?_)
    obtain ⟨e9, ad1, cf1, hW, hX1, hf1, ha1⟩ := hp9
    have o1 : ad1 1500 = ad 1500 := (hf1 1500 (by omega)).2
    have c1 : cf1 1500 = some (mi_al D 1 o) := (hf1 1500 (by omega)).1.trans hO
    refine mi_top (v' := .int a) (by rw [e9]) ?_
    refine lv_i2l (v := a.toInt64) S.1 S.2.1 dL_strike_7 rfl ?_
    refine mi_last S E hS hW 1500 o1 c1 (by omega) (by omega) dL_strike_8 (fun H locs hW hS hz9 => ?_)
    refine lv_goto (tgt := 18) S.1 S.2.1 dL_strike_9 (by decide) ?_
    refine lv_iconst (v := nI 0) S.1 S.2.1 dL_strike_18 (by decide) ?_
    refine mi_retMi S hr hk hS dL_strike_19 (by show 0 + mc ≤ 6; omega) (by show 0 + ms ≤ 2019; omega) ⟨by rw [hk0], ad1, _, _, hW, hX1.same hO1 (fun r hr9 => ⟨mi_up_n (by omega), rfl⟩), fun r h1 h2 => ⟨(mi_up_n h2).trans (hf1 r h1).1, (hf1 r h1).2⟩, o1, ha1, mi_up_s, fun _ => ?_⟩
    exact if_pos rfl
  · rcases (show k = 1 ∨ k = 2 by omega) with rfl | rfl
    · skip
      refine mi_cTh (P := rx_P D A S1 ad cf) (Ex := mi_IO) (mi_runVX (P := mi_W D A ad cf) (As := [.int x]) (rest := [.int (nI 0), .ref (ad 1500)]) S E hS hW (ad 0) hM (hW.recv E h00 rfl) mw_569 mw_566 mw_567 mw_568 mw_33 ⟨by decide, by decide, by decide +kernel⟩ ⟨rfl, rfl, by show d + 1 ≤ 9; omega, by show 8 + (2 + 11) + 37 * d ≤ 37 * 9; omega⟩ (n := 1) rfl hl.1 rfl (Nat.le_of_ble_eq_true rfl) dL_strike_4 ⟨by show 0 + 1 ≤ 6; omega, by show 0 + 6 ≤ 2019; omega⟩) hS (fun ce q9 H locs hp9 hS h1 h2 h3 => ?_)
      obtain ⟨ad1, cf1, hW, hX1, hf1, ha1⟩ := hp9
      refine vx_catch (name := mi_IO) S.2.2.2.1 [] ⟨0, 9, 12, 13⟩ [⟨0, 9, 15, 17⟩] ht (fun z hz => absurd hz List.not_mem_nil) rfl (by decide) (S.2.2.2.2 _ (List.mem_cons_of_mem _ mw_283)) (va_Nw.use rfl (E.2.2.1 (mi_IO, mi_IO) (by decide))) h1 h2 h3 ?_
      refine lv_astore_n (lv' := [(3, .ref q9), (0, .ref (ad 0)), (1, .int x), (2, .ref (ad 1500))]) S.1 S.2.1 dL_strike_12 rfl hl (by decide) rfl (fun ls hl => ?_)
      refine lv_iconst (v := nI 1) S.1 S.2.1 dL_strike_13 (by decide) ?_
      exact mi_retMi S hr hk hS dL_strike_14 (by show 0 + 1 ≤ 6; omega) (by show 0 + 6 ≤ 2019; omega) ⟨rfl, ad1, cf1, o, hW, hX1, fun r g1 g2 => hf1 r g1, (hf1 1500 (by omega)).2, ha1, (hf1 1500 (by omega)).1.trans hO, fun z => absurd z (by decide)⟩
    · skip
      refine mi_cTh (P := rx_P D A S1 ad cf) (Ex := mi_IS) (mi_runVX (P := mi_W D A ad cf) (As := [.int x]) (rest := [.int (nI 0), .ref (ad 1500)]) S E hS hW (ad 0) hM (hW.recv E h00 rfl) mw_569 mw_566 mw_567 mw_568 mw_33 ⟨by decide, by decide, by decide +kernel⟩ ⟨rfl, rfl, by show d + 1 ≤ 9; omega, by show 8 + (2 + 11) + 37 * d ≤ 37 * 9; omega⟩ (n := 1) rfl hl.1 rfl (Nat.le_of_ble_eq_true rfl) dL_strike_4 ⟨by show 0 + 1 ≤ 6; omega, by show 0 + 6 ≤ 2019; omega⟩) hS (fun ce q9 H locs hp9 hS h1 h2 h3 => ?_)
      obtain ⟨ad1, cf1, hW, hX1, hf1, ha1⟩ := hp9
      refine vx_catch (name := mi_IS) S.2.2.2.1 [⟨0, 9, 12, 13⟩] ⟨0, 9, 15, 17⟩ [] ht (List.forall_mem_cons.mpr ⟨Or.inr ⟨by decide, mi_IO, (S.2.2.2.2 _ (List.mem_cons_of_mem _ mw_283)), E.2.2.2.1 (mi_IS, mi_IO) (by decide)⟩, fun _ h => absurd h List.not_mem_nil⟩) rfl (by decide) (S.2.2.2.2 _ (List.mem_cons_of_mem _ mw_285)) (va_Nw.use rfl (E.2.2.1 (mi_IS, mi_IS) (by decide))) h1 h2 h3 ?_
      refine lv_astore_n (lv' := [(3, .ref q9), (0, .ref (ad 0)), (1, .int x), (2, .ref (ad 1500))]) S.1 S.2.1 dL_strike_15 rfl hl (by decide) rfl (fun ls hl => ?_)
      refine lv_iconst (v := nI 2) S.1 S.2.1 dL_strike_16 (by decide) ?_
      exact mi_retMi S hr hk hS dL_strike_17 (by show 0 + 1 ≤ 6; omega) (by show 0 + 6 ≤ 2019; omega) ⟨rfl, ad1, cf1, o, hW, hX1, fun r g1 g2 => hf1 r g1, (hf1 1500 (by omega)).2, ha1, (hf1 1500 (by omega)).1.trans hO, fun z => absurd z (by decide)⟩
set_option maxHeartbeats 4000000 in
set_option maxRecDepth 100000 in
theorem c_Lforge (l : Launch) (D : va_G) (A : Nat → Prop) {ad : Nat → Nat} {cf : Nat → Option va_E} {o : Nat → Int64} {x y z : Int32} {k : Nat} {a : Int32} {S1 : sT} (hk3 : k ≤ 3) (hO : cf 1500 = some (mi_al D 1 o)) (h0 : ∃ fs, cf 0 = some (.inr (5, fs))) (hO1 : st_ok S1) (hM : lw_Cl l D A ad cf yX4_forge (Cond.code yX4_forge cX4_forge 6 (some Jvm.ClassFile.FieldType.int)) [.ref (ad 0), .int x, .int y, .int z] lw_ex3 k a S1) : mi_Mi l yL_forge (Cond.codeWith yL_forge cL_forge 6 (some Jvm.ClassFile.FieldType.int) [(0, 12, 15, 13), (0, 12, 19, 15), (0, 12, 23, 17)]) (mi_rq 9 6 2019) D A (mi_W D A ad cf) [.ref (ad 0), .int x, .int y, .int z, .ref (ad 1500)] 6 2019 (fun r H => r = nI k ∧ lw_B D A S1 ad cf (k = 0) a H) := by
  refine mi_startH (cc := cL_forge) (nL := 6) (ret := (some Jvm.ClassFile.FieldType.int)) (hh := [(0, 12, 15, 13), (0, 12, 19, 15), (0, 12, 23, 17)]) rfl (by decide) (Nat.le_of_ble_eq_true rfl) ?_
  intro p e s m below meth c ls S E hW hS hr hk ht hl
  have S : CallFix p m c cL_forge 6 s _ ((Cond.codeWith yL_forge cL_forge 6 (some Jvm.ClassFile.FieldType.int) [(0, 12, 15, 13), (0, 12, 19, 15), (0, 12, 23, 17)]) :: mi_G) RL := S
  have hl : lv_has ls 6 [(0, .ref (ad 0)), (1, .int x), (2, .int y), (3, .int z), (4, .ref (ad 1500))] := hl
  obtain ⟨fs0, h00⟩ := h0
  refine lv_aload S.1 S.2.1 dL_forge_0 (lv_at hl 4 rfl) ?_
  refine lv_iconst (v := nI 0) S.1 S.2.1 dL_forge_2 (by decide) ?_
  refine lv_aload_n S.1 S.2.1 dL_forge_3 rfl (lv_at hl 0 rfl) ?_
  refine lv_iload_n S.1 S.2.1 dL_forge_4 rfl (lv_at hl 1 rfl) ?_
  refine lv_iload_n S.1 S.2.1 dL_forge_5 rfl (lv_at hl 2 rfl) ?_
  refine lv_iload_n S.1 S.2.1 dL_forge_6 rfl (lv_at hl 3 rfl) ?_
  rcases hM with ⟨hk0, d, mc, ms, hd, hmc, hms, hM⟩ | ⟨hkn, d, hd, hM⟩
  · refine mi_cMi (mi_runV (P := mi_W D A ad cf) (As := [.int x, .int y, .int z]) (rest := [.int (nI 0), .ref (ad 1500)]) S E hS hW (ad 0) hM (hW.recv E h00 rfl) mw_619 mw_616 mw_617 mw_618 mw_33 ⟨by decide, by decide, by decide +kernel⟩ ⟨rfl, rfl, by show d + 1 ≤ 9; omega, by show 8 + (6 + 11) + 37 * d ≤ 37 * 9; omega⟩ (n := 3) rfl hl.1 rfl (Nat.le_of_ble_eq_true rfl) dL_forge_7 ⟨by show 0 + mc ≤ 6; omega, by show 0 + ms ≤ 2019; omega⟩) hS (fun r9 H locs hp9 hS hz9 => ?_)
    obtain ⟨e9, ad1, cf1, hW, hX1, hf1, ha1⟩ := hp9
    have o1 : ad1 1500 = ad 1500 := (hf1 1500 (by omega)).2
    have c1 : cf1 1500 = some (mi_al D 1 o) := (hf1 1500 (by omega)).1.trans hO
    refine mi_top (v' := .int a) (by rw [e9]) ?_
    refine lv_i2l (v := a.toInt64) S.1 S.2.1 dL_forge_10 rfl ?_
    refine mi_last S E hS hW 1500 o1 c1 (by omega) (by omega) dL_forge_11 (fun H locs hW hS hz9 => ?_)
    refine lv_goto (tgt := 27) S.1 S.2.1 dL_forge_12 (by decide) ?_
    refine lv_iconst (v := nI 0) S.1 S.2.1 dL_forge_27 (by decide) ?_
    refine mi_retMi S hr hk hS dL_forge_28 (by show 0 + mc ≤ 6; omega) (by show 0 + ms ≤ 2019; omega) ⟨by rw [hk0], ad1, _, _, hW, hX1.same hO1 (fun r hr9 => ⟨mi_up_n (by omega), rfl⟩), fun r h1 h2 => ⟨(mi_up_n h2).trans (hf1 r h1).1, (hf1 r h1).2⟩, o1, ha1, mi_up_s, fun _ => ?_⟩
    exact if_pos rfl
  · rcases (show k = 1 ∨ k = 2 ∨ k = 3 by omega) with rfl | rfl | rfl
    · skip
      refine mi_cTh (P := rx_P D A S1 ad cf) (Ex := mi_IO) (mi_runVX (P := mi_W D A ad cf) (As := [.int x, .int y, .int z]) (rest := [.int (nI 0), .ref (ad 1500)]) S E hS hW (ad 0) hM (hW.recv E h00 rfl) mw_619 mw_616 mw_617 mw_618 mw_33 ⟨by decide, by decide, by decide +kernel⟩ ⟨rfl, rfl, by show d + 1 ≤ 9; omega, by show 8 + (6 + 11) + 37 * d ≤ 37 * 9; omega⟩ (n := 3) rfl hl.1 rfl (Nat.le_of_ble_eq_true rfl) dL_forge_7 ⟨by show 0 + 1 ≤ 6; omega, by show 0 + 6 ≤ 2019; omega⟩) hS (fun ce q9 H locs hp9 hS h1 h2 h3 => ?_)
      obtain ⟨ad1, cf1, hW, hX1, hf1, ha1⟩ := hp9
      refine vx_catch (name := mi_IO) S.2.2.2.1 [] ⟨0, 12, 15, 13⟩ [⟨0, 12, 19, 15⟩, ⟨0, 12, 23, 17⟩] ht (fun z hz => absurd hz List.not_mem_nil) rfl (by decide) (S.2.2.2.2 _ (List.mem_cons_of_mem _ mw_283)) (va_Nw.use rfl (E.2.2.1 (mi_IO, mi_IO) (by decide))) h1 h2 h3 ?_
      refine lv_astore (lv' := [(5, .ref q9), (0, .ref (ad 0)), (1, .int x), (2, .int y), (3, .int z), (4, .ref (ad 1500))]) S.1 S.2.1 dL_forge_15 hl (by decide) rfl (fun ls hl => ?_)
      refine lv_iconst (v := nI 1) S.1 S.2.1 dL_forge_17 (by decide) ?_
      exact mi_retMi S hr hk hS dL_forge_18 (by show 0 + 1 ≤ 6; omega) (by show 0 + 6 ≤ 2019; omega) ⟨rfl, ad1, cf1, o, hW, hX1, fun r g1 g2 => hf1 r g1, (hf1 1500 (by omega)).2, ha1, (hf1 1500 (by omega)).1.trans hO, fun z => absurd z (by decide)⟩
    · skip
      refine mi_cTh (P := rx_P D A S1 ad cf) (Ex := mi_IA) (mi_runVX (P := mi_W D A ad cf) (As := [.int x, .int y, .int z]) (rest := [.int (nI 0), .ref (ad 1500)]) S E hS hW (ad 0) hM (hW.recv E h00 rfl) mw_619 mw_616 mw_617 mw_618 mw_33 ⟨by decide, by decide, by decide +kernel⟩ ⟨rfl, rfl, by show d + 1 ≤ 9; omega, by show 8 + (6 + 11) + 37 * d ≤ 37 * 9; omega⟩ (n := 3) rfl hl.1 rfl (Nat.le_of_ble_eq_true rfl) dL_forge_7 ⟨by show 0 + 1 ≤ 6; omega, by show 0 + 6 ≤ 2019; omega⟩) hS (fun ce q9 H locs hp9 hS h1 h2 h3 => ?_)
      obtain ⟨ad1, cf1, hW, hX1, hf1, ha1⟩ := hp9
      refine vx_catch (name := mi_IA) S.2.2.2.1 [⟨0, 12, 15, 13⟩] ⟨0, 12, 19, 15⟩ [⟨0, 12, 23, 17⟩] ht (List.forall_mem_cons.mpr ⟨Or.inr ⟨by decide, mi_IO, (S.2.2.2.2 _ (List.mem_cons_of_mem _ mw_283)), E.2.2.2.1 (mi_IA, mi_IO) (by decide)⟩, fun _ h => absurd h List.not_mem_nil⟩) rfl (by decide) (S.2.2.2.2 _ (List.mem_cons_of_mem _ mw_284)) (va_Nw.use rfl (E.2.2.1 (mi_IA, mi_IA) (by decide))) h1 h2 h3 ?_
      refine lv_astore (lv' := [(5, .ref q9), (0, .ref (ad 0)), (1, .int x), (2, .int y), (3, .int z), (4, .ref (ad 1500))]) S.1 S.2.1 dL_forge_19 hl (by decide) rfl (fun ls hl => ?_)
      refine lv_iconst (v := nI 2) S.1 S.2.1 dL_forge_21 (by decide) ?_
      exact mi_retMi S hr hk hS dL_forge_22 (by show 0 + 1 ≤ 6; omega) (by show 0 + 6 ≤ 2019; omega) ⟨rfl, ad1, cf1, o, hW, hX1, fun r g1 g2 => hf1 r g1, (hf1 1500 (by omega)).2, ha1, (hf1 1500 (by omega)).1.trans hO, fun z => absurd z (by decide)⟩
    · skip
      refine mi_cTh (P := rx_P D A S1 ad cf) (Ex := mi_IS) (mi_runVX (P := mi_W D A ad cf) (As := [.int x, .int y, .int z]) (rest := [.int (nI 0), .ref (ad 1500)]) S E hS hW (ad 0) hM (hW.recv E h00 rfl) mw_619 mw_616 mw_617 mw_618 mw_33 ⟨by decide, by decide, by decide +kernel⟩ ⟨rfl, rfl, by show d + 1 ≤ 9; omega, by show 8 + (6 + 11) + 37 * d ≤ 37 * 9; omega⟩ (n := 3) rfl hl.1 rfl (Nat.le_of_ble_eq_true rfl) dL_forge_7 ⟨by show 0 + 1 ≤ 6; omega, by show 0 + 6 ≤ 2019; omega⟩) hS (fun ce q9 H locs hp9 hS h1 h2 h3 => ?_)
      obtain ⟨ad1, cf1, hW, hX1, hf1, ha1⟩ := hp9
      refine vx_catch (name := mi_IS) S.2.2.2.1 [⟨0, 12, 15, 13⟩, ⟨0, 12, 19, 15⟩] ⟨0, 12, 23, 17⟩ [] ht (List.forall_mem_cons.mpr ⟨Or.inr ⟨by decide, mi_IO, (S.2.2.2.2 _ (List.mem_cons_of_mem _ mw_283)), E.2.2.2.1 (mi_IS, mi_IO) (by decide)⟩, List.forall_mem_cons.mpr ⟨Or.inr ⟨by decide, mi_IA, (S.2.2.2.2 _ (List.mem_cons_of_mem _ mw_284)), E.2.2.2.1 (mi_IS, mi_IA) (by decide)⟩, fun _ h => absurd h List.not_mem_nil⟩⟩) rfl (by decide) (S.2.2.2.2 _ (List.mem_cons_of_mem _ mw_285)) (va_Nw.use rfl (E.2.2.1 (mi_IS, mi_IS) (by decide))) h1 h2 h3 ?_
      refine lv_astore (lv' := [(5, .ref q9), (0, .ref (ad 0)), (1, .int x), (2, .int y), (3, .int z), (4, .ref (ad 1500))]) S.1 S.2.1 dL_forge_23 hl (by decide) rfl (fun ls hl => ?_)
      refine lv_iconst (v := nI 3) S.1 S.2.1 dL_forge_25 (by decide) ?_
      exact mi_retMi S hr hk hS dL_forge_26 (by show 0 + 1 ≤ 6; omega) (by show 0 + 6 ≤ 2019; omega) ⟨rfl, ad1, cf1, o, hW, hX1, fun r g1 g2 => hf1 r g1, (hf1 1500 (by omega)).2, ha1, (hf1 1500 (by omega)).1.trans hO, fun z => absurd z (by decide)⟩
set_option maxHeartbeats 4000000 in
set_option maxRecDepth 100000 in
theorem c_LdieHeight (l : Launch) (D : va_G) (A : Nat → Prop) {ad : Nat → Nat} {cf : Nat → Option va_E} {o : Nat → Int64} {x y : Int32} {k : Nat} {a : Int32} {S1 : sT} (hk3 : k ≤ 1) (hO : cf 1500 = some (mi_al D 1 o)) (h0 : ∃ fs, cf 0 = some (.inr (5, fs))) (hO1 : st_ok S1) (hM : lw_Cl l D A ad cf yX4_dieHeight (Cond.code yX4_dieHeight cX4_dieHeight 3 (some Jvm.ClassFile.FieldType.int)) [.ref (ad 0), .int x, .int y] lw_exO k a S1) : mi_Mi l yL_dieHeight (Cond.codeWith yL_dieHeight cL_dieHeight 5 (some Jvm.ClassFile.FieldType.int) [(0, 10, 13, 13)]) (mi_rq 9 6 2019) D A (mi_W D A ad cf) [.ref (ad 0), .int x, .int y, .ref (ad 1500)] 6 2019 (fun r H => r = nI k ∧ lw_B D A S1 ad cf (k = 0) a H) := by
  refine mi_startH (cc := cL_dieHeight) (nL := 5) (ret := (some Jvm.ClassFile.FieldType.int)) (hh := [(0, 10, 13, 13)]) rfl (by decide) (Nat.le_of_ble_eq_true rfl) ?_
  intro p e s m below meth c ls S E hW hS hr hk ht hl
  have S : CallFix p m c cL_dieHeight 5 s _ ((Cond.codeWith yL_dieHeight cL_dieHeight 5 (some Jvm.ClassFile.FieldType.int) [(0, 10, 13, 13)]) :: mi_G) RL := S
  have hl : lv_has ls 5 [(0, .ref (ad 0)), (1, .int x), (2, .int y), (3, .ref (ad 1500))] := hl
  obtain ⟨fs0, h00⟩ := h0
  refine lv_aload_n S.1 S.2.1 dL_dieHeight_0 rfl (lv_at hl 3 rfl) ?_
  refine lv_iconst (v := nI 0) S.1 S.2.1 dL_dieHeight_1 (by decide) ?_
  refine lv_aload_n S.1 S.2.1 dL_dieHeight_2 rfl (lv_at hl 0 rfl) ?_
  refine lv_iload_n S.1 S.2.1 dL_dieHeight_3 rfl (lv_at hl 1 rfl) ?_
  refine lv_iload_n S.1 S.2.1 dL_dieHeight_4 rfl (lv_at hl 2 rfl) ?_
  rcases hM with ⟨hk0, d, mc, ms, hd, hmc, hms, hM⟩ | ⟨hkn, d, hd, hM⟩
  · refine mi_cMi (mi_runV (P := mi_W D A ad cf) (As := [.int x, .int y]) (rest := [.int (nI 0), .ref (ad 1500)]) S E hS hW (ad 0) hM (hW.recv E h00 rfl) mw_635 mw_632 mw_633 mw_634 mw_33 ⟨by decide, by decide, by decide +kernel⟩ ⟨rfl, rfl, by show d + 1 ≤ 9; omega, by show 8 + (3 + 11) + 37 * d ≤ 37 * 9; omega⟩ (n := 2) rfl hl.1 rfl (Nat.le_of_ble_eq_true rfl) dL_dieHeight_5 ⟨by show 0 + mc ≤ 6; omega, by show 0 + ms ≤ 2019; omega⟩) hS (fun r9 H locs hp9 hS hz9 => ?_)
    obtain ⟨e9, ad1, cf1, hW, hX1, hf1, ha1⟩ := hp9
    have o1 : ad1 1500 = ad 1500 := (hf1 1500 (by omega)).2
    have c1 : cf1 1500 = some (mi_al D 1 o) := (hf1 1500 (by omega)).1.trans hO
    refine mi_top (v' := .int a) (by rw [e9]) ?_
    refine lv_i2l (v := a.toInt64) S.1 S.2.1 dL_dieHeight_8 rfl ?_
    refine mi_last S E hS hW 1500 o1 c1 (by omega) (by omega) dL_dieHeight_9 (fun H locs hW hS hz9 => ?_)
    refine lv_goto (tgt := 17) S.1 S.2.1 dL_dieHeight_10 (by decide) ?_
    refine lv_iconst (v := nI 0) S.1 S.2.1 dL_dieHeight_17 (by decide) ?_
    refine mi_retMi S hr hk hS dL_dieHeight_18 (by show 0 + mc ≤ 6; omega) (by show 0 + ms ≤ 2019; omega) ⟨by rw [hk0], ad1, _, _, hW, hX1.same hO1 (fun r hr9 => ⟨mi_up_n (by omega), rfl⟩), fun r h1 h2 => ⟨(mi_up_n h2).trans (hf1 r h1).1, (hf1 r h1).2⟩, o1, ha1, mi_up_s, fun _ => ?_⟩
    exact if_pos rfl
  · obtain rfl : k = 1 := by omega
    refine mi_cTh (P := rx_P D A S1 ad cf) (Ex := mi_IO) (mi_runVX (P := mi_W D A ad cf) (As := [.int x, .int y]) (rest := [.int (nI 0), .ref (ad 1500)]) S E hS hW (ad 0) hM (hW.recv E h00 rfl) mw_635 mw_632 mw_633 mw_634 mw_33 ⟨by decide, by decide, by decide +kernel⟩ ⟨rfl, rfl, by show d + 1 ≤ 9; omega, by show 8 + (3 + 11) + 37 * d ≤ 37 * 9; omega⟩ (n := 2) rfl hl.1 rfl (Nat.le_of_ble_eq_true rfl) dL_dieHeight_5 ⟨by show 0 + 1 ≤ 6; omega, by show 0 + 6 ≤ 2019; omega⟩) hS (fun ce q9 H locs hp9 hS h1 h2 h3 => ?_)
    obtain ⟨ad1, cf1, hW, hX1, hf1, ha1⟩ := hp9
    refine vx_catch (name := mi_IO) S.2.2.2.1 [] ⟨0, 10, 13, 13⟩ [] ht (fun z hz => absurd hz List.not_mem_nil) rfl (by decide) (S.2.2.2.2 _ (List.mem_cons_of_mem _ mw_283)) (va_Nw.use rfl (E.2.2.1 (mi_IO, mi_IO) (by decide))) h1 h2 h3 ?_
    refine lv_astore (lv' := [(4, .ref q9), (0, .ref (ad 0)), (1, .int x), (2, .int y), (3, .ref (ad 1500))]) S.1 S.2.1 dL_dieHeight_13 hl (by decide) rfl (fun ls hl => ?_)
    refine lv_iconst (v := nI 1) S.1 S.2.1 dL_dieHeight_15 (by decide) ?_
    exact mi_retMi S hr hk hS dL_dieHeight_16 (by show 0 + 1 ≤ 6; omega) (by show 0 + 6 ≤ 2019; omega) ⟨rfl, ad1, cf1, o, hW, hX1, fun r g1 g2 => hf1 r g1, (hf1 1500 (by omega)).2, ha1, (hf1 1500 (by omega)).1.trans hO, fun z => absurd z (by decide)⟩
set_option maxHeartbeats 4000000 in
set_option maxRecDepth 100000 in
theorem c_LcoinHeight (l : Launch) (D : va_G) (A : Nat → Prop) {ad : Nat → Nat} {cf : Nat → Option va_E} {o : Nat → Int64} {x y : Int32} {k : Nat} {a : Int32} {S1 : sT} (hk3 : k ≤ 1) (hO : cf 1500 = some (mi_al D 1 o)) (h0 : ∃ fs, cf 0 = some (.inr (5, fs))) (hO1 : st_ok S1) (hM : lw_Cl l D A ad cf yX4_coinHeight (Cond.code yX4_coinHeight cX4_coinHeight 3 (some Jvm.ClassFile.FieldType.int)) [.ref (ad 0), .int x, .int y] lw_exO k a S1) : mi_Mi l yL_coinHeight (Cond.codeWith yL_coinHeight cL_coinHeight 5 (some Jvm.ClassFile.FieldType.int) [(0, 10, 13, 13)]) (mi_rq 9 6 2019) D A (mi_W D A ad cf) [.ref (ad 0), .int x, .int y, .ref (ad 1500)] 6 2019 (fun r H => r = nI k ∧ lw_B D A S1 ad cf (k = 0) a H) := by
  refine mi_startH (cc := cL_coinHeight) (nL := 5) (ret := (some Jvm.ClassFile.FieldType.int)) (hh := [(0, 10, 13, 13)]) rfl (by decide) (Nat.le_of_ble_eq_true rfl) ?_
  intro p e s m below meth c ls S E hW hS hr hk ht hl
  have S : CallFix p m c cL_coinHeight 5 s _ ((Cond.codeWith yL_coinHeight cL_coinHeight 5 (some Jvm.ClassFile.FieldType.int) [(0, 10, 13, 13)]) :: mi_G) RL := S
  have hl : lv_has ls 5 [(0, .ref (ad 0)), (1, .int x), (2, .int y), (3, .ref (ad 1500))] := hl
  obtain ⟨fs0, h00⟩ := h0
  refine lv_aload_n S.1 S.2.1 dL_coinHeight_0 rfl (lv_at hl 3 rfl) ?_
  refine lv_iconst (v := nI 0) S.1 S.2.1 dL_coinHeight_1 (by decide) ?_
  refine lv_aload_n S.1 S.2.1 dL_coinHeight_2 rfl (lv_at hl 0 rfl) ?_
  refine lv_iload_n S.1 S.2.1 dL_coinHeight_3 rfl (lv_at hl 1 rfl) ?_
  refine lv_iload_n S.1 S.2.1 dL_coinHeight_4 rfl (lv_at hl 2 rfl) ?_
  rcases hM with ⟨hk0, d, mc, ms, hd, hmc, hms, hM⟩ | ⟨hkn, d, hd, hM⟩
  · refine mi_cMi (mi_runV (P := mi_W D A ad cf) (As := [.int x, .int y]) (rest := [.int (nI 0), .ref (ad 1500)]) S E hS hW (ad 0) hM (hW.recv E h00 rfl) mw_642 mw_639 mw_640 mw_641 mw_33 ⟨by decide, by decide, by decide +kernel⟩ ⟨rfl, rfl, by show d + 1 ≤ 9; omega, by show 8 + (3 + 11) + 37 * d ≤ 37 * 9; omega⟩ (n := 2) rfl hl.1 rfl (Nat.le_of_ble_eq_true rfl) dL_coinHeight_5 ⟨by show 0 + mc ≤ 6; omega, by show 0 + ms ≤ 2019; omega⟩) hS (fun r9 H locs hp9 hS hz9 => ?_)
    obtain ⟨e9, ad1, cf1, hW, hX1, hf1, ha1⟩ := hp9
    have o1 : ad1 1500 = ad 1500 := (hf1 1500 (by omega)).2
    have c1 : cf1 1500 = some (mi_al D 1 o) := (hf1 1500 (by omega)).1.trans hO
    refine mi_top (v' := .int a) (by rw [e9]) ?_
    refine lv_i2l (v := a.toInt64) S.1 S.2.1 dL_coinHeight_8 rfl ?_
    refine mi_last S E hS hW 1500 o1 c1 (by omega) (by omega) dL_coinHeight_9 (fun H locs hW hS hz9 => ?_)
    refine lv_goto (tgt := 17) S.1 S.2.1 dL_coinHeight_10 (by decide) ?_
    refine lv_iconst (v := nI 0) S.1 S.2.1 dL_coinHeight_17 (by decide) ?_
    refine mi_retMi S hr hk hS dL_coinHeight_18 (by show 0 + mc ≤ 6; omega) (by show 0 + ms ≤ 2019; omega) ⟨by rw [hk0], ad1, _, _, hW, hX1.same hO1 (fun r hr9 => ⟨mi_up_n (by omega), rfl⟩), fun r h1 h2 => ⟨(mi_up_n h2).trans (hf1 r h1).1, (hf1 r h1).2⟩, o1, ha1, mi_up_s, fun _ => ?_⟩
    exact if_pos rfl
  · obtain rfl : k = 1 := by omega
    refine mi_cTh (P := rx_P D A S1 ad cf) (Ex := mi_IO) (mi_runVX (P := mi_W D A ad cf) (As := [.int x, .int y]) (rest := [.int (nI 0), .ref (ad 1500)]) S E hS hW (ad 0) hM (hW.recv E h00 rfl) mw_642 mw_639 mw_640 mw_641 mw_33 ⟨by decide, by decide, by decide +kernel⟩ ⟨rfl, rfl, by show d + 1 ≤ 9; omega, by show 8 + (3 + 11) + 37 * d ≤ 37 * 9; omega⟩ (n := 2) rfl hl.1 rfl (Nat.le_of_ble_eq_true rfl) dL_coinHeight_5 ⟨by show 0 + 1 ≤ 6; omega, by show 0 + 6 ≤ 2019; omega⟩) hS (fun ce q9 H locs hp9 hS h1 h2 h3 => ?_)
    obtain ⟨ad1, cf1, hW, hX1, hf1, ha1⟩ := hp9
    refine vx_catch (name := mi_IO) S.2.2.2.1 [] ⟨0, 10, 13, 13⟩ [] ht (fun z hz => absurd hz List.not_mem_nil) rfl (by decide) (S.2.2.2.2 _ (List.mem_cons_of_mem _ mw_283)) (va_Nw.use rfl (E.2.2.1 (mi_IO, mi_IO) (by decide))) h1 h2 h3 ?_
    refine lv_astore (lv' := [(4, .ref q9), (0, .ref (ad 0)), (1, .int x), (2, .int y), (3, .ref (ad 1500))]) S.1 S.2.1 dL_coinHeight_13 hl (by decide) rfl (fun ls hl => ?_)
    refine lv_iconst (v := nI 1) S.1 S.2.1 dL_coinHeight_15 (by decide) ?_
    exact mi_retMi S hr hk hS dL_coinHeight_16 (by show 0 + 1 ≤ 6; omega) (by show 0 + 6 ≤ 2019; omega) ⟨rfl, ad1, cf1, o, hW, hX1, fun r g1 g2 => hf1 r g1, (hf1 1500 (by omega)).2, ha1, (hf1 1500 (by omega)).1.trans hO, fun z => absurd z (by decide)⟩
set_option maxHeartbeats 4000000 in
set_option maxRecDepth 100000 in
theorem c_Lgrade (l : Launch) (D : va_G) (A : Nat → Prop) {ad : Nat → Nat} {cf : Nat → Option va_E} {o : Nat → Int64} {x : Int32} {k : Nat} {a : Int32} {S1 : sT} (hk3 : k ≤ 1) (hO : cf 1500 = some (mi_al D 1 o)) (h0 : ∃ fs, cf 0 = some (.inr (5, fs))) (hO1 : st_ok S1) (hM : lw_Cl l D A ad cf yX4_grade (Cond.code yX4_grade cX4_grade 4 (some Jvm.ClassFile.FieldType.int)) [.ref (ad 0), .int x] lw_exO k a S1) : mi_Mi l yL_grade (Cond.codeWith yL_grade cL_grade 4 (some Jvm.ClassFile.FieldType.int) [(0, 9, 12, 13)]) (mi_rq 9 6 2019) D A (mi_W D A ad cf) [.ref (ad 0), .int x, .ref (ad 1500)] 6 2019 (fun r H => r = nI k ∧ lw_B D A S1 ad cf (k = 0) a H) := by
  refine mi_startH (cc := cL_grade) (nL := 4) (ret := (some Jvm.ClassFile.FieldType.int)) (hh := [(0, 9, 12, 13)]) rfl (by decide) (Nat.le_of_ble_eq_true rfl) ?_
  intro p e s m below meth c ls S E hW hS hr hk ht hl
  have S : CallFix p m c cL_grade 4 s _ ((Cond.codeWith yL_grade cL_grade 4 (some Jvm.ClassFile.FieldType.int) [(0, 9, 12, 13)]) :: mi_G) RL := S
  have hl : lv_has ls 4 [(0, .ref (ad 0)), (1, .int x), (2, .ref (ad 1500))] := hl
  obtain ⟨fs0, h00⟩ := h0
  refine lv_aload_n S.1 S.2.1 dL_grade_0 rfl (lv_at hl 2 rfl) ?_
  refine lv_iconst (v := nI 0) S.1 S.2.1 dL_grade_1 (by decide) ?_
  refine lv_aload_n S.1 S.2.1 dL_grade_2 rfl (lv_at hl 0 rfl) ?_
  refine lv_iload_n S.1 S.2.1 dL_grade_3 rfl (lv_at hl 1 rfl) ?_
  rcases hM with ⟨hk0, d, mc, ms, hd, hmc, hms, hM⟩ | ⟨hkn, d, hd, hM⟩
  · refine mi_cMi (mi_runV (P := mi_W D A ad cf) (As := [.int x]) (rest := [.int (nI 0), .ref (ad 1500)]) S E hS hW (ad 0) hM (hW.recv E h00 rfl) mw_649 mw_646 mw_647 mw_648 mw_33 ⟨by decide, by decide, by decide +kernel⟩ ⟨rfl, rfl, by show d + 1 ≤ 9; omega, by show 8 + (4 + 11) + 37 * d ≤ 37 * 9; omega⟩ (n := 1) rfl hl.1 rfl (Nat.le_of_ble_eq_true rfl) dL_grade_4 ⟨by show 0 + mc ≤ 6; omega, by show 0 + ms ≤ 2019; omega⟩) hS (fun r9 H locs hp9 hS hz9 => ?_)
    obtain ⟨e9, ad1, cf1, hW, hX1, hf1, ha1⟩ := hp9
    have o1 : ad1 1500 = ad 1500 := (hf1 1500 (by omega)).2
    have c1 : cf1 1500 = some (mi_al D 1 o) := (hf1 1500 (by omega)).1.trans hO
    refine mi_top (v' := .int a) (by rw [e9]) ?_
    refine lv_i2l (v := a.toInt64) S.1 S.2.1 dL_grade_7 rfl ?_
    refine mi_last S E hS hW 1500 o1 c1 (by omega) (by omega) dL_grade_8 (fun H locs hW hS hz9 => ?_)
    refine lv_goto (tgt := 15) S.1 S.2.1 dL_grade_9 (by decide) ?_
    refine lv_iconst (v := nI 0) S.1 S.2.1 dL_grade_15 (by decide) ?_
    refine mi_retMi S hr hk hS dL_grade_16 (by show 0 + mc ≤ 6; omega) (by show 0 + ms ≤ 2019; omega) ⟨by rw [hk0], ad1, _, _, hW, hX1.same hO1 (fun r hr9 => ⟨mi_up_n (by omega), rfl⟩), fun r h1 h2 => ⟨(mi_up_n h2).trans (hf1 r h1).1, (hf1 r h1).2⟩, o1, ha1, mi_up_s, fun _ => ?_⟩
    exact if_pos rfl
  · obtain rfl : k = 1 := by omega
    refine mi_cTh (P := rx_P D A S1 ad cf) (Ex := mi_IO) (mi_runVX (P := mi_W D A ad cf) (As := [.int x]) (rest := [.int (nI 0), .ref (ad 1500)]) S E hS hW (ad 0) hM (hW.recv E h00 rfl) mw_649 mw_646 mw_647 mw_648 mw_33 ⟨by decide, by decide, by decide +kernel⟩ ⟨rfl, rfl, by show d + 1 ≤ 9; omega, by show 8 + (4 + 11) + 37 * d ≤ 37 * 9; omega⟩ (n := 1) rfl hl.1 rfl (Nat.le_of_ble_eq_true rfl) dL_grade_4 ⟨by show 0 + 1 ≤ 6; omega, by show 0 + 6 ≤ 2019; omega⟩) hS (fun ce q9 H locs hp9 hS h1 h2 h3 => ?_)
    obtain ⟨ad1, cf1, hW, hX1, hf1, ha1⟩ := hp9
    refine vx_catch (name := mi_IO) S.2.2.2.1 [] ⟨0, 9, 12, 13⟩ [] ht (fun z hz => absurd hz List.not_mem_nil) rfl (by decide) (S.2.2.2.2 _ (List.mem_cons_of_mem _ mw_283)) (va_Nw.use rfl (E.2.2.1 (mi_IO, mi_IO) (by decide))) h1 h2 h3 ?_
    refine lv_astore_n (lv' := [(3, .ref q9), (0, .ref (ad 0)), (1, .int x), (2, .ref (ad 1500))]) S.1 S.2.1 dL_grade_12 rfl hl (by decide) rfl (fun ls hl => ?_)
    refine lv_iconst (v := nI 1) S.1 S.2.1 dL_grade_13 (by decide) ?_
    exact mi_retMi S hr hk hS dL_grade_14 (by show 0 + 1 ≤ 6; omega) (by show 0 + 6 ≤ 2019; omega) ⟨rfl, ad1, cf1, o, hW, hX1, fun r g1 g2 => hf1 r g1, (hf1 1500 (by omega)).2, ha1, (hf1 1500 (by omega)).1.trans hO, fun z => absurd z (by decide)⟩
set_option maxHeartbeats 4000000 in
set_option maxRecDepth 100000 in
theorem c_LisForged (l : Launch) (D : va_G) (A : Nat → Prop) {ad : Nat → Nat} {cf : Nat → Option va_E} {o : Nat → Int64} {x : Int32} {k : Nat} {a : Int32} {S1 : sT} (hk3 : k ≤ 1) (hO : cf 1500 = some (mi_al D 1 o)) (h0 : ∃ fs, cf 0 = some (.inr (5, fs))) (hO1 : st_ok S1) (hz : a = nI 0 ∨ a = nI 1) (hM : lw_Cl l D A ad cf yX4_isForged (Cond.code yX4_isForged cX4_isForged 3 (some Jvm.ClassFile.FieldType.boolean)) [.ref (ad 0), .int x] lw_exO k a S1) : mi_Mi l yL_isForged (Cond.codeWith yL_isForged cL_isForged 4 (some Jvm.ClassFile.FieldType.int) [(0, 16, 19, 13)]) (mi_rq 9 6 2019) D A (mi_W D A ad cf) [.ref (ad 0), .int x, .ref (ad 1500)] 6 2019 (fun r H => r = nI k ∧ lw_B D A S1 ad cf (k = 0) a H) := by
  refine mi_startH (cc := cL_isForged) (nL := 4) (ret := (some Jvm.ClassFile.FieldType.int)) (hh := [(0, 16, 19, 13)]) rfl (by decide) (Nat.le_of_ble_eq_true rfl) ?_
  intro p e s m below meth c ls S E hW hS hr hk ht hl
  have S : CallFix p m c cL_isForged 4 s _ ((Cond.codeWith yL_isForged cL_isForged 4 (some Jvm.ClassFile.FieldType.int) [(0, 16, 19, 13)]) :: mi_G) RL := S
  have hl : lv_has ls 4 [(0, .ref (ad 0)), (1, .int x), (2, .ref (ad 1500))] := hl
  obtain ⟨fs0, h00⟩ := h0
  refine lv_aload_n S.1 S.2.1 dL_isForged_0 rfl (lv_at hl 2 rfl) ?_
  refine lv_iconst (v := nI 0) S.1 S.2.1 dL_isForged_1 (by decide) ?_
  refine lv_aload_n S.1 S.2.1 dL_isForged_2 rfl (lv_at hl 0 rfl) ?_
  refine lv_iload_n S.1 S.2.1 dL_isForged_3 rfl (lv_at hl 1 rfl) ?_
  rcases hM with ⟨hk0, d, mc, ms, hd, hmc, hms, hM⟩ | ⟨hkn, d, hd, hM⟩
  · refine mi_cMi (mi_runV (P := mi_W D A ad cf) (As := [.int x]) (rest := [.int (nI 0), .ref (ad 1500)]) S E hS hW (ad 0) hM (hW.recv E h00 rfl) mw_663 mw_660 mw_661 mw_662 mw_33 ⟨by decide, by decide, by decide +kernel⟩ ⟨rfl, rfl, by show d + 1 ≤ 9; omega, by show 8 + (3 + 11) + 37 * d ≤ 37 * 9; omega⟩ (n := 1) rfl hl.1 rfl (Nat.le_of_ble_eq_true rfl) dL_isForged_4 ⟨by show 0 + mc ≤ 6; omega, by show 0 + ms ≤ 2019; omega⟩) hS (fun r9 H locs hp9 hS hz9 => ?_)
    obtain ⟨e9, ad1, cf1, hW, hX1, hf1, ha1⟩ := hp9
    have o1 : ad1 1500 = ad 1500 := (hf1 1500 (by omega)).2
    have c1 : cf1 1500 = some (mi_al D 1 o) := (hf1 1500 (by omega)).1.trans hO
    refine mi_top (v' := .int a) (by rw [e9]) ?_
    rcases hz with hz | hz
    · subst hz
      refine mi_if_eq (tgt := 14) S (a := 0) (by omega) dL_isForged_7 (by decide) (fun _ => ?_) (fun z => absurd rfl z)
      refine lv_lconst (v := 0) S.1 S.2.1 dL_isForged_14 (by decide) ?_
      refine mi_last S E hS hW 1500 o1 c1 (by omega) (by omega) dL_isForged_15 (fun H locs hW hS hz9 => ?_)
      refine lv_goto (tgt := 22) S.1 S.2.1 dL_isForged_16 (by decide) ?_
      refine lv_iconst (v := nI 0) S.1 S.2.1 dL_isForged_22 (by decide) ?_
      refine mi_retMi S hr hk hS dL_isForged_23 (by show 0 + mc ≤ 6; omega) (by show 0 + ms ≤ 2019; omega) ⟨by rw [hk0], ad1, _, _, hW, hX1.same hO1 (fun r hr9 => ⟨mi_up_n (by omega), rfl⟩), fun r h1 h2 => ⟨(mi_up_n h2).trans (hf1 r h1).1, (hf1 r h1).2⟩, o1, ha1, mi_up_s, fun _ => ?_⟩
      exact (if_pos rfl).trans (by decide)
    · subst hz
      refine mi_if_eq (tgt := 14) S (a := 1) (by omega) dL_isForged_7 (by decide) (fun z => absurd z (by omega)) (fun _ => ?_)
      refine lv_lconst (v := 1) S.1 S.2.1 dL_isForged_10 (by decide) ?_
      refine lv_goto (tgt := 15) S.1 S.2.1 dL_isForged_11 (by decide) ?_
      refine mi_last S E hS hW 1500 o1 c1 (by omega) (by omega) dL_isForged_15 (fun H locs hW hS hz9 => ?_)
      refine lv_goto (tgt := 22) S.1 S.2.1 dL_isForged_16 (by decide) ?_
      refine lv_iconst (v := nI 0) S.1 S.2.1 dL_isForged_22 (by decide) ?_
      refine mi_retMi S hr hk hS dL_isForged_23 (by show 0 + mc ≤ 6; omega) (by show 0 + ms ≤ 2019; omega) ⟨by rw [hk0], ad1, _, _, hW, hX1.same hO1 (fun r hr9 => ⟨mi_up_n (by omega), rfl⟩), fun r h1 h2 => ⟨(mi_up_n h2).trans (hf1 r h1).1, (hf1 r h1).2⟩, o1, ha1, mi_up_s, fun _ => ?_⟩
      exact (if_pos rfl).trans (by decide)
  · obtain rfl : k = 1 := by omega
    refine mi_cTh (P := rx_P D A S1 ad cf) (Ex := mi_IO) (mi_runVX (P := mi_W D A ad cf) (As := [.int x]) (rest := [.int (nI 0), .ref (ad 1500)]) S E hS hW (ad 0) hM (hW.recv E h00 rfl) mw_663 mw_660 mw_661 mw_662 mw_33 ⟨by decide, by decide, by decide +kernel⟩ ⟨rfl, rfl, by show d + 1 ≤ 9; omega, by show 8 + (3 + 11) + 37 * d ≤ 37 * 9; omega⟩ (n := 1) rfl hl.1 rfl (Nat.le_of_ble_eq_true rfl) dL_isForged_4 ⟨by show 0 + 1 ≤ 6; omega, by show 0 + 6 ≤ 2019; omega⟩) hS (fun ce q9 H locs hp9 hS h1 h2 h3 => ?_)
    obtain ⟨ad1, cf1, hW, hX1, hf1, ha1⟩ := hp9
    refine vx_catch (name := mi_IO) S.2.2.2.1 [] ⟨0, 16, 19, 13⟩ [] ht (fun z hz => absurd hz List.not_mem_nil) rfl (by decide) (S.2.2.2.2 _ (List.mem_cons_of_mem _ mw_283)) (va_Nw.use rfl (E.2.2.1 (mi_IO, mi_IO) (by decide))) h1 h2 h3 ?_
    refine lv_astore_n (lv' := [(3, .ref q9), (0, .ref (ad 0)), (1, .int x), (2, .ref (ad 1500))]) S.1 S.2.1 dL_isForged_19 rfl hl (by decide) rfl (fun ls hl => ?_)
    refine lv_iconst (v := nI 1) S.1 S.2.1 dL_isForged_20 (by decide) ?_
    exact mi_retMi S hr hk hS dL_isForged_21 (by show 0 + 1 ≤ 6; omega) (by show 0 + 6 ≤ 2019; omega) ⟨rfl, ad1, cf1, o, hW, hX1, fun r g1 g2 => hf1 r g1, (hf1 1500 (by omega)).2, ha1, (hf1 1500 (by omega)).1.trans hO, fun z => absurd z (by decide)⟩
set_option maxHeartbeats 4000000 in
set_option maxRecDepth 100000 in
theorem c_Ldistance (l : Launch) (D : va_G) (A : Nat → Prop) {ad : Nat → Nat} {cf : Nat → Option va_E} {o : Nat → Int64} {x y : Int32} {k : Nat} {a : Int32} {S1 : sT} (hk3 : k ≤ 1) (hO : cf 1500 = some (mi_al D 1 o)) (h0 : ∃ fs, cf 0 = some (.inr (5, fs))) (hO1 : st_ok S1) (hM : lw_Cl l D A ad cf yX4_distance (Cond.code yX4_distance cX4_distance 3 (some Jvm.ClassFile.FieldType.int)) [.ref (ad 0), .int x, .int y] lw_exO k a S1) : mi_Mi l yL_distance (Cond.codeWith yL_distance cL_distance 5 (some Jvm.ClassFile.FieldType.int) [(0, 10, 13, 13)]) (mi_rq 9 6 2019) D A (mi_W D A ad cf) [.ref (ad 0), .int x, .int y, .ref (ad 1500)] 6 2019 (fun r H => r = nI k ∧ lw_B D A S1 ad cf (k = 0) a H) := by
  refine mi_startH (cc := cL_distance) (nL := 5) (ret := (some Jvm.ClassFile.FieldType.int)) (hh := [(0, 10, 13, 13)]) rfl (by decide) (Nat.le_of_ble_eq_true rfl) ?_
  intro p e s m below meth c ls S E hW hS hr hk ht hl
  have S : CallFix p m c cL_distance 5 s _ ((Cond.codeWith yL_distance cL_distance 5 (some Jvm.ClassFile.FieldType.int) [(0, 10, 13, 13)]) :: mi_G) RL := S
  have hl : lv_has ls 5 [(0, .ref (ad 0)), (1, .int x), (2, .int y), (3, .ref (ad 1500))] := hl
  obtain ⟨fs0, h00⟩ := h0
  refine lv_aload_n S.1 S.2.1 dL_distance_0 rfl (lv_at hl 3 rfl) ?_
  refine lv_iconst (v := nI 0) S.1 S.2.1 dL_distance_1 (by decide) ?_
  refine lv_aload_n S.1 S.2.1 dL_distance_2 rfl (lv_at hl 0 rfl) ?_
  refine lv_iload_n S.1 S.2.1 dL_distance_3 rfl (lv_at hl 1 rfl) ?_
  refine lv_iload_n S.1 S.2.1 dL_distance_4 rfl (lv_at hl 2 rfl) ?_
  rcases hM with ⟨hk0, d, mc, ms, hd, hmc, hms, hM⟩ | ⟨hkn, d, hd, hM⟩
  · refine mi_cMi (mi_runV (P := mi_W D A ad cf) (As := [.int x, .int y]) (rest := [.int (nI 0), .ref (ad 1500)]) S E hS hW (ad 0) hM (hW.recv E h00 rfl) mw_670 mw_667 mw_668 mw_669 mw_33 ⟨by decide, by decide, by decide +kernel⟩ ⟨rfl, rfl, by show d + 1 ≤ 9; omega, by show 8 + (3 + 11) + 37 * d ≤ 37 * 9; omega⟩ (n := 2) rfl hl.1 rfl (Nat.le_of_ble_eq_true rfl) dL_distance_5 ⟨by show 0 + mc ≤ 6; omega, by show 0 + ms ≤ 2019; omega⟩) hS (fun r9 H locs hp9 hS hz9 => ?_)
    obtain ⟨e9, ad1, cf1, hW, hX1, hf1, ha1⟩ := hp9
    have o1 : ad1 1500 = ad 1500 := (hf1 1500 (by omega)).2
    have c1 : cf1 1500 = some (mi_al D 1 o) := (hf1 1500 (by omega)).1.trans hO
    refine mi_top (v' := .int a) (by rw [e9]) ?_
    refine lv_i2l (v := a.toInt64) S.1 S.2.1 dL_distance_8 rfl ?_
    refine mi_last S E hS hW 1500 o1 c1 (by omega) (by omega) dL_distance_9 (fun H locs hW hS hz9 => ?_)
    refine lv_goto (tgt := 17) S.1 S.2.1 dL_distance_10 (by decide) ?_
    refine lv_iconst (v := nI 0) S.1 S.2.1 dL_distance_17 (by decide) ?_
    refine mi_retMi S hr hk hS dL_distance_18 (by show 0 + mc ≤ 6; omega) (by show 0 + ms ≤ 2019; omega) ⟨by rw [hk0], ad1, _, _, hW, hX1.same hO1 (fun r hr9 => ⟨mi_up_n (by omega), rfl⟩), fun r h1 h2 => ⟨(mi_up_n h2).trans (hf1 r h1).1, (hf1 r h1).2⟩, o1, ha1, mi_up_s, fun _ => ?_⟩
    exact if_pos rfl
  · obtain rfl : k = 1 := by omega
    refine mi_cTh (P := rx_P D A S1 ad cf) (Ex := mi_IO) (mi_runVX (P := mi_W D A ad cf) (As := [.int x, .int y]) (rest := [.int (nI 0), .ref (ad 1500)]) S E hS hW (ad 0) hM (hW.recv E h00 rfl) mw_670 mw_667 mw_668 mw_669 mw_33 ⟨by decide, by decide, by decide +kernel⟩ ⟨rfl, rfl, by show d + 1 ≤ 9; omega, by show 8 + (3 + 11) + 37 * d ≤ 37 * 9; omega⟩ (n := 2) rfl hl.1 rfl (Nat.le_of_ble_eq_true rfl) dL_distance_5 ⟨by show 0 + 1 ≤ 6; omega, by show 0 + 6 ≤ 2019; omega⟩) hS (fun ce q9 H locs hp9 hS h1 h2 h3 => ?_)
    obtain ⟨ad1, cf1, hW, hX1, hf1, ha1⟩ := hp9
    refine vx_catch (name := mi_IO) S.2.2.2.1 [] ⟨0, 10, 13, 13⟩ [] ht (fun z hz => absurd hz List.not_mem_nil) rfl (by decide) (S.2.2.2.2 _ (List.mem_cons_of_mem _ mw_283)) (va_Nw.use rfl (E.2.2.1 (mi_IO, mi_IO) (by decide))) h1 h2 h3 ?_
    refine lv_astore (lv' := [(4, .ref q9), (0, .ref (ad 0)), (1, .int x), (2, .int y), (3, .ref (ad 1500))]) S.1 S.2.1 dL_distance_13 hl (by decide) rfl (fun ls hl => ?_)
    refine lv_iconst (v := nI 1) S.1 S.2.1 dL_distance_15 (by decide) ?_
    exact mi_retMi S hr hk hS dL_distance_16 (by show 0 + 1 ≤ 6; omega) (by show 0 + 6 ≤ 2019; omega) ⟨rfl, ad1, cf1, o, hW, hX1, fun r g1 g2 => hf1 r g1, (hf1 1500 (by omega)).2, ha1, (hf1 1500 (by omega)).1.trans hO, fun z => absurd z (by decide)⟩
set_option maxHeartbeats 4000000 in
set_option maxRecDepth 100000 in
theorem c_Lcut (l : Launch) (D : va_G) (A : Nat → Prop) {ad : Nat → Nat} {cf : Nat → Option va_E} {o : Nat → Int64} {k : Nat} {a : Int32} {S1 : sT} (hk3 : k ≤ 1) (hO : cf 1500 = some (mi_al D 1 o)) (h0 : ∃ fs, cf 0 = some (.inr (5, fs))) (hO1 : st_ok S1) (hM : lw_Cl l D A ad cf yX4_cut (Cond.code yX4_cut cX4_cut 1 (some Jvm.ClassFile.FieldType.int)) [.ref (ad 0)] lw_exS k a S1) : mi_Mi l yL_cut (Cond.codeWith yL_cut cL_cut 3 (some Jvm.ClassFile.FieldType.int) [(0, 8, 11, 17)]) (mi_rq 9 6 2019) D A (mi_W D A ad cf) [.ref (ad 0), .ref (ad 1500)] 6 2019 (fun r H => r = nI k ∧ lw_B D A S1 ad cf (k = 0) a H) := by
  refine mi_startH (cc := cL_cut) (nL := 3) (ret := (some Jvm.ClassFile.FieldType.int)) (hh := [(0, 8, 11, 17)]) rfl (by decide) (Nat.le_of_ble_eq_true rfl) ?_
  intro p e s m below meth c ls S E hW hS hr hk ht hl
  have S : CallFix p m c cL_cut 3 s _ ((Cond.codeWith yL_cut cL_cut 3 (some Jvm.ClassFile.FieldType.int) [(0, 8, 11, 17)]) :: mi_G) RL := S
  have hl : lv_has ls 3 [(0, .ref (ad 0)), (1, .ref (ad 1500))] := hl
  obtain ⟨fs0, h00⟩ := h0
  refine lv_aload_n S.1 S.2.1 dL_cut_0 rfl (lv_at hl 1 rfl) ?_
  refine lv_iconst (v := nI 0) S.1 S.2.1 dL_cut_1 (by decide) ?_
  refine lv_aload_n S.1 S.2.1 dL_cut_2 rfl (lv_at hl 0 rfl) ?_
  rcases hM with ⟨hk0, d, mc, ms, hd, hmc, hms, hM⟩ | ⟨hkn, d, hd, hM⟩
  · refine mi_cMi (mi_runV (P := mi_W D A ad cf) (As := []) (rest := [.int (nI 0), .ref (ad 1500)]) S E hS hW (ad 0) hM (hW.recv E h00 rfl) mw_532 mw_529 mw_530 mw_531 mw_33 ⟨by decide, by decide, by decide +kernel⟩ ⟨rfl, rfl, by show d + 1 ≤ 9; omega, by show 8 + (1 + 11) + 37 * d ≤ 37 * 9; omega⟩ (n := 0) rfl hl.1 rfl (Nat.le_of_ble_eq_true rfl) dL_cut_3 ⟨by show 0 + mc ≤ 6; omega, by show 0 + ms ≤ 2019; omega⟩) hS (fun r9 H locs hp9 hS hz9 => ?_)
    obtain ⟨e9, ad1, cf1, hW, hX1, hf1, ha1⟩ := hp9
    have o1 : ad1 1500 = ad 1500 := (hf1 1500 (by omega)).2
    have c1 : cf1 1500 = some (mi_al D 1 o) := (hf1 1500 (by omega)).1.trans hO
    refine mi_top (v' := .int a) (by rw [e9]) ?_
    refine lv_i2l (v := a.toInt64) S.1 S.2.1 dL_cut_6 rfl ?_
    refine mi_last S E hS hW 1500 o1 c1 (by omega) (by omega) dL_cut_7 (fun H locs hW hS hz9 => ?_)
    refine lv_goto (tgt := 14) S.1 S.2.1 dL_cut_8 (by decide) ?_
    refine lv_iconst (v := nI 0) S.1 S.2.1 dL_cut_14 (by decide) ?_
    refine mi_retMi S hr hk hS dL_cut_15 (by show 0 + mc ≤ 6; omega) (by show 0 + ms ≤ 2019; omega) ⟨by rw [hk0], ad1, _, _, hW, hX1.same hO1 (fun r hr9 => ⟨mi_up_n (by omega), rfl⟩), fun r h1 h2 => ⟨(mi_up_n h2).trans (hf1 r h1).1, (hf1 r h1).2⟩, o1, ha1, mi_up_s, fun _ => ?_⟩
    exact if_pos rfl
  · obtain rfl : k = 1 := by omega
    refine mi_cTh (P := rx_P D A S1 ad cf) (Ex := mi_IS) (mi_runVX (P := mi_W D A ad cf) (As := []) (rest := [.int (nI 0), .ref (ad 1500)]) S E hS hW (ad 0) hM (hW.recv E h00 rfl) mw_532 mw_529 mw_530 mw_531 mw_33 ⟨by decide, by decide, by decide +kernel⟩ ⟨rfl, rfl, by show d + 1 ≤ 9; omega, by show 8 + (1 + 11) + 37 * d ≤ 37 * 9; omega⟩ (n := 0) rfl hl.1 rfl (Nat.le_of_ble_eq_true rfl) dL_cut_3 ⟨by show 0 + 1 ≤ 6; omega, by show 0 + 6 ≤ 2019; omega⟩) hS (fun ce q9 H locs hp9 hS h1 h2 h3 => ?_)
    obtain ⟨ad1, cf1, hW, hX1, hf1, ha1⟩ := hp9
    refine vx_catch (name := mi_IS) S.2.2.2.1 [] ⟨0, 8, 11, 17⟩ [] ht (fun z hz => absurd hz List.not_mem_nil) rfl (by decide) (S.2.2.2.2 _ (List.mem_cons_of_mem _ mw_285)) (va_Nw.use rfl (E.2.2.1 (mi_IS, mi_IS) (by decide))) h1 h2 h3 ?_
    refine lv_astore_n (lv' := [(2, .ref q9), (0, .ref (ad 0)), (1, .ref (ad 1500))]) S.1 S.2.1 dL_cut_11 rfl hl (by decide) rfl (fun ls hl => ?_)
    refine lv_iconst (v := nI 1) S.1 S.2.1 dL_cut_12 (by decide) ?_
    exact mi_retMi S hr hk hS dL_cut_13 (by show 0 + 1 ≤ 6; omega) (by show 0 + 6 ≤ 2019; omega) ⟨rfl, ad1, cf1, o, hW, hX1, fun r g1 g2 => hf1 r g1, (hf1 1500 (by omega)).2, ha1, (hf1 1500 (by omega)).1.trans hO, fun z => absurd z (by decide)⟩
