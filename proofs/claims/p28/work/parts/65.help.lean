/-! the law's helpers: a call of the class, its exceptions caught; what they do over the law's world -/
set_option maxHeartbeats 4000000 in
set_option maxRecDepth 100000 in
theorem c_LsetM (l : Launch) (D : va_G) (A : Nat → Prop) {P : Heap → Prop} {q0 : Nat} (hrc : ∀ (s : State) (H : Heap), mi_E D A s → P H → ∃ cell : Cell, H[q0]? = some cell ∧ cell.vm.isStatics = false ∧ s.vm.findClass "Voxelmint" = some cell.cls) {x y z : Int32} {a : Int32} {d mc ms : Nat} {P1 : Heap → Prop} (hd : d ≤ 8) (hM : mi_Mi l yX4_set (Cond.code yX4_set cX4_set 4 (some Jvm.ClassFile.FieldType.int)) (mi_rq d mc ms) D A P [.ref q0, .int x, .int y, .int z] mc ms (fun r H => r = a ∧ P1 H)) : mi_Mi l yL_set (Cond.codeWith yL_set cL_set 6 (some Jvm.ClassFile.FieldType.int) [(0, 9, 12, 14), (0, 9, 17, 16), (0, 9, 22, 18)]) (mi_rq 9 mc ms) D A P [.ref q0, .int x, .int y, .int z] mc ms (fun r H => r = a ∧ P1 H) := by
  refine mi_startH (cc := cL_set) (nL := 6) (ret := (some Jvm.ClassFile.FieldType.int)) (hh := [(0, 9, 12, 14), (0, 9, 17, 16), (0, 9, 22, 18)]) rfl (by decide) (Nat.le_of_ble_eq_true rfl) ?_
  intro p e s m below meth c ls S E hW hS hr hk ht hl
  have S : CallFix p m c cL_set 6 s _ ((Cond.codeWith yL_set cL_set 6 (some Jvm.ClassFile.FieldType.int) [(0, 9, 12, 14), (0, 9, 17, 16), (0, 9, 22, 18)]) :: mi_G) RL := S
  have hl : lv_has ls 6 [(0, .ref q0), (1, .int x), (2, .int y), (3, .int z)] := hl
  refine lv_aload_n S.1 S.2.1 dL_set_0 rfl (lv_at hl 0 rfl) ?_
  refine lv_iload_n S.1 S.2.1 dL_set_1 rfl (lv_at hl 1 rfl) ?_
  refine lv_iload_n S.1 S.2.1 dL_set_2 rfl (lv_at hl 2 rfl) ?_
  refine lv_iload_n S.1 S.2.1 dL_set_3 rfl (lv_at hl 3 rfl) ?_
  refine mi_cMi (mi_runV (P := P) (As := [.int x, .int y, .int z]) (rest := []) S E hS hW q0 hM (hrc _ _ E hW) mw_199 mw_196 mw_197 mw_198 mw_18 ⟨by decide, by decide, by decide +kernel⟩ ⟨rfl, rfl, by show d + 1 ≤ 9; omega, by show 8 + (4 + 11) + 37 * d ≤ 37 * 9; omega⟩ (n := 3) rfl hl.1 rfl (Nat.le_of_ble_eq_true rfl) dL_set_4 ⟨by show 0 + mc ≤ mc; omega, by show 0 + ms ≤ ms; omega⟩) hS (fun r9 H locs hp9 hS hz9 => ?_)
  obtain ⟨rfl, hW⟩ := hp9
  refine lv_istore (lv' := [(4, .int r9), (0, .ref q0), (1, .int x), (2, .int y), (3, .int z)]) S.1 S.2.1 dL_set_7 hl (by decide) rfl (fun ls hl => ?_)
  refine lv_goto (tgt := 27) S.1 S.2.1 dL_set_9 (by decide) ?_
  refine lv_iload S.1 S.2.1 dL_set_27 (lv_at hl 0 rfl) ?_
  exact mi_retMi S hr hk hS dL_set_29 (by show 0 + mc ≤ mc; omega) (by show 0 + ms ≤ ms; omega) ⟨rfl, hW⟩
set_option maxHeartbeats 4000000 in
set_option maxRecDepth 100000 in
theorem c_LsetTIO (l : Launch) (D : va_G) (A : Nat → Prop) {P : Heap → Prop} {q0 : Nat} (hrc : ∀ (s : State) (H : Heap), mi_E D A s → P H → ∃ cell : Cell, H[q0]? = some cell ∧ cell.vm.isStatics = false ∧ s.vm.findClass "Voxelmint" = some cell.cls) {x y z : Int32} {d : Nat} (hd : d ≤ 8) (hM : mi_Th l yX4_set (Cond.code yX4_set cX4_set 4 (some Jvm.ClassFile.FieldType.int)) (mi_rq d 1 6) D A P [.ref q0, .int x, .int y, .int z] mi_IO 1 6) : mi_Mi l yL_set (Cond.codeWith yL_set cL_set 6 (some Jvm.ClassFile.FieldType.int) [(0, 9, 12, 14), (0, 9, 17, 16), (0, 9, 22, 18)]) (mi_rq 9 1 6) D A P [.ref q0, .int x, .int y, .int z] 1 6 (fun r H => r = -71 ∧ P H) := by
  refine mi_startH (cc := cL_set) (nL := 6) (ret := (some Jvm.ClassFile.FieldType.int)) (hh := [(0, 9, 12, 14), (0, 9, 17, 16), (0, 9, 22, 18)]) rfl (by decide) (Nat.le_of_ble_eq_true rfl) ?_
  intro p e s m below meth c ls S E hW hS hr hk ht hl
  have S : CallFix p m c cL_set 6 s _ ((Cond.codeWith yL_set cL_set 6 (some Jvm.ClassFile.FieldType.int) [(0, 9, 12, 14), (0, 9, 17, 16), (0, 9, 22, 18)]) :: mi_G) RL := S
  have hl : lv_has ls 6 [(0, .ref q0), (1, .int x), (2, .int y), (3, .int z)] := hl
  refine lv_aload_n S.1 S.2.1 dL_set_0 rfl (lv_at hl 0 rfl) ?_
  refine lv_iload_n S.1 S.2.1 dL_set_1 rfl (lv_at hl 1 rfl) ?_
  refine lv_iload_n S.1 S.2.1 dL_set_2 rfl (lv_at hl 2 rfl) ?_
  refine lv_iload_n S.1 S.2.1 dL_set_3 rfl (lv_at hl 3 rfl) ?_
  refine mi_cTh (P := P) (Ex := mi_IO) (mi_runVX (P := P) (As := [.int x, .int y, .int z]) (rest := []) S E hS hW q0 hM (hrc _ _ E hW) mw_199 mw_196 mw_197 mw_198 mw_18 ⟨by decide, by decide, by decide +kernel⟩ ⟨rfl, rfl, by show d + 1 ≤ 9; omega, by show 8 + (4 + 11) + 37 * d ≤ 37 * 9; omega⟩ (n := 3) rfl hl.1 rfl (Nat.le_of_ble_eq_true rfl) dL_set_4 ⟨by show 0 + 1 ≤ 1; omega, by show 0 + 6 ≤ 6; omega⟩) hS (fun ce q9 H locs hW hS h1 h2 h3 => ?_)
  refine vx_catch (name := mi_IO) S.2.2.2.1 [] ⟨0, 9, 12, 14⟩ [⟨0, 9, 17, 16⟩, ⟨0, 9, 22, 18⟩] ht (fun z hz => absurd hz List.not_mem_nil) rfl (by decide) (S.2.2.2.2 _ (List.mem_cons_of_mem _ mw_193)) (va_Nw.use rfl (E.2.2.1 (mi_IO, mi_IO) (by decide))) h1 h2 h3 ?_
  refine lv_astore (lv' := [(5, .ref q9), (0, .ref q0), (1, .int x), (2, .int y), (3, .int z)]) S.1 S.2.1 dL_set_12 hl (by decide) rfl (fun ls hl => ?_)
  refine lv_bipush (v := (-71)) S.1 S.2.1 dL_set_14 (by decide) ?_
  exact mi_retMi S hr hk hS dL_set_16 (by show 0 + 1 ≤ 1; omega) (by show 0 + 6 ≤ 6; omega) ⟨rfl, hW⟩
set_option maxHeartbeats 4000000 in
set_option maxRecDepth 100000 in
theorem c_LsetTIA (l : Launch) (D : va_G) (A : Nat → Prop) {P : Heap → Prop} {q0 : Nat} (hrc : ∀ (s : State) (H : Heap), mi_E D A s → P H → ∃ cell : Cell, H[q0]? = some cell ∧ cell.vm.isStatics = false ∧ s.vm.findClass "Voxelmint" = some cell.cls) {x y z : Int32} {d : Nat} (hd : d ≤ 8) (hM : mi_Th l yX4_set (Cond.code yX4_set cX4_set 4 (some Jvm.ClassFile.FieldType.int)) (mi_rq d 1 6) D A P [.ref q0, .int x, .int y, .int z] mi_IA 1 6) : mi_Mi l yL_set (Cond.codeWith yL_set cL_set 6 (some Jvm.ClassFile.FieldType.int) [(0, 9, 12, 14), (0, 9, 17, 16), (0, 9, 22, 18)]) (mi_rq 9 1 6) D A P [.ref q0, .int x, .int y, .int z] 1 6 (fun r H => r = -72 ∧ P H) := by
  refine mi_startH (cc := cL_set) (nL := 6) (ret := (some Jvm.ClassFile.FieldType.int)) (hh := [(0, 9, 12, 14), (0, 9, 17, 16), (0, 9, 22, 18)]) rfl (by decide) (Nat.le_of_ble_eq_true rfl) ?_
  intro p e s m below meth c ls S E hW hS hr hk ht hl
  have S : CallFix p m c cL_set 6 s _ ((Cond.codeWith yL_set cL_set 6 (some Jvm.ClassFile.FieldType.int) [(0, 9, 12, 14), (0, 9, 17, 16), (0, 9, 22, 18)]) :: mi_G) RL := S
  have hl : lv_has ls 6 [(0, .ref q0), (1, .int x), (2, .int y), (3, .int z)] := hl
  refine lv_aload_n S.1 S.2.1 dL_set_0 rfl (lv_at hl 0 rfl) ?_
  refine lv_iload_n S.1 S.2.1 dL_set_1 rfl (lv_at hl 1 rfl) ?_
  refine lv_iload_n S.1 S.2.1 dL_set_2 rfl (lv_at hl 2 rfl) ?_
  refine lv_iload_n S.1 S.2.1 dL_set_3 rfl (lv_at hl 3 rfl) ?_
  refine mi_cTh (P := P) (Ex := mi_IA) (mi_runVX (P := P) (As := [.int x, .int y, .int z]) (rest := []) S E hS hW q0 hM (hrc _ _ E hW) mw_199 mw_196 mw_197 mw_198 mw_18 ⟨by decide, by decide, by decide +kernel⟩ ⟨rfl, rfl, by show d + 1 ≤ 9; omega, by show 8 + (4 + 11) + 37 * d ≤ 37 * 9; omega⟩ (n := 3) rfl hl.1 rfl (Nat.le_of_ble_eq_true rfl) dL_set_4 ⟨by show 0 + 1 ≤ 1; omega, by show 0 + 6 ≤ 6; omega⟩) hS (fun ce q9 H locs hW hS h1 h2 h3 => ?_)
  refine vx_catch (name := mi_IA) S.2.2.2.1 [⟨0, 9, 12, 14⟩] ⟨0, 9, 17, 16⟩ [⟨0, 9, 22, 18⟩] ht (List.forall_mem_cons.mpr ⟨Or.inr ⟨by decide, mi_IO, (S.2.2.2.2 _ (List.mem_cons_of_mem _ mw_193)), E.2.2.2.1 (mi_IA, mi_IO) (by decide)⟩, fun _ h => absurd h List.not_mem_nil⟩) rfl (by decide) (S.2.2.2.2 _ (List.mem_cons_of_mem _ mw_194)) (va_Nw.use rfl (E.2.2.1 (mi_IA, mi_IA) (by decide))) h1 h2 h3 ?_
  refine lv_astore (lv' := [(5, .ref q9), (0, .ref q0), (1, .int x), (2, .int y), (3, .int z)]) S.1 S.2.1 dL_set_17 hl (by decide) rfl (fun ls hl => ?_)
  refine lv_bipush (v := (-72)) S.1 S.2.1 dL_set_19 (by decide) ?_
  exact mi_retMi S hr hk hS dL_set_21 (by show 0 + 1 ≤ 1; omega) (by show 0 + 6 ≤ 6; omega) ⟨rfl, hW⟩
set_option maxHeartbeats 4000000 in
set_option maxRecDepth 100000 in
theorem c_LraiseM (l : Launch) (D : va_G) (A : Nat → Prop) {P : Heap → Prop} {q0 : Nat} (hrc : ∀ (s : State) (H : Heap), mi_E D A s → P H → ∃ cell : Cell, H[q0]? = some cell ∧ cell.vm.isStatics = false ∧ s.vm.findClass "Voxelmint" = some cell.cls) {x y z : Int32} {a : Int32} {d mc ms : Nat} {P1 : Heap → Prop} (hd : d ≤ 8) (hM : mi_Mi l yX4_raise (Cond.code yX4_raise cX4_raise 5 (some Jvm.ClassFile.FieldType.int)) (mi_rq d mc ms) D A P [.ref q0, .int x, .int y, .int z] mc ms (fun r H => r = a ∧ P1 H)) : mi_Mi l yL_raise (Cond.codeWith yL_raise cL_raise 6 (some Jvm.ClassFile.FieldType.int) [(0, 9, 12, 14), (0, 9, 17, 16), (0, 9, 22, 18)]) (mi_rq 9 mc ms) D A P [.ref q0, .int x, .int y, .int z] mc ms (fun r H => r = a ∧ P1 H) := by
  refine mi_startH (cc := cL_raise) (nL := 6) (ret := (some Jvm.ClassFile.FieldType.int)) (hh := [(0, 9, 12, 14), (0, 9, 17, 16), (0, 9, 22, 18)]) rfl (by decide) (Nat.le_of_ble_eq_true rfl) ?_
  intro p e s m below meth c ls S E hW hS hr hk ht hl
  have S : CallFix p m c cL_raise 6 s _ ((Cond.codeWith yL_raise cL_raise 6 (some Jvm.ClassFile.FieldType.int) [(0, 9, 12, 14), (0, 9, 17, 16), (0, 9, 22, 18)]) :: mi_G) RL := S
  have hl : lv_has ls 6 [(0, .ref q0), (1, .int x), (2, .int y), (3, .int z)] := hl
  refine lv_aload_n S.1 S.2.1 dL_raise_0 rfl (lv_at hl 0 rfl) ?_
  refine lv_iload_n S.1 S.2.1 dL_raise_1 rfl (lv_at hl 1 rfl) ?_
  refine lv_iload_n S.1 S.2.1 dL_raise_2 rfl (lv_at hl 2 rfl) ?_
  refine lv_iload_n S.1 S.2.1 dL_raise_3 rfl (lv_at hl 3 rfl) ?_
  refine mi_cMi (mi_runV (P := P) (As := [.int x, .int y, .int z]) (rest := []) S E hS hW q0 hM (hrc _ _ E hW) mw_362 mw_359 mw_360 mw_361 mw_18 ⟨by decide, by decide, by decide +kernel⟩ ⟨rfl, rfl, by show d + 1 ≤ 9; omega, by show 8 + (5 + 11) + 37 * d ≤ 37 * 9; omega⟩ (n := 3) rfl hl.1 rfl (Nat.le_of_ble_eq_true rfl) dL_raise_4 ⟨by show 0 + mc ≤ mc; omega, by show 0 + ms ≤ ms; omega⟩) hS (fun r9 H locs hp9 hS hz9 => ?_)
  obtain ⟨rfl, hW⟩ := hp9
  refine lv_istore (lv' := [(4, .int r9), (0, .ref q0), (1, .int x), (2, .int y), (3, .int z)]) S.1 S.2.1 dL_raise_7 hl (by decide) rfl (fun ls hl => ?_)
  refine lv_goto (tgt := 27) S.1 S.2.1 dL_raise_9 (by decide) ?_
  refine lv_iload S.1 S.2.1 dL_raise_27 (lv_at hl 0 rfl) ?_
  exact mi_retMi S hr hk hS dL_raise_29 (by show 0 + mc ≤ mc; omega) (by show 0 + ms ≤ ms; omega) ⟨rfl, hW⟩
set_option maxHeartbeats 4000000 in
set_option maxRecDepth 100000 in
theorem c_LraiseTIO (l : Launch) (D : va_G) (A : Nat → Prop) {P : Heap → Prop} {q0 : Nat} (hrc : ∀ (s : State) (H : Heap), mi_E D A s → P H → ∃ cell : Cell, H[q0]? = some cell ∧ cell.vm.isStatics = false ∧ s.vm.findClass "Voxelmint" = some cell.cls) {x y z : Int32} {d : Nat} (hd : d ≤ 8) (hM : mi_Th l yX4_raise (Cond.code yX4_raise cX4_raise 5 (some Jvm.ClassFile.FieldType.int)) (mi_rq d 1 6) D A P [.ref q0, .int x, .int y, .int z] mi_IO 1 6) : mi_Mi l yL_raise (Cond.codeWith yL_raise cL_raise 6 (some Jvm.ClassFile.FieldType.int) [(0, 9, 12, 14), (0, 9, 17, 16), (0, 9, 22, 18)]) (mi_rq 9 1 6) D A P [.ref q0, .int x, .int y, .int z] 1 6 (fun r H => r = -71 ∧ P H) := by
  refine mi_startH (cc := cL_raise) (nL := 6) (ret := (some Jvm.ClassFile.FieldType.int)) (hh := [(0, 9, 12, 14), (0, 9, 17, 16), (0, 9, 22, 18)]) rfl (by decide) (Nat.le_of_ble_eq_true rfl) ?_
  intro p e s m below meth c ls S E hW hS hr hk ht hl
  have S : CallFix p m c cL_raise 6 s _ ((Cond.codeWith yL_raise cL_raise 6 (some Jvm.ClassFile.FieldType.int) [(0, 9, 12, 14), (0, 9, 17, 16), (0, 9, 22, 18)]) :: mi_G) RL := S
  have hl : lv_has ls 6 [(0, .ref q0), (1, .int x), (2, .int y), (3, .int z)] := hl
  refine lv_aload_n S.1 S.2.1 dL_raise_0 rfl (lv_at hl 0 rfl) ?_
  refine lv_iload_n S.1 S.2.1 dL_raise_1 rfl (lv_at hl 1 rfl) ?_
  refine lv_iload_n S.1 S.2.1 dL_raise_2 rfl (lv_at hl 2 rfl) ?_
  refine lv_iload_n S.1 S.2.1 dL_raise_3 rfl (lv_at hl 3 rfl) ?_
  refine mi_cTh (P := P) (Ex := mi_IO) (mi_runVX (P := P) (As := [.int x, .int y, .int z]) (rest := []) S E hS hW q0 hM (hrc _ _ E hW) mw_362 mw_359 mw_360 mw_361 mw_18 ⟨by decide, by decide, by decide +kernel⟩ ⟨rfl, rfl, by show d + 1 ≤ 9; omega, by show 8 + (5 + 11) + 37 * d ≤ 37 * 9; omega⟩ (n := 3) rfl hl.1 rfl (Nat.le_of_ble_eq_true rfl) dL_raise_4 ⟨by show 0 + 1 ≤ 1; omega, by show 0 + 6 ≤ 6; omega⟩) hS (fun ce q9 H locs hW hS h1 h2 h3 => ?_)
  refine vx_catch (name := mi_IO) S.2.2.2.1 [] ⟨0, 9, 12, 14⟩ [⟨0, 9, 17, 16⟩, ⟨0, 9, 22, 18⟩] ht (fun z hz => absurd hz List.not_mem_nil) rfl (by decide) (S.2.2.2.2 _ (List.mem_cons_of_mem _ mw_193)) (va_Nw.use rfl (E.2.2.1 (mi_IO, mi_IO) (by decide))) h1 h2 h3 ?_
  refine lv_astore (lv' := [(5, .ref q9), (0, .ref q0), (1, .int x), (2, .int y), (3, .int z)]) S.1 S.2.1 dL_raise_12 hl (by decide) rfl (fun ls hl => ?_)
  refine lv_bipush (v := (-71)) S.1 S.2.1 dL_raise_14 (by decide) ?_
  exact mi_retMi S hr hk hS dL_raise_16 (by show 0 + 1 ≤ 1; omega) (by show 0 + 6 ≤ 6; omega) ⟨rfl, hW⟩
set_option maxHeartbeats 4000000 in
set_option maxRecDepth 100000 in
theorem c_LraiseTIA (l : Launch) (D : va_G) (A : Nat → Prop) {P : Heap → Prop} {q0 : Nat} (hrc : ∀ (s : State) (H : Heap), mi_E D A s → P H → ∃ cell : Cell, H[q0]? = some cell ∧ cell.vm.isStatics = false ∧ s.vm.findClass "Voxelmint" = some cell.cls) {x y z : Int32} {d : Nat} (hd : d ≤ 8) (hM : mi_Th l yX4_raise (Cond.code yX4_raise cX4_raise 5 (some Jvm.ClassFile.FieldType.int)) (mi_rq d 1 6) D A P [.ref q0, .int x, .int y, .int z] mi_IA 1 6) : mi_Mi l yL_raise (Cond.codeWith yL_raise cL_raise 6 (some Jvm.ClassFile.FieldType.int) [(0, 9, 12, 14), (0, 9, 17, 16), (0, 9, 22, 18)]) (mi_rq 9 1 6) D A P [.ref q0, .int x, .int y, .int z] 1 6 (fun r H => r = -72 ∧ P H) := by
  refine mi_startH (cc := cL_raise) (nL := 6) (ret := (some Jvm.ClassFile.FieldType.int)) (hh := [(0, 9, 12, 14), (0, 9, 17, 16), (0, 9, 22, 18)]) rfl (by decide) (Nat.le_of_ble_eq_true rfl) ?_
  intro p e s m below meth c ls S E hW hS hr hk ht hl
  have S : CallFix p m c cL_raise 6 s _ ((Cond.codeWith yL_raise cL_raise 6 (some Jvm.ClassFile.FieldType.int) [(0, 9, 12, 14), (0, 9, 17, 16), (0, 9, 22, 18)]) :: mi_G) RL := S
  have hl : lv_has ls 6 [(0, .ref q0), (1, .int x), (2, .int y), (3, .int z)] := hl
  refine lv_aload_n S.1 S.2.1 dL_raise_0 rfl (lv_at hl 0 rfl) ?_
  refine lv_iload_n S.1 S.2.1 dL_raise_1 rfl (lv_at hl 1 rfl) ?_
  refine lv_iload_n S.1 S.2.1 dL_raise_2 rfl (lv_at hl 2 rfl) ?_
  refine lv_iload_n S.1 S.2.1 dL_raise_3 rfl (lv_at hl 3 rfl) ?_
  refine mi_cTh (P := P) (Ex := mi_IA) (mi_runVX (P := P) (As := [.int x, .int y, .int z]) (rest := []) S E hS hW q0 hM (hrc _ _ E hW) mw_362 mw_359 mw_360 mw_361 mw_18 ⟨by decide, by decide, by decide +kernel⟩ ⟨rfl, rfl, by show d + 1 ≤ 9; omega, by show 8 + (5 + 11) + 37 * d ≤ 37 * 9; omega⟩ (n := 3) rfl hl.1 rfl (Nat.le_of_ble_eq_true rfl) dL_raise_4 ⟨by show 0 + 1 ≤ 1; omega, by show 0 + 6 ≤ 6; omega⟩) hS (fun ce q9 H locs hW hS h1 h2 h3 => ?_)
  refine vx_catch (name := mi_IA) S.2.2.2.1 [⟨0, 9, 12, 14⟩] ⟨0, 9, 17, 16⟩ [⟨0, 9, 22, 18⟩] ht (List.forall_mem_cons.mpr ⟨Or.inr ⟨by decide, mi_IO, (S.2.2.2.2 _ (List.mem_cons_of_mem _ mw_193)), E.2.2.2.1 (mi_IA, mi_IO) (by decide)⟩, fun _ h => absurd h List.not_mem_nil⟩) rfl (by decide) (S.2.2.2.2 _ (List.mem_cons_of_mem _ mw_194)) (va_Nw.use rfl (E.2.2.1 (mi_IA, mi_IA) (by decide))) h1 h2 h3 ?_
  refine lv_astore (lv' := [(5, .ref q9), (0, .ref q0), (1, .int x), (2, .int y), (3, .int z)]) S.1 S.2.1 dL_raise_17 hl (by decide) rfl (fun ls hl => ?_)
  refine lv_bipush (v := (-72)) S.1 S.2.1 dL_raise_19 (by decide) ?_
  exact mi_retMi S hr hk hS dL_raise_21 (by show 0 + 1 ≤ 1; omega) (by show 0 + 6 ≤ 6; omega) ⟨rfl, hW⟩
set_option maxHeartbeats 4000000 in
set_option maxRecDepth 100000 in
theorem c_LlayerM (l : Launch) (D : va_G) (A : Nat → Prop) {P : Heap → Prop} {q0 : Nat} (hrc : ∀ (s : State) (H : Heap), mi_E D A s → P H → ∃ cell : Cell, H[q0]? = some cell ∧ cell.vm.isStatics = false ∧ s.vm.findClass "Voxelmint" = some cell.cls) {x y : Int32} {a : Int32} {d mc ms : Nat} {P1 : Heap → Prop} (hd : d ≤ 8) (hM : mi_Mi l yX4_layer (Cond.code yX4_layer cX4_layer 4 (some Jvm.ClassFile.FieldType.int)) (mi_rq d mc ms) D A P [.ref q0, .int x, .int y] mc ms (fun r H => r = a ∧ P1 H)) : mi_Mi l yL_layer (Cond.codeWith yL_layer cL_layer 5 (some Jvm.ClassFile.FieldType.int) [(0, 7, 10, 14), (0, 7, 15, 16), (0, 7, 20, 18)]) (mi_rq 9 mc ms) D A P [.ref q0, .int x, .int y] mc ms (fun r H => r = a ∧ P1 H) := by
  refine mi_startH (cc := cL_layer) (nL := 5) (ret := (some Jvm.ClassFile.FieldType.int)) (hh := [(0, 7, 10, 14), (0, 7, 15, 16), (0, 7, 20, 18)]) rfl (by decide) (Nat.le_of_ble_eq_true rfl) ?_
  intro p e s m below meth c ls S E hW hS hr hk ht hl
  have S : CallFix p m c cL_layer 5 s _ ((Cond.codeWith yL_layer cL_layer 5 (some Jvm.ClassFile.FieldType.int) [(0, 7, 10, 14), (0, 7, 15, 16), (0, 7, 20, 18)]) :: mi_G) RL := S
  have hl : lv_has ls 5 [(0, .ref q0), (1, .int x), (2, .int y)] := hl
  refine lv_aload_n S.1 S.2.1 dL_layer_0 rfl (lv_at hl 0 rfl) ?_
  refine lv_iload_n S.1 S.2.1 dL_layer_1 rfl (lv_at hl 1 rfl) ?_
  refine lv_iload_n S.1 S.2.1 dL_layer_2 rfl (lv_at hl 2 rfl) ?_
  refine mi_cMi (mi_runV (P := P) (As := [.int x, .int y]) (rest := []) S E hS hW q0 hM (hrc _ _ E hW) mw_376 mw_373 mw_374 mw_375 mw_18 ⟨by decide, by decide, by decide +kernel⟩ ⟨rfl, rfl, by show d + 1 ≤ 9; omega, by show 8 + (4 + 11) + 37 * d ≤ 37 * 9; omega⟩ (n := 2) rfl hl.1 rfl (Nat.le_of_ble_eq_true rfl) dL_layer_3 ⟨by show 0 + mc ≤ mc; omega, by show 0 + ms ≤ ms; omega⟩) hS (fun r9 H locs hp9 hS hz9 => ?_)
  obtain ⟨rfl, hW⟩ := hp9
  refine lv_istore_n (lv' := [(3, .int r9), (0, .ref q0), (1, .int x), (2, .int y)]) S.1 S.2.1 dL_layer_6 rfl hl (by decide) rfl (fun ls hl => ?_)
  refine lv_goto (tgt := 25) S.1 S.2.1 dL_layer_7 (by decide) ?_
  refine lv_iload_n S.1 S.2.1 dL_layer_25 rfl (lv_at hl 0 rfl) ?_
  exact mi_retMi S hr hk hS dL_layer_26 (by show 0 + mc ≤ mc; omega) (by show 0 + ms ≤ ms; omega) ⟨rfl, hW⟩
set_option maxHeartbeats 4000000 in
set_option maxRecDepth 100000 in
theorem c_LlayerTIO (l : Launch) (D : va_G) (A : Nat → Prop) {P : Heap → Prop} {q0 : Nat} (hrc : ∀ (s : State) (H : Heap), mi_E D A s → P H → ∃ cell : Cell, H[q0]? = some cell ∧ cell.vm.isStatics = false ∧ s.vm.findClass "Voxelmint" = some cell.cls) {x y : Int32} {d : Nat} (hd : d ≤ 8) (hM : mi_Th l yX4_layer (Cond.code yX4_layer cX4_layer 4 (some Jvm.ClassFile.FieldType.int)) (mi_rq d 1 6) D A P [.ref q0, .int x, .int y] mi_IO 1 6) : mi_Mi l yL_layer (Cond.codeWith yL_layer cL_layer 5 (some Jvm.ClassFile.FieldType.int) [(0, 7, 10, 14), (0, 7, 15, 16), (0, 7, 20, 18)]) (mi_rq 9 1 6) D A P [.ref q0, .int x, .int y] 1 6 (fun r H => r = -71 ∧ P H) := by
  refine mi_startH (cc := cL_layer) (nL := 5) (ret := (some Jvm.ClassFile.FieldType.int)) (hh := [(0, 7, 10, 14), (0, 7, 15, 16), (0, 7, 20, 18)]) rfl (by decide) (Nat.le_of_ble_eq_true rfl) ?_
  intro p e s m below meth c ls S E hW hS hr hk ht hl
  have S : CallFix p m c cL_layer 5 s _ ((Cond.codeWith yL_layer cL_layer 5 (some Jvm.ClassFile.FieldType.int) [(0, 7, 10, 14), (0, 7, 15, 16), (0, 7, 20, 18)]) :: mi_G) RL := S
  have hl : lv_has ls 5 [(0, .ref q0), (1, .int x), (2, .int y)] := hl
  refine lv_aload_n S.1 S.2.1 dL_layer_0 rfl (lv_at hl 0 rfl) ?_
  refine lv_iload_n S.1 S.2.1 dL_layer_1 rfl (lv_at hl 1 rfl) ?_
  refine lv_iload_n S.1 S.2.1 dL_layer_2 rfl (lv_at hl 2 rfl) ?_
  refine mi_cTh (P := P) (Ex := mi_IO) (mi_runVX (P := P) (As := [.int x, .int y]) (rest := []) S E hS hW q0 hM (hrc _ _ E hW) mw_376 mw_373 mw_374 mw_375 mw_18 ⟨by decide, by decide, by decide +kernel⟩ ⟨rfl, rfl, by show d + 1 ≤ 9; omega, by show 8 + (4 + 11) + 37 * d ≤ 37 * 9; omega⟩ (n := 2) rfl hl.1 rfl (Nat.le_of_ble_eq_true rfl) dL_layer_3 ⟨by show 0 + 1 ≤ 1; omega, by show 0 + 6 ≤ 6; omega⟩) hS (fun ce q9 H locs hW hS h1 h2 h3 => ?_)
  refine vx_catch (name := mi_IO) S.2.2.2.1 [] ⟨0, 7, 10, 14⟩ [⟨0, 7, 15, 16⟩, ⟨0, 7, 20, 18⟩] ht (fun z hz => absurd hz List.not_mem_nil) rfl (by decide) (S.2.2.2.2 _ (List.mem_cons_of_mem _ mw_193)) (va_Nw.use rfl (E.2.2.1 (mi_IO, mi_IO) (by decide))) h1 h2 h3 ?_
  refine lv_astore (lv' := [(4, .ref q9), (0, .ref q0), (1, .int x), (2, .int y)]) S.1 S.2.1 dL_layer_10 hl (by decide) rfl (fun ls hl => ?_)
  refine lv_bipush (v := (-71)) S.1 S.2.1 dL_layer_12 (by decide) ?_
  exact mi_retMi S hr hk hS dL_layer_14 (by show 0 + 1 ≤ 1; omega) (by show 0 + 6 ≤ 6; omega) ⟨rfl, hW⟩
set_option maxHeartbeats 4000000 in
set_option maxRecDepth 100000 in
theorem c_LlayerTIA (l : Launch) (D : va_G) (A : Nat → Prop) {P : Heap → Prop} {q0 : Nat} (hrc : ∀ (s : State) (H : Heap), mi_E D A s → P H → ∃ cell : Cell, H[q0]? = some cell ∧ cell.vm.isStatics = false ∧ s.vm.findClass "Voxelmint" = some cell.cls) {x y : Int32} {d : Nat} (hd : d ≤ 8) (hM : mi_Th l yX4_layer (Cond.code yX4_layer cX4_layer 4 (some Jvm.ClassFile.FieldType.int)) (mi_rq d 1 6) D A P [.ref q0, .int x, .int y] mi_IA 1 6) : mi_Mi l yL_layer (Cond.codeWith yL_layer cL_layer 5 (some Jvm.ClassFile.FieldType.int) [(0, 7, 10, 14), (0, 7, 15, 16), (0, 7, 20, 18)]) (mi_rq 9 1 6) D A P [.ref q0, .int x, .int y] 1 6 (fun r H => r = -72 ∧ P H) := by
  refine mi_startH (cc := cL_layer) (nL := 5) (ret := (some Jvm.ClassFile.FieldType.int)) (hh := [(0, 7, 10, 14), (0, 7, 15, 16), (0, 7, 20, 18)]) rfl (by decide) (Nat.le_of_ble_eq_true rfl) ?_
  intro p e s m below meth c ls S E hW hS hr hk ht hl
  have S : CallFix p m c cL_layer 5 s _ ((Cond.codeWith yL_layer cL_layer 5 (some Jvm.ClassFile.FieldType.int) [(0, 7, 10, 14), (0, 7, 15, 16), (0, 7, 20, 18)]) :: mi_G) RL := S
  have hl : lv_has ls 5 [(0, .ref q0), (1, .int x), (2, .int y)] := hl
  refine lv_aload_n S.1 S.2.1 dL_layer_0 rfl (lv_at hl 0 rfl) ?_
  refine lv_iload_n S.1 S.2.1 dL_layer_1 rfl (lv_at hl 1 rfl) ?_
  refine lv_iload_n S.1 S.2.1 dL_layer_2 rfl (lv_at hl 2 rfl) ?_
  refine mi_cTh (P := P) (Ex := mi_IA) (mi_runVX (P := P) (As := [.int x, .int y]) (rest := []) S E hS hW q0 hM (hrc _ _ E hW) mw_376 mw_373 mw_374 mw_375 mw_18 ⟨by decide, by decide, by decide +kernel⟩ ⟨rfl, rfl, by show d + 1 ≤ 9; omega, by show 8 + (4 + 11) + 37 * d ≤ 37 * 9; omega⟩ (n := 2) rfl hl.1 rfl (Nat.le_of_ble_eq_true rfl) dL_layer_3 ⟨by show 0 + 1 ≤ 1; omega, by show 0 + 6 ≤ 6; omega⟩) hS (fun ce q9 H locs hW hS h1 h2 h3 => ?_)
  refine vx_catch (name := mi_IA) S.2.2.2.1 [⟨0, 7, 10, 14⟩] ⟨0, 7, 15, 16⟩ [⟨0, 7, 20, 18⟩] ht (List.forall_mem_cons.mpr ⟨Or.inr ⟨by decide, mi_IO, (S.2.2.2.2 _ (List.mem_cons_of_mem _ mw_193)), E.2.2.2.1 (mi_IA, mi_IO) (by decide)⟩, fun _ h => absurd h List.not_mem_nil⟩) rfl (by decide) (S.2.2.2.2 _ (List.mem_cons_of_mem _ mw_194)) (va_Nw.use rfl (E.2.2.1 (mi_IA, mi_IA) (by decide))) h1 h2 h3 ?_
  refine lv_astore (lv' := [(4, .ref q9), (0, .ref q0), (1, .int x), (2, .int y)]) S.1 S.2.1 dL_layer_15 hl (by decide) rfl (fun ls hl => ?_)
  refine lv_bipush (v := (-72)) S.1 S.2.1 dL_layer_17 (by decide) ?_
  exact mi_retMi S hr hk hS dL_layer_19 (by show 0 + 1 ≤ 1; omega) (by show 0 + 6 ≤ 6; omega) ⟨rfl, hW⟩
set_option maxHeartbeats 4000000 in
set_option maxRecDepth 100000 in
theorem c_LkindR (l : Launch) (D : va_G) (A : Nat → Prop) {P : Heap → Prop} {q0 : Nat} (hrc : ∀ (s : State) (H : Heap), mi_E D A s → P H → ∃ cell : Cell, H[q0]? = some cell ∧ cell.vm.isStatics = false ∧ s.vm.findClass "Voxelmint" = some cell.cls) {x y : Int32} {a : Int32} {d : Nat} (hd : d ≤ 8) (hM : mi_Rd l yX4_kind (Cond.code yX4_kind cX4_kind 3 (some Jvm.ClassFile.FieldType.int)) (mi_rm d) D A P [.ref q0, .int x, .int y] (fun r => r = a)) : mi_Rd l yL_kind (Cond.codeWith yL_kind cL_kind 5 (some Jvm.ClassFile.FieldType.int) [(0, 7, 10, 14)]) (mi_rm 9) D A P [.ref q0, .int x, .int y] (fun r => r = a) := by
  refine mi_startH (cc := cL_kind) (nL := 5) (ret := (some Jvm.ClassFile.FieldType.int)) (hh := [(0, 7, 10, 14)]) rfl (by decide) (Nat.le_of_ble_eq_true rfl) ?_
  intro p e s m below meth c ls S E hW hS hr hk ht hl
  have S : CallFix p m c cL_kind 5 s _ ((Cond.codeWith yL_kind cL_kind 5 (some Jvm.ClassFile.FieldType.int) [(0, 7, 10, 14)]) :: mi_G) RL := S
  have hl : lv_has ls 5 [(0, .ref q0), (1, .int x), (2, .int y)] := hl
  refine lv_aload_n S.1 S.2.1 dL_kind_0 rfl (lv_at hl 0 rfl) ?_
  refine lv_iload_n S.1 S.2.1 dL_kind_1 rfl (lv_at hl 1 rfl) ?_
  refine lv_iload_n S.1 S.2.1 dL_kind_2 rfl (lv_at hl 2 rfl) ?_
  refine mi_cR (mi_runV (P := P) (As := [.int x, .int y]) (rest := []) S E hS hW q0 hM (hrc _ _ E hW) mw_587 mw_584 mw_585 mw_586 mw_18 ⟨by decide, by decide, by decide +kernel⟩ ⟨rfl, rfl, by show d + 1 ≤ 9; omega, by show 8 + (3 + 11) + 37 * d ≤ 37 * 9; omega⟩ (n := 2) rfl hl.1 rfl (Nat.le_of_ble_eq_true rfl) dL_kind_3 ⟨by show 0 + 0 ≤ 0; omega, by show 0 + 0 ≤ 0; omega⟩) (fun r9 e9 => ?_)
  subst e9
  refine lv_istore_n (lv' := [(3, .int r9), (0, .ref q0), (1, .int x), (2, .int y)]) S.1 S.2.1 dL_kind_6 rfl hl (by decide) rfl (fun ls hl => ?_)
  refine lv_goto (tgt := 15) S.1 S.2.1 dL_kind_7 (by decide) ?_
  refine lv_iload_n S.1 S.2.1 dL_kind_15 rfl (lv_at hl 0 rfl) ?_
  exact mi_retR S hr hk dL_kind_16 rfl
set_option maxHeartbeats 4000000 in
set_option maxRecDepth 100000 in
theorem c_LkindTIO (l : Launch) (D : va_G) (A : Nat → Prop) {P : Heap → Prop} {q0 : Nat} (hrc : ∀ (s : State) (H : Heap), mi_E D A s → P H → ∃ cell : Cell, H[q0]? = some cell ∧ cell.vm.isStatics = false ∧ s.vm.findClass "Voxelmint" = some cell.cls) {x y : Int32} {d : Nat} (hd : d ≤ 8) (hM : mi_Th l yX4_kind (Cond.code yX4_kind cX4_kind 3 (some Jvm.ClassFile.FieldType.int)) (mi_rq d 1 6) D A P [.ref q0, .int x, .int y] mi_IO 1 6) : mi_Mi l yL_kind (Cond.codeWith yL_kind cL_kind 5 (some Jvm.ClassFile.FieldType.int) [(0, 7, 10, 14)]) (mi_rq 9 1 6) D A P [.ref q0, .int x, .int y] 1 6 (fun r H => r = -71 ∧ P H) := by
  refine mi_startH (cc := cL_kind) (nL := 5) (ret := (some Jvm.ClassFile.FieldType.int)) (hh := [(0, 7, 10, 14)]) rfl (by decide) (Nat.le_of_ble_eq_true rfl) ?_
  intro p e s m below meth c ls S E hW hS hr hk ht hl
  have S : CallFix p m c cL_kind 5 s _ ((Cond.codeWith yL_kind cL_kind 5 (some Jvm.ClassFile.FieldType.int) [(0, 7, 10, 14)]) :: mi_G) RL := S
  have hl : lv_has ls 5 [(0, .ref q0), (1, .int x), (2, .int y)] := hl
  refine lv_aload_n S.1 S.2.1 dL_kind_0 rfl (lv_at hl 0 rfl) ?_
  refine lv_iload_n S.1 S.2.1 dL_kind_1 rfl (lv_at hl 1 rfl) ?_
  refine lv_iload_n S.1 S.2.1 dL_kind_2 rfl (lv_at hl 2 rfl) ?_
  refine mi_cTh (P := P) (Ex := mi_IO) (mi_runVX (P := P) (As := [.int x, .int y]) (rest := []) S E hS hW q0 hM (hrc _ _ E hW) mw_587 mw_584 mw_585 mw_586 mw_18 ⟨by decide, by decide, by decide +kernel⟩ ⟨rfl, rfl, by show d + 1 ≤ 9; omega, by show 8 + (3 + 11) + 37 * d ≤ 37 * 9; omega⟩ (n := 2) rfl hl.1 rfl (Nat.le_of_ble_eq_true rfl) dL_kind_3 ⟨by show 0 + 1 ≤ 1; omega, by show 0 + 6 ≤ 6; omega⟩) hS (fun ce q9 H locs hW hS h1 h2 h3 => ?_)
  refine vx_catch (name := mi_IO) S.2.2.2.1 [] ⟨0, 7, 10, 14⟩ [] ht (fun z hz => absurd hz List.not_mem_nil) rfl (by decide) (S.2.2.2.2 _ (List.mem_cons_of_mem _ mw_193)) (va_Nw.use rfl (E.2.2.1 (mi_IO, mi_IO) (by decide))) h1 h2 h3 ?_
  refine lv_astore (lv' := [(4, .ref q9), (0, .ref q0), (1, .int x), (2, .int y)]) S.1 S.2.1 dL_kind_10 hl (by decide) rfl (fun ls hl => ?_)
  refine lv_bipush (v := (-71)) S.1 S.2.1 dL_kind_12 (by decide) ?_
  exact mi_retMi S hr hk hS dL_kind_14 (by show 0 + 1 ≤ 1; omega) (by show 0 + 6 ≤ 6; omega) ⟨rfl, hW⟩
set_option maxHeartbeats 4000000 in
set_option maxRecDepth 100000 in
theorem c_LrunLengthR (l : Launch) (D : va_G) (A : Nat → Prop) {P : Heap → Prop} {q0 : Nat} (hrc : ∀ (s : State) (H : Heap), mi_E D A s → P H → ∃ cell : Cell, H[q0]? = some cell ∧ cell.vm.isStatics = false ∧ s.vm.findClass "Voxelmint" = some cell.cls) {x y : Int32} {a : Int32} {d : Nat} (hd : d ≤ 8) (hM : mi_Rd l yX4_runLength (Cond.code yX4_runLength cX4_runLength 3 (some Jvm.ClassFile.FieldType.int)) (mi_rm d) D A P [.ref q0, .int x, .int y] (fun r => r = a)) : mi_Rd l yL_runLength (Cond.codeWith yL_runLength cL_runLength 5 (some Jvm.ClassFile.FieldType.int) [(0, 7, 10, 14)]) (mi_rm 9) D A P [.ref q0, .int x, .int y] (fun r => r = a) := by
  refine mi_startH (cc := cL_runLength) (nL := 5) (ret := (some Jvm.ClassFile.FieldType.int)) (hh := [(0, 7, 10, 14)]) rfl (by decide) (Nat.le_of_ble_eq_true rfl) ?_
  intro p e s m below meth c ls S E hW hS hr hk ht hl
  have S : CallFix p m c cL_runLength 5 s _ ((Cond.codeWith yL_runLength cL_runLength 5 (some Jvm.ClassFile.FieldType.int) [(0, 7, 10, 14)]) :: mi_G) RL := S
  have hl : lv_has ls 5 [(0, .ref q0), (1, .int x), (2, .int y)] := hl
  refine lv_aload_n S.1 S.2.1 dL_runLength_0 rfl (lv_at hl 0 rfl) ?_
  refine lv_iload_n S.1 S.2.1 dL_runLength_1 rfl (lv_at hl 1 rfl) ?_
  refine lv_iload_n S.1 S.2.1 dL_runLength_2 rfl (lv_at hl 2 rfl) ?_
  refine mi_cR (mi_runV (P := P) (As := [.int x, .int y]) (rest := []) S E hS hW q0 hM (hrc _ _ E hW) mw_595 mw_592 mw_593 mw_594 mw_18 ⟨by decide, by decide, by decide +kernel⟩ ⟨rfl, rfl, by show d + 1 ≤ 9; omega, by show 8 + (3 + 11) + 37 * d ≤ 37 * 9; omega⟩ (n := 2) rfl hl.1 rfl (Nat.le_of_ble_eq_true rfl) dL_runLength_3 ⟨by show 0 + 0 ≤ 0; omega, by show 0 + 0 ≤ 0; omega⟩) (fun r9 e9 => ?_)
  subst e9
  refine lv_istore_n (lv' := [(3, .int r9), (0, .ref q0), (1, .int x), (2, .int y)]) S.1 S.2.1 dL_runLength_6 rfl hl (by decide) rfl (fun ls hl => ?_)
  refine lv_goto (tgt := 15) S.1 S.2.1 dL_runLength_7 (by decide) ?_
  refine lv_iload_n S.1 S.2.1 dL_runLength_15 rfl (lv_at hl 0 rfl) ?_
  exact mi_retR S hr hk dL_runLength_16 rfl
set_option maxHeartbeats 4000000 in
set_option maxRecDepth 100000 in
theorem c_LrunLengthTIO (l : Launch) (D : va_G) (A : Nat → Prop) {P : Heap → Prop} {q0 : Nat} (hrc : ∀ (s : State) (H : Heap), mi_E D A s → P H → ∃ cell : Cell, H[q0]? = some cell ∧ cell.vm.isStatics = false ∧ s.vm.findClass "Voxelmint" = some cell.cls) {x y : Int32} {d : Nat} (hd : d ≤ 8) (hM : mi_Th l yX4_runLength (Cond.code yX4_runLength cX4_runLength 3 (some Jvm.ClassFile.FieldType.int)) (mi_rq d 1 6) D A P [.ref q0, .int x, .int y] mi_IO 1 6) : mi_Mi l yL_runLength (Cond.codeWith yL_runLength cL_runLength 5 (some Jvm.ClassFile.FieldType.int) [(0, 7, 10, 14)]) (mi_rq 9 1 6) D A P [.ref q0, .int x, .int y] 1 6 (fun r H => r = -71 ∧ P H) := by
  refine mi_startH (cc := cL_runLength) (nL := 5) (ret := (some Jvm.ClassFile.FieldType.int)) (hh := [(0, 7, 10, 14)]) rfl (by decide) (Nat.le_of_ble_eq_true rfl) ?_
  intro p e s m below meth c ls S E hW hS hr hk ht hl
  have S : CallFix p m c cL_runLength 5 s _ ((Cond.codeWith yL_runLength cL_runLength 5 (some Jvm.ClassFile.FieldType.int) [(0, 7, 10, 14)]) :: mi_G) RL := S
  have hl : lv_has ls 5 [(0, .ref q0), (1, .int x), (2, .int y)] := hl
  refine lv_aload_n S.1 S.2.1 dL_runLength_0 rfl (lv_at hl 0 rfl) ?_
  refine lv_iload_n S.1 S.2.1 dL_runLength_1 rfl (lv_at hl 1 rfl) ?_
  refine lv_iload_n S.1 S.2.1 dL_runLength_2 rfl (lv_at hl 2 rfl) ?_
  refine mi_cTh (P := P) (Ex := mi_IO) (mi_runVX (P := P) (As := [.int x, .int y]) (rest := []) S E hS hW q0 hM (hrc _ _ E hW) mw_595 mw_592 mw_593 mw_594 mw_18 ⟨by decide, by decide, by decide +kernel⟩ ⟨rfl, rfl, by show d + 1 ≤ 9; omega, by show 8 + (3 + 11) + 37 * d ≤ 37 * 9; omega⟩ (n := 2) rfl hl.1 rfl (Nat.le_of_ble_eq_true rfl) dL_runLength_3 ⟨by show 0 + 1 ≤ 1; omega, by show 0 + 6 ≤ 6; omega⟩) hS (fun ce q9 H locs hW hS h1 h2 h3 => ?_)
  refine vx_catch (name := mi_IO) S.2.2.2.1 [] ⟨0, 7, 10, 14⟩ [] ht (fun z hz => absurd hz List.not_mem_nil) rfl (by decide) (S.2.2.2.2 _ (List.mem_cons_of_mem _ mw_193)) (va_Nw.use rfl (E.2.2.1 (mi_IO, mi_IO) (by decide))) h1 h2 h3 ?_
  refine lv_astore (lv' := [(4, .ref q9), (0, .ref q0), (1, .int x), (2, .int y)]) S.1 S.2.1 dL_runLength_10 hl (by decide) rfl (fun ls hl => ?_)
  refine lv_bipush (v := (-71)) S.1 S.2.1 dL_runLength_12 (by decide) ?_
  exact mi_retMi S hr hk hS dL_runLength_14 (by show 0 + 1 ≤ 1; omega) (by show 0 + 6 ≤ 6; omega) ⟨rfl, hW⟩
set_option maxHeartbeats 4000000 in
set_option maxRecDepth 100000 in
theorem c_LvisitM (l : Launch) (D : va_G) (A : Nat → Prop) {P : Heap → Prop} {q0 : Nat} (hrc : ∀ (s : State) (H : Heap), mi_E D A s → P H → ∃ cell : Cell, H[q0]? = some cell ∧ cell.vm.isStatics = false ∧ s.vm.findClass "Voxelmint" = some cell.cls) {x : Int32} {a : Int32} {d mc ms : Nat} {P1 : Heap → Prop} (hd : d ≤ 8) (hM : mi_Mi l yX4_visit (Cond.code yX4_visit cX4_visit 3 (some Jvm.ClassFile.FieldType.int)) (mi_rq d mc ms) D A P [.ref q0, .int x] mc ms (fun r H => r = a ∧ P1 H)) : mi_Mi l yL_visit (Cond.codeWith yL_visit cL_visit 4 (some Jvm.ClassFile.FieldType.int) [(0, 6, 9, 14)]) (mi_rq 9 mc ms) D A P [.ref q0, .int x] mc ms (fun r H => r = a ∧ P1 H) := by
  refine mi_startH (cc := cL_visit) (nL := 4) (ret := (some Jvm.ClassFile.FieldType.int)) (hh := [(0, 6, 9, 14)]) rfl (by decide) (Nat.le_of_ble_eq_true rfl) ?_
  intro p e s m below meth c ls S E hW hS hr hk ht hl
  have S : CallFix p m c cL_visit 4 s _ ((Cond.codeWith yL_visit cL_visit 4 (some Jvm.ClassFile.FieldType.int) [(0, 6, 9, 14)]) :: mi_G) RL := S
  have hl : lv_has ls 4 [(0, .ref q0), (1, .int x)] := hl
  refine lv_aload_n S.1 S.2.1 dL_visit_0 rfl (lv_at hl 0 rfl) ?_
  refine lv_iload_n S.1 S.2.1 dL_visit_1 rfl (lv_at hl 1 rfl) ?_
  refine mi_cMi (mi_runV (P := P) (As := [.int x]) (rest := []) S E hS hW q0 hM (hrc _ _ E hW) mw_383 mw_380 mw_381 mw_382 mw_18 ⟨by decide, by decide, by decide +kernel⟩ ⟨rfl, rfl, by show d + 1 ≤ 9; omega, by show 8 + (3 + 11) + 37 * d ≤ 37 * 9; omega⟩ (n := 1) rfl hl.1 rfl (Nat.le_of_ble_eq_true rfl) dL_visit_2 ⟨by show 0 + mc ≤ mc; omega, by show 0 + ms ≤ ms; omega⟩) hS (fun r9 H locs hp9 hS hz9 => ?_)
  obtain ⟨rfl, hW⟩ := hp9
  refine lv_istore_n (lv' := [(2, .int r9), (0, .ref q0), (1, .int x)]) S.1 S.2.1 dL_visit_5 rfl hl (by decide) rfl (fun ls hl => ?_)
  refine lv_goto (tgt := 13) S.1 S.2.1 dL_visit_6 (by decide) ?_
  refine lv_iload_n S.1 S.2.1 dL_visit_13 rfl (lv_at hl 0 rfl) ?_
  exact mi_retMi S hr hk hS dL_visit_14 (by show 0 + mc ≤ mc; omega) (by show 0 + ms ≤ ms; omega) ⟨rfl, hW⟩
set_option maxHeartbeats 4000000 in
set_option maxRecDepth 100000 in
theorem c_LvisitTIO (l : Launch) (D : va_G) (A : Nat → Prop) {P : Heap → Prop} {q0 : Nat} (hrc : ∀ (s : State) (H : Heap), mi_E D A s → P H → ∃ cell : Cell, H[q0]? = some cell ∧ cell.vm.isStatics = false ∧ s.vm.findClass "Voxelmint" = some cell.cls) {x : Int32} {d : Nat} (hd : d ≤ 8) (hM : mi_Th l yX4_visit (Cond.code yX4_visit cX4_visit 3 (some Jvm.ClassFile.FieldType.int)) (mi_rq d 1 6) D A P [.ref q0, .int x] mi_IO 1 6) : mi_Mi l yL_visit (Cond.codeWith yL_visit cL_visit 4 (some Jvm.ClassFile.FieldType.int) [(0, 6, 9, 14)]) (mi_rq 9 1 6) D A P [.ref q0, .int x] 1 6 (fun r H => r = -71 ∧ P H) := by
  refine mi_startH (cc := cL_visit) (nL := 4) (ret := (some Jvm.ClassFile.FieldType.int)) (hh := [(0, 6, 9, 14)]) rfl (by decide) (Nat.le_of_ble_eq_true rfl) ?_
  intro p e s m below meth c ls S E hW hS hr hk ht hl
  have S : CallFix p m c cL_visit 4 s _ ((Cond.codeWith yL_visit cL_visit 4 (some Jvm.ClassFile.FieldType.int) [(0, 6, 9, 14)]) :: mi_G) RL := S
  have hl : lv_has ls 4 [(0, .ref q0), (1, .int x)] := hl
  refine lv_aload_n S.1 S.2.1 dL_visit_0 rfl (lv_at hl 0 rfl) ?_
  refine lv_iload_n S.1 S.2.1 dL_visit_1 rfl (lv_at hl 1 rfl) ?_
  refine mi_cTh (P := P) (Ex := mi_IO) (mi_runVX (P := P) (As := [.int x]) (rest := []) S E hS hW q0 hM (hrc _ _ E hW) mw_383 mw_380 mw_381 mw_382 mw_18 ⟨by decide, by decide, by decide +kernel⟩ ⟨rfl, rfl, by show d + 1 ≤ 9; omega, by show 8 + (3 + 11) + 37 * d ≤ 37 * 9; omega⟩ (n := 1) rfl hl.1 rfl (Nat.le_of_ble_eq_true rfl) dL_visit_2 ⟨by show 0 + 1 ≤ 1; omega, by show 0 + 6 ≤ 6; omega⟩) hS (fun ce q9 H locs hW hS h1 h2 h3 => ?_)
  refine vx_catch (name := mi_IO) S.2.2.2.1 [] ⟨0, 6, 9, 14⟩ [] ht (fun z hz => absurd hz List.not_mem_nil) rfl (by decide) (S.2.2.2.2 _ (List.mem_cons_of_mem _ mw_193)) (va_Nw.use rfl (E.2.2.1 (mi_IO, mi_IO) (by decide))) h1 h2 h3 ?_
  refine lv_astore_n (lv' := [(3, .ref q9), (0, .ref q0), (1, .int x)]) S.1 S.2.1 dL_visit_9 rfl hl (by decide) rfl (fun ls hl => ?_)
  refine lv_bipush (v := (-71)) S.1 S.2.1 dL_visit_10 (by decide) ?_
  exact mi_retMi S hr hk hS dL_visit_12 (by show 0 + 1 ≤ 1; omega) (by show 0 + 6 ≤ 6; omega) ⟨rfl, hW⟩
set_option maxHeartbeats 4000000 in
set_option maxRecDepth 100000 in
theorem c_LundoM (l : Launch) (D : va_G) (A : Nat → Prop) {P : Heap → Prop} {q0 : Nat} (hrc : ∀ (s : State) (H : Heap), mi_E D A s → P H → ∃ cell : Cell, H[q0]? = some cell ∧ cell.vm.isStatics = false ∧ s.vm.findClass "Voxelmint" = some cell.cls) {a : Int32} {d mc ms : Nat} {P1 : Heap → Prop} (hd : d ≤ 8) (hM : mi_Mi l yX4_undo (Cond.code yX4_undo cX4_undo 2 (some Jvm.ClassFile.FieldType.int)) (mi_rq d mc ms) D A P [.ref q0] mc ms (fun r H => r = a ∧ P1 H)) : mi_Mi l yL_undo (Cond.codeWith yL_undo cL_undo 3 (some Jvm.ClassFile.FieldType.int) [(0, 5, 8, 18)]) (mi_rq 9 mc ms) D A P [.ref q0] mc ms (fun r H => r = a ∧ P1 H) := by
  refine mi_startH (cc := cL_undo) (nL := 3) (ret := (some Jvm.ClassFile.FieldType.int)) (hh := [(0, 5, 8, 18)]) rfl (by decide) (Nat.le_of_ble_eq_true rfl) ?_
  intro p e s m below meth c ls S E hW hS hr hk ht hl
  have S : CallFix p m c cL_undo 3 s _ ((Cond.codeWith yL_undo cL_undo 3 (some Jvm.ClassFile.FieldType.int) [(0, 5, 8, 18)]) :: mi_G) RL := S
  have hl : lv_has ls 3 [(0, .ref q0)] := hl
  refine lv_aload_n S.1 S.2.1 dL_undo_0 rfl (lv_at hl 0 rfl) ?_
  refine mi_cMi (mi_runV (P := P) (As := []) (rest := []) S E hS hW q0 hM (hrc _ _ E hW) mw_409 mw_406 mw_407 mw_408 mw_18 ⟨by decide, by decide, by decide +kernel⟩ ⟨rfl, rfl, by show d + 1 ≤ 9; omega, by show 8 + (2 + 11) + 37 * d ≤ 37 * 9; omega⟩ (n := 0) rfl hl.1 rfl (Nat.le_of_ble_eq_true rfl) dL_undo_1 ⟨by show 0 + mc ≤ mc; omega, by show 0 + ms ≤ ms; omega⟩) hS (fun r9 H locs hp9 hS hz9 => ?_)
  obtain ⟨rfl, hW⟩ := hp9
  refine lv_istore_n (lv' := [(1, .int r9), (0, .ref q0)]) S.1 S.2.1 dL_undo_4 rfl hl (by decide) rfl (fun ls hl => ?_)
  refine lv_goto (tgt := 12) S.1 S.2.1 dL_undo_5 (by decide) ?_
  refine lv_iload_n S.1 S.2.1 dL_undo_12 rfl (lv_at hl 0 rfl) ?_
  exact mi_retMi S hr hk hS dL_undo_13 (by show 0 + mc ≤ mc; omega) (by show 0 + ms ≤ ms; omega) ⟨rfl, hW⟩
set_option maxHeartbeats 4000000 in
set_option maxRecDepth 100000 in
theorem c_LundoTIS (l : Launch) (D : va_G) (A : Nat → Prop) {P : Heap → Prop} {q0 : Nat} (hrc : ∀ (s : State) (H : Heap), mi_E D A s → P H → ∃ cell : Cell, H[q0]? = some cell ∧ cell.vm.isStatics = false ∧ s.vm.findClass "Voxelmint" = some cell.cls) {d : Nat} (hd : d ≤ 8) (hM : mi_Th l yX4_undo (Cond.code yX4_undo cX4_undo 2 (some Jvm.ClassFile.FieldType.int)) (mi_rq d 1 6) D A P [.ref q0] mi_IS 1 6) : mi_Mi l yL_undo (Cond.codeWith yL_undo cL_undo 3 (some Jvm.ClassFile.FieldType.int) [(0, 5, 8, 18)]) (mi_rq 9 1 6) D A P [.ref q0] 1 6 (fun r H => r = -73 ∧ P H) := by
  refine mi_startH (cc := cL_undo) (nL := 3) (ret := (some Jvm.ClassFile.FieldType.int)) (hh := [(0, 5, 8, 18)]) rfl (by decide) (Nat.le_of_ble_eq_true rfl) ?_
  intro p e s m below meth c ls S E hW hS hr hk ht hl
  have S : CallFix p m c cL_undo 3 s _ ((Cond.codeWith yL_undo cL_undo 3 (some Jvm.ClassFile.FieldType.int) [(0, 5, 8, 18)]) :: mi_G) RL := S
  have hl : lv_has ls 3 [(0, .ref q0)] := hl
  refine lv_aload_n S.1 S.2.1 dL_undo_0 rfl (lv_at hl 0 rfl) ?_
  refine mi_cTh (P := P) (Ex := mi_IS) (mi_runVX (P := P) (As := []) (rest := []) S E hS hW q0 hM (hrc _ _ E hW) mw_409 mw_406 mw_407 mw_408 mw_18 ⟨by decide, by decide, by decide +kernel⟩ ⟨rfl, rfl, by show d + 1 ≤ 9; omega, by show 8 + (2 + 11) + 37 * d ≤ 37 * 9; omega⟩ (n := 0) rfl hl.1 rfl (Nat.le_of_ble_eq_true rfl) dL_undo_1 ⟨by show 0 + 1 ≤ 1; omega, by show 0 + 6 ≤ 6; omega⟩) hS (fun ce q9 H locs hW hS h1 h2 h3 => ?_)
  refine vx_catch (name := mi_IS) S.2.2.2.1 [] ⟨0, 5, 8, 18⟩ [] ht (fun z hz => absurd hz List.not_mem_nil) rfl (by decide) (S.2.2.2.2 _ (List.mem_cons_of_mem _ mw_195)) (va_Nw.use rfl (E.2.2.1 (mi_IS, mi_IS) (by decide))) h1 h2 h3 ?_
  refine lv_astore_n (lv' := [(2, .ref q9), (0, .ref q0)]) S.1 S.2.1 dL_undo_8 rfl hl (by decide) rfl (fun ls hl => ?_)
  refine lv_bipush (v := (-73)) S.1 S.2.1 dL_undo_9 (by decide) ?_
  exact mi_retMi S hr hk hS dL_undo_11 (by show 0 + 1 ≤ 1; omega) (by show 0 + 6 ≤ 6; omega) ⟨rfl, hW⟩
set_option maxHeartbeats 4000000 in
set_option maxRecDepth 100000 in
theorem c_LredoM (l : Launch) (D : va_G) (A : Nat → Prop) {P : Heap → Prop} {q0 : Nat} (hrc : ∀ (s : State) (H : Heap), mi_E D A s → P H → ∃ cell : Cell, H[q0]? = some cell ∧ cell.vm.isStatics = false ∧ s.vm.findClass "Voxelmint" = some cell.cls) {x : Int32} {a : Int32} {d mc ms : Nat} {P1 : Heap → Prop} (hd : d ≤ 8) (hM : mi_Mi l yX4_redo (Cond.code yX4_redo cX4_redo 3 (some Jvm.ClassFile.FieldType.int)) (mi_rq d mc ms) D A P [.ref q0, .int x] mc ms (fun r H => r = a ∧ P1 H)) : mi_Mi l yL_redo (Cond.codeWith yL_redo cL_redo 4 (some Jvm.ClassFile.FieldType.int) [(0, 6, 9, 14)]) (mi_rq 9 mc ms) D A P [.ref q0, .int x] mc ms (fun r H => r = a ∧ P1 H) := by
  refine mi_startH (cc := cL_redo) (nL := 4) (ret := (some Jvm.ClassFile.FieldType.int)) (hh := [(0, 6, 9, 14)]) rfl (by decide) (Nat.le_of_ble_eq_true rfl) ?_
  intro p e s m below meth c ls S E hW hS hr hk ht hl
  have S : CallFix p m c cL_redo 4 s _ ((Cond.codeWith yL_redo cL_redo 4 (some Jvm.ClassFile.FieldType.int) [(0, 6, 9, 14)]) :: mi_G) RL := S
  have hl : lv_has ls 4 [(0, .ref q0), (1, .int x)] := hl
  refine lv_aload_n S.1 S.2.1 dL_redo_0 rfl (lv_at hl 0 rfl) ?_
  refine lv_iload_n S.1 S.2.1 dL_redo_1 rfl (lv_at hl 1 rfl) ?_
  refine mi_cMi (mi_runV (P := P) (As := [.int x]) (rest := []) S E hS hW q0 hM (hrc _ _ E hW) mw_421 mw_418 mw_419 mw_420 mw_18 ⟨by decide, by decide, by decide +kernel⟩ ⟨rfl, rfl, by show d + 1 ≤ 9; omega, by show 8 + (3 + 11) + 37 * d ≤ 37 * 9; omega⟩ (n := 1) rfl hl.1 rfl (Nat.le_of_ble_eq_true rfl) dL_redo_2 ⟨by show 0 + mc ≤ mc; omega, by show 0 + ms ≤ ms; omega⟩) hS (fun r9 H locs hp9 hS hz9 => ?_)
  obtain ⟨rfl, hW⟩ := hp9
  refine lv_istore_n (lv' := [(2, .int r9), (0, .ref q0), (1, .int x)]) S.1 S.2.1 dL_redo_5 rfl hl (by decide) rfl (fun ls hl => ?_)
  refine lv_goto (tgt := 13) S.1 S.2.1 dL_redo_6 (by decide) ?_
  refine lv_iload_n S.1 S.2.1 dL_redo_13 rfl (lv_at hl 0 rfl) ?_
  exact mi_retMi S hr hk hS dL_redo_14 (by show 0 + mc ≤ mc; omega) (by show 0 + ms ≤ ms; omega) ⟨rfl, hW⟩
set_option maxHeartbeats 4000000 in
set_option maxRecDepth 100000 in
theorem c_LredoTIO (l : Launch) (D : va_G) (A : Nat → Prop) {P : Heap → Prop} {q0 : Nat} (hrc : ∀ (s : State) (H : Heap), mi_E D A s → P H → ∃ cell : Cell, H[q0]? = some cell ∧ cell.vm.isStatics = false ∧ s.vm.findClass "Voxelmint" = some cell.cls) {x : Int32} {d : Nat} (hd : d ≤ 8) (hM : mi_Th l yX4_redo (Cond.code yX4_redo cX4_redo 3 (some Jvm.ClassFile.FieldType.int)) (mi_rq d 1 6) D A P [.ref q0, .int x] mi_IO 1 6) : mi_Mi l yL_redo (Cond.codeWith yL_redo cL_redo 4 (some Jvm.ClassFile.FieldType.int) [(0, 6, 9, 14)]) (mi_rq 9 1 6) D A P [.ref q0, .int x] 1 6 (fun r H => r = -71 ∧ P H) := by
  refine mi_startH (cc := cL_redo) (nL := 4) (ret := (some Jvm.ClassFile.FieldType.int)) (hh := [(0, 6, 9, 14)]) rfl (by decide) (Nat.le_of_ble_eq_true rfl) ?_
  intro p e s m below meth c ls S E hW hS hr hk ht hl
  have S : CallFix p m c cL_redo 4 s _ ((Cond.codeWith yL_redo cL_redo 4 (some Jvm.ClassFile.FieldType.int) [(0, 6, 9, 14)]) :: mi_G) RL := S
  have hl : lv_has ls 4 [(0, .ref q0), (1, .int x)] := hl
  refine lv_aload_n S.1 S.2.1 dL_redo_0 rfl (lv_at hl 0 rfl) ?_
  refine lv_iload_n S.1 S.2.1 dL_redo_1 rfl (lv_at hl 1 rfl) ?_
  refine mi_cTh (P := P) (Ex := mi_IO) (mi_runVX (P := P) (As := [.int x]) (rest := []) S E hS hW q0 hM (hrc _ _ E hW) mw_421 mw_418 mw_419 mw_420 mw_18 ⟨by decide, by decide, by decide +kernel⟩ ⟨rfl, rfl, by show d + 1 ≤ 9; omega, by show 8 + (3 + 11) + 37 * d ≤ 37 * 9; omega⟩ (n := 1) rfl hl.1 rfl (Nat.le_of_ble_eq_true rfl) dL_redo_2 ⟨by show 0 + 1 ≤ 1; omega, by show 0 + 6 ≤ 6; omega⟩) hS (fun ce q9 H locs hW hS h1 h2 h3 => ?_)
  refine vx_catch (name := mi_IO) S.2.2.2.1 [] ⟨0, 6, 9, 14⟩ [] ht (fun z hz => absurd hz List.not_mem_nil) rfl (by decide) (S.2.2.2.2 _ (List.mem_cons_of_mem _ mw_193)) (va_Nw.use rfl (E.2.2.1 (mi_IO, mi_IO) (by decide))) h1 h2 h3 ?_
  refine lv_astore_n (lv' := [(3, .ref q9), (0, .ref q0), (1, .int x)]) S.1 S.2.1 dL_redo_9 rfl hl (by decide) rfl (fun ls hl => ?_)
  refine lv_bipush (v := (-71)) S.1 S.2.1 dL_redo_10 (by decide) ?_
  exact mi_retMi S hr hk hS dL_redo_12 (by show 0 + 1 ≤ 1; omega) (by show 0 + 6 ≤ 6; omega) ⟨rfl, hW⟩
set_option maxHeartbeats 4000000 in
set_option maxRecDepth 100000 in
theorem c_LunlikeR (l : Launch) (D : va_G) (A : Nat → Prop) {P : Heap → Prop} {q0 : Nat} (hrc : ∀ (s : State) (H : Heap), mi_E D A s → P H → ∃ cell : Cell, H[q0]? = some cell ∧ cell.vm.isStatics = false ∧ s.vm.findClass "Voxelmint" = some cell.cls) {x y : Int32} {a : Int32} {d : Nat} (hd : d ≤ 8) (hM : mi_Rd l yX4_unlike (Cond.code yX4_unlike cX4_unlike 7 (some Jvm.ClassFile.FieldType.int)) (mi_rm d) D A P [.ref q0, .int x, .int y] (fun r => r = a)) : mi_Rd l yL_unlike (Cond.codeWith yL_unlike cL_unlike 5 (some Jvm.ClassFile.FieldType.int) [(0, 7, 10, 14)]) (mi_rm 9) D A P [.ref q0, .int x, .int y] (fun r => r = a) := by
  refine mi_startH (cc := cL_unlike) (nL := 5) (ret := (some Jvm.ClassFile.FieldType.int)) (hh := [(0, 7, 10, 14)]) rfl (by decide) (Nat.le_of_ble_eq_true rfl) ?_
  intro p e s m below meth c ls S E hW hS hr hk ht hl
  have S : CallFix p m c cL_unlike 5 s _ ((Cond.codeWith yL_unlike cL_unlike 5 (some Jvm.ClassFile.FieldType.int) [(0, 7, 10, 14)]) :: mi_G) RL := S
  have hl : lv_has ls 5 [(0, .ref q0), (1, .int x), (2, .int y)] := hl
  refine lv_aload_n S.1 S.2.1 dL_unlike_0 rfl (lv_at hl 0 rfl) ?_
  refine lv_iload_n S.1 S.2.1 dL_unlike_1 rfl (lv_at hl 1 rfl) ?_
  refine lv_iload_n S.1 S.2.1 dL_unlike_2 rfl (lv_at hl 2 rfl) ?_
  refine mi_cR (mi_runV (P := P) (As := [.int x, .int y]) (rest := []) S E hS hW q0 hM (hrc _ _ E hW) mw_640 mw_637 mw_638 mw_639 mw_18 ⟨by decide, by decide, by decide +kernel⟩ ⟨rfl, rfl, by show d + 1 ≤ 9; omega, by show 8 + (7 + 11) + 37 * d ≤ 37 * 9; omega⟩ (n := 2) rfl hl.1 rfl (Nat.le_of_ble_eq_true rfl) dL_unlike_3 ⟨by show 0 + 0 ≤ 0; omega, by show 0 + 0 ≤ 0; omega⟩) (fun r9 e9 => ?_)
  subst e9
  refine lv_istore_n (lv' := [(3, .int r9), (0, .ref q0), (1, .int x), (2, .int y)]) S.1 S.2.1 dL_unlike_6 rfl hl (by decide) rfl (fun ls hl => ?_)
  refine lv_goto (tgt := 15) S.1 S.2.1 dL_unlike_7 (by decide) ?_
  refine lv_iload_n S.1 S.2.1 dL_unlike_15 rfl (lv_at hl 0 rfl) ?_
  exact mi_retR S hr hk dL_unlike_16 rfl
set_option maxHeartbeats 4000000 in
set_option maxRecDepth 100000 in
theorem c_LunlikeTIO (l : Launch) (D : va_G) (A : Nat → Prop) {P : Heap → Prop} {q0 : Nat} (hrc : ∀ (s : State) (H : Heap), mi_E D A s → P H → ∃ cell : Cell, H[q0]? = some cell ∧ cell.vm.isStatics = false ∧ s.vm.findClass "Voxelmint" = some cell.cls) {x y : Int32} {d : Nat} (hd : d ≤ 8) (hM : mi_Th l yX4_unlike (Cond.code yX4_unlike cX4_unlike 7 (some Jvm.ClassFile.FieldType.int)) (mi_rq d 1 6) D A P [.ref q0, .int x, .int y] mi_IO 1 6) : mi_Mi l yL_unlike (Cond.codeWith yL_unlike cL_unlike 5 (some Jvm.ClassFile.FieldType.int) [(0, 7, 10, 14)]) (mi_rq 9 1 6) D A P [.ref q0, .int x, .int y] 1 6 (fun r H => r = -71 ∧ P H) := by
  refine mi_startH (cc := cL_unlike) (nL := 5) (ret := (some Jvm.ClassFile.FieldType.int)) (hh := [(0, 7, 10, 14)]) rfl (by decide) (Nat.le_of_ble_eq_true rfl) ?_
  intro p e s m below meth c ls S E hW hS hr hk ht hl
  have S : CallFix p m c cL_unlike 5 s _ ((Cond.codeWith yL_unlike cL_unlike 5 (some Jvm.ClassFile.FieldType.int) [(0, 7, 10, 14)]) :: mi_G) RL := S
  have hl : lv_has ls 5 [(0, .ref q0), (1, .int x), (2, .int y)] := hl
  refine lv_aload_n S.1 S.2.1 dL_unlike_0 rfl (lv_at hl 0 rfl) ?_
  refine lv_iload_n S.1 S.2.1 dL_unlike_1 rfl (lv_at hl 1 rfl) ?_
  refine lv_iload_n S.1 S.2.1 dL_unlike_2 rfl (lv_at hl 2 rfl) ?_
  refine mi_cTh (P := P) (Ex := mi_IO) (mi_runVX (P := P) (As := [.int x, .int y]) (rest := []) S E hS hW q0 hM (hrc _ _ E hW) mw_640 mw_637 mw_638 mw_639 mw_18 ⟨by decide, by decide, by decide +kernel⟩ ⟨rfl, rfl, by show d + 1 ≤ 9; omega, by show 8 + (7 + 11) + 37 * d ≤ 37 * 9; omega⟩ (n := 2) rfl hl.1 rfl (Nat.le_of_ble_eq_true rfl) dL_unlike_3 ⟨by show 0 + 1 ≤ 1; omega, by show 0 + 6 ≤ 6; omega⟩) hS (fun ce q9 H locs hW hS h1 h2 h3 => ?_)
  refine vx_catch (name := mi_IO) S.2.2.2.1 [] ⟨0, 7, 10, 14⟩ [] ht (fun z hz => absurd hz List.not_mem_nil) rfl (by decide) (S.2.2.2.2 _ (List.mem_cons_of_mem _ mw_193)) (va_Nw.use rfl (E.2.2.1 (mi_IO, mi_IO) (by decide))) h1 h2 h3 ?_
  refine lv_astore (lv' := [(4, .ref q9), (0, .ref q0), (1, .int x), (2, .int y)]) S.1 S.2.1 dL_unlike_10 hl (by decide) rfl (fun ls hl => ?_)
  refine lv_bipush (v := (-71)) S.1 S.2.1 dL_unlike_12 (by decide) ?_
  exact mi_retMi S hr hk hS dL_unlike_14 (by show 0 + 1 ≤ 1; omega) (by show 0 + 6 ≤ 6; omega) ⟨rfl, hW⟩
set_option maxHeartbeats 4000000 in
set_option maxRecDepth 100000 in
theorem c_LcutM (l : Launch) (D : va_G) (A : Nat → Prop) {P : Heap → Prop} {q0 : Nat} (hrc : ∀ (s : State) (H : Heap), mi_E D A s → P H → ∃ cell : Cell, H[q0]? = some cell ∧ cell.vm.isStatics = false ∧ s.vm.findClass "Voxelmint" = some cell.cls) {a : Int32} {d mc ms : Nat} {P1 : Heap → Prop} (hd : d ≤ 8) (hM : mi_Mi l yX4_cut (Cond.code yX4_cut cX4_cut 1 (some Jvm.ClassFile.FieldType.int)) (mi_rq d mc ms) D A P [.ref q0] mc ms (fun r H => r = a ∧ P1 H)) : mi_Mi l yL_cut (Cond.codeWith yL_cut cL_cut 3 (some Jvm.ClassFile.FieldType.int) [(0, 5, 8, 18)]) (mi_rq 9 mc ms) D A P [.ref q0] mc ms (fun r H => r = a ∧ P1 H) := by
  refine mi_startH (cc := cL_cut) (nL := 3) (ret := (some Jvm.ClassFile.FieldType.int)) (hh := [(0, 5, 8, 18)]) rfl (by decide) (Nat.le_of_ble_eq_true rfl) ?_
  intro p e s m below meth c ls S E hW hS hr hk ht hl
  have S : CallFix p m c cL_cut 3 s _ ((Cond.codeWith yL_cut cL_cut 3 (some Jvm.ClassFile.FieldType.int) [(0, 5, 8, 18)]) :: mi_G) RL := S
  have hl : lv_has ls 3 [(0, .ref q0)] := hl
  refine lv_aload_n S.1 S.2.1 dL_cut_0 rfl (lv_at hl 0 rfl) ?_
  refine mi_cMi (mi_runV (P := P) (As := []) (rest := []) S E hS hW q0 hM (hrc _ _ E hW) mw_442 mw_439 mw_440 mw_441 mw_18 ⟨by decide, by decide, by decide +kernel⟩ ⟨rfl, rfl, by show d + 1 ≤ 9; omega, by show 8 + (1 + 11) + 37 * d ≤ 37 * 9; omega⟩ (n := 0) rfl hl.1 rfl (Nat.le_of_ble_eq_true rfl) dL_cut_1 ⟨by show 0 + mc ≤ mc; omega, by show 0 + ms ≤ ms; omega⟩) hS (fun r9 H locs hp9 hS hz9 => ?_)
  obtain ⟨rfl, hW⟩ := hp9
  refine lv_istore_n (lv' := [(1, .int r9), (0, .ref q0)]) S.1 S.2.1 dL_cut_4 rfl hl (by decide) rfl (fun ls hl => ?_)
  refine lv_goto (tgt := 12) S.1 S.2.1 dL_cut_5 (by decide) ?_
  refine lv_iload_n S.1 S.2.1 dL_cut_12 rfl (lv_at hl 0 rfl) ?_
  exact mi_retMi S hr hk hS dL_cut_13 (by show 0 + mc ≤ mc; omega) (by show 0 + ms ≤ ms; omega) ⟨rfl, hW⟩
set_option maxHeartbeats 4000000 in
set_option maxRecDepth 100000 in
theorem c_LcutTIS (l : Launch) (D : va_G) (A : Nat → Prop) {P : Heap → Prop} {q0 : Nat} (hrc : ∀ (s : State) (H : Heap), mi_E D A s → P H → ∃ cell : Cell, H[q0]? = some cell ∧ cell.vm.isStatics = false ∧ s.vm.findClass "Voxelmint" = some cell.cls) {d : Nat} (hd : d ≤ 8) (hM : mi_Th l yX4_cut (Cond.code yX4_cut cX4_cut 1 (some Jvm.ClassFile.FieldType.int)) (mi_rq d 1 6) D A P [.ref q0] mi_IS 1 6) : mi_Mi l yL_cut (Cond.codeWith yL_cut cL_cut 3 (some Jvm.ClassFile.FieldType.int) [(0, 5, 8, 18)]) (mi_rq 9 1 6) D A P [.ref q0] 1 6 (fun r H => r = -73 ∧ P H) := by
  refine mi_startH (cc := cL_cut) (nL := 3) (ret := (some Jvm.ClassFile.FieldType.int)) (hh := [(0, 5, 8, 18)]) rfl (by decide) (Nat.le_of_ble_eq_true rfl) ?_
  intro p e s m below meth c ls S E hW hS hr hk ht hl
  have S : CallFix p m c cL_cut 3 s _ ((Cond.codeWith yL_cut cL_cut 3 (some Jvm.ClassFile.FieldType.int) [(0, 5, 8, 18)]) :: mi_G) RL := S
  have hl : lv_has ls 3 [(0, .ref q0)] := hl
  refine lv_aload_n S.1 S.2.1 dL_cut_0 rfl (lv_at hl 0 rfl) ?_
  refine mi_cTh (P := P) (Ex := mi_IS) (mi_runVX (P := P) (As := []) (rest := []) S E hS hW q0 hM (hrc _ _ E hW) mw_442 mw_439 mw_440 mw_441 mw_18 ⟨by decide, by decide, by decide +kernel⟩ ⟨rfl, rfl, by show d + 1 ≤ 9; omega, by show 8 + (1 + 11) + 37 * d ≤ 37 * 9; omega⟩ (n := 0) rfl hl.1 rfl (Nat.le_of_ble_eq_true rfl) dL_cut_1 ⟨by show 0 + 1 ≤ 1; omega, by show 0 + 6 ≤ 6; omega⟩) hS (fun ce q9 H locs hW hS h1 h2 h3 => ?_)
  refine vx_catch (name := mi_IS) S.2.2.2.1 [] ⟨0, 5, 8, 18⟩ [] ht (fun z hz => absurd hz List.not_mem_nil) rfl (by decide) (S.2.2.2.2 _ (List.mem_cons_of_mem _ mw_195)) (va_Nw.use rfl (E.2.2.1 (mi_IS, mi_IS) (by decide))) h1 h2 h3 ?_
  refine lv_astore_n (lv' := [(2, .ref q9), (0, .ref q0)]) S.1 S.2.1 dL_cut_8 rfl hl (by decide) rfl (fun ls hl => ?_)
  refine lv_bipush (v := (-73)) S.1 S.2.1 dL_cut_9 (by decide) ?_
  exact mi_retMi S hr hk hS dL_cut_11 (by show 0 + 1 ≤ 1; omega) (by show 0 + 6 ≤ 6; omega) ⟨rfl, hW⟩
set_option maxHeartbeats 4000000 in
set_option maxRecDepth 100000 in
theorem c_LstrikeM (l : Launch) (D : va_G) (A : Nat → Prop) {P : Heap → Prop} {q0 : Nat} (hrc : ∀ (s : State) (H : Heap), mi_E D A s → P H → ∃ cell : Cell, H[q0]? = some cell ∧ cell.vm.isStatics = false ∧ s.vm.findClass "Voxelmint" = some cell.cls) {x : Int32} {a : Int32} {d mc ms : Nat} {P1 : Heap → Prop} (hd : d ≤ 8) (hM : mi_Mi l yX4_strike (Cond.code yX4_strike cX4_strike 2 (some Jvm.ClassFile.FieldType.int)) (mi_rq d mc ms) D A P [.ref q0, .int x] mc ms (fun r H => r = a ∧ P1 H)) : mi_Mi l yL_strike (Cond.codeWith yL_strike cL_strike 4 (some Jvm.ClassFile.FieldType.int) [(0, 6, 9, 14), (0, 6, 13, 18)]) (mi_rq 9 mc ms) D A P [.ref q0, .int x] mc ms (fun r H => r = a ∧ P1 H) := by
  refine mi_startH (cc := cL_strike) (nL := 4) (ret := (some Jvm.ClassFile.FieldType.int)) (hh := [(0, 6, 9, 14), (0, 6, 13, 18)]) rfl (by decide) (Nat.le_of_ble_eq_true rfl) ?_
  intro p e s m below meth c ls S E hW hS hr hk ht hl
  have S : CallFix p m c cL_strike 4 s _ ((Cond.codeWith yL_strike cL_strike 4 (some Jvm.ClassFile.FieldType.int) [(0, 6, 9, 14), (0, 6, 13, 18)]) :: mi_G) RL := S
  have hl : lv_has ls 4 [(0, .ref q0), (1, .int x)] := hl
  refine lv_aload_n S.1 S.2.1 dL_strike_0 rfl (lv_at hl 0 rfl) ?_
  refine lv_iload_n S.1 S.2.1 dL_strike_1 rfl (lv_at hl 1 rfl) ?_
  refine mi_cMi (mi_runV (P := P) (As := [.int x]) (rest := []) S E hS hW q0 hM (hrc _ _ E hW) mw_511 mw_508 mw_509 mw_510 mw_18 ⟨by decide, by decide, by decide +kernel⟩ ⟨rfl, rfl, by show d + 1 ≤ 9; omega, by show 8 + (2 + 11) + 37 * d ≤ 37 * 9; omega⟩ (n := 1) rfl hl.1 rfl (Nat.le_of_ble_eq_true rfl) dL_strike_2 ⟨by show 0 + mc ≤ mc; omega, by show 0 + ms ≤ ms; omega⟩) hS (fun r9 H locs hp9 hS hz9 => ?_)
  obtain ⟨rfl, hW⟩ := hp9
  refine lv_istore_n (lv' := [(2, .int r9), (0, .ref q0), (1, .int x)]) S.1 S.2.1 dL_strike_5 rfl hl (by decide) rfl (fun ls hl => ?_)
  refine lv_goto (tgt := 17) S.1 S.2.1 dL_strike_6 (by decide) ?_
  refine lv_iload_n S.1 S.2.1 dL_strike_17 rfl (lv_at hl 0 rfl) ?_
  exact mi_retMi S hr hk hS dL_strike_18 (by show 0 + mc ≤ mc; omega) (by show 0 + ms ≤ ms; omega) ⟨rfl, hW⟩
set_option maxHeartbeats 4000000 in
set_option maxRecDepth 100000 in
theorem c_LstrikeTIO (l : Launch) (D : va_G) (A : Nat → Prop) {P : Heap → Prop} {q0 : Nat} (hrc : ∀ (s : State) (H : Heap), mi_E D A s → P H → ∃ cell : Cell, H[q0]? = some cell ∧ cell.vm.isStatics = false ∧ s.vm.findClass "Voxelmint" = some cell.cls) {x : Int32} {d : Nat} (hd : d ≤ 8) (hM : mi_Th l yX4_strike (Cond.code yX4_strike cX4_strike 2 (some Jvm.ClassFile.FieldType.int)) (mi_rq d 1 6) D A P [.ref q0, .int x] mi_IO 1 6) : mi_Mi l yL_strike (Cond.codeWith yL_strike cL_strike 4 (some Jvm.ClassFile.FieldType.int) [(0, 6, 9, 14), (0, 6, 13, 18)]) (mi_rq 9 1 6) D A P [.ref q0, .int x] 1 6 (fun r H => r = -71 ∧ P H) := by
  refine mi_startH (cc := cL_strike) (nL := 4) (ret := (some Jvm.ClassFile.FieldType.int)) (hh := [(0, 6, 9, 14), (0, 6, 13, 18)]) rfl (by decide) (Nat.le_of_ble_eq_true rfl) ?_
  intro p e s m below meth c ls S E hW hS hr hk ht hl
  have S : CallFix p m c cL_strike 4 s _ ((Cond.codeWith yL_strike cL_strike 4 (some Jvm.ClassFile.FieldType.int) [(0, 6, 9, 14), (0, 6, 13, 18)]) :: mi_G) RL := S
  have hl : lv_has ls 4 [(0, .ref q0), (1, .int x)] := hl
  refine lv_aload_n S.1 S.2.1 dL_strike_0 rfl (lv_at hl 0 rfl) ?_
  refine lv_iload_n S.1 S.2.1 dL_strike_1 rfl (lv_at hl 1 rfl) ?_
  refine mi_cTh (P := P) (Ex := mi_IO) (mi_runVX (P := P) (As := [.int x]) (rest := []) S E hS hW q0 hM (hrc _ _ E hW) mw_511 mw_508 mw_509 mw_510 mw_18 ⟨by decide, by decide, by decide +kernel⟩ ⟨rfl, rfl, by show d + 1 ≤ 9; omega, by show 8 + (2 + 11) + 37 * d ≤ 37 * 9; omega⟩ (n := 1) rfl hl.1 rfl (Nat.le_of_ble_eq_true rfl) dL_strike_2 ⟨by show 0 + 1 ≤ 1; omega, by show 0 + 6 ≤ 6; omega⟩) hS (fun ce q9 H locs hW hS h1 h2 h3 => ?_)
  refine vx_catch (name := mi_IO) S.2.2.2.1 [] ⟨0, 6, 9, 14⟩ [⟨0, 6, 13, 18⟩] ht (fun z hz => absurd hz List.not_mem_nil) rfl (by decide) (S.2.2.2.2 _ (List.mem_cons_of_mem _ mw_193)) (va_Nw.use rfl (E.2.2.1 (mi_IO, mi_IO) (by decide))) h1 h2 h3 ?_
  refine lv_astore_n (lv' := [(3, .ref q9), (0, .ref q0), (1, .int x)]) S.1 S.2.1 dL_strike_9 rfl hl (by decide) rfl (fun ls hl => ?_)
  refine lv_bipush (v := (-71)) S.1 S.2.1 dL_strike_10 (by decide) ?_
  exact mi_retMi S hr hk hS dL_strike_12 (by show 0 + 1 ≤ 1; omega) (by show 0 + 6 ≤ 6; omega) ⟨rfl, hW⟩
set_option maxHeartbeats 4000000 in
set_option maxRecDepth 100000 in
theorem c_LstrikeTIS (l : Launch) (D : va_G) (A : Nat → Prop) {P : Heap → Prop} {q0 : Nat} (hrc : ∀ (s : State) (H : Heap), mi_E D A s → P H → ∃ cell : Cell, H[q0]? = some cell ∧ cell.vm.isStatics = false ∧ s.vm.findClass "Voxelmint" = some cell.cls) {x : Int32} {d : Nat} (hd : d ≤ 8) (hM : mi_Th l yX4_strike (Cond.code yX4_strike cX4_strike 2 (some Jvm.ClassFile.FieldType.int)) (mi_rq d 1 6) D A P [.ref q0, .int x] mi_IS 1 6) : mi_Mi l yL_strike (Cond.codeWith yL_strike cL_strike 4 (some Jvm.ClassFile.FieldType.int) [(0, 6, 9, 14), (0, 6, 13, 18)]) (mi_rq 9 1 6) D A P [.ref q0, .int x] 1 6 (fun r H => r = -73 ∧ P H) := by
  refine mi_startH (cc := cL_strike) (nL := 4) (ret := (some Jvm.ClassFile.FieldType.int)) (hh := [(0, 6, 9, 14), (0, 6, 13, 18)]) rfl (by decide) (Nat.le_of_ble_eq_true rfl) ?_
  intro p e s m below meth c ls S E hW hS hr hk ht hl
  have S : CallFix p m c cL_strike 4 s _ ((Cond.codeWith yL_strike cL_strike 4 (some Jvm.ClassFile.FieldType.int) [(0, 6, 9, 14), (0, 6, 13, 18)]) :: mi_G) RL := S
  have hl : lv_has ls 4 [(0, .ref q0), (1, .int x)] := hl
  refine lv_aload_n S.1 S.2.1 dL_strike_0 rfl (lv_at hl 0 rfl) ?_
  refine lv_iload_n S.1 S.2.1 dL_strike_1 rfl (lv_at hl 1 rfl) ?_
  refine mi_cTh (P := P) (Ex := mi_IS) (mi_runVX (P := P) (As := [.int x]) (rest := []) S E hS hW q0 hM (hrc _ _ E hW) mw_511 mw_508 mw_509 mw_510 mw_18 ⟨by decide, by decide, by decide +kernel⟩ ⟨rfl, rfl, by show d + 1 ≤ 9; omega, by show 8 + (2 + 11) + 37 * d ≤ 37 * 9; omega⟩ (n := 1) rfl hl.1 rfl (Nat.le_of_ble_eq_true rfl) dL_strike_2 ⟨by show 0 + 1 ≤ 1; omega, by show 0 + 6 ≤ 6; omega⟩) hS (fun ce q9 H locs hW hS h1 h2 h3 => ?_)
  refine vx_catch (name := mi_IS) S.2.2.2.1 [⟨0, 6, 9, 14⟩] ⟨0, 6, 13, 18⟩ [] ht (List.forall_mem_cons.mpr ⟨Or.inr ⟨by decide, mi_IO, (S.2.2.2.2 _ (List.mem_cons_of_mem _ mw_193)), E.2.2.2.1 (mi_IS, mi_IO) (by decide)⟩, fun _ h => absurd h List.not_mem_nil⟩) rfl (by decide) (S.2.2.2.2 _ (List.mem_cons_of_mem _ mw_195)) (va_Nw.use rfl (E.2.2.1 (mi_IS, mi_IS) (by decide))) h1 h2 h3 ?_
  refine lv_astore_n (lv' := [(3, .ref q9), (0, .ref q0), (1, .int x)]) S.1 S.2.1 dL_strike_13 rfl hl (by decide) rfl (fun ls hl => ?_)
  refine lv_bipush (v := (-73)) S.1 S.2.1 dL_strike_14 (by decide) ?_
  exact mi_retMi S hr hk hS dL_strike_16 (by show 0 + 1 ≤ 1; omega) (by show 0 + 6 ≤ 6; omega) ⟨rfl, hW⟩
set_option maxHeartbeats 4000000 in
set_option maxRecDepth 100000 in
theorem c_LforgeM (l : Launch) (D : va_G) (A : Nat → Prop) {P : Heap → Prop} {q0 : Nat} (hrc : ∀ (s : State) (H : Heap), mi_E D A s → P H → ∃ cell : Cell, H[q0]? = some cell ∧ cell.vm.isStatics = false ∧ s.vm.findClass "Voxelmint" = some cell.cls) {x y z : Int32} {a : Int32} {d mc ms : Nat} {P1 : Heap → Prop} (hd : d ≤ 8) (hM : mi_Mi l yX4_forge (Cond.code yX4_forge cX4_forge 6 (some Jvm.ClassFile.FieldType.int)) (mi_rq d mc ms) D A P [.ref q0, .int x, .int y, .int z] mc ms (fun r H => r = a ∧ P1 H)) : mi_Mi l yL_forge (Cond.codeWith yL_forge cL_forge 6 (some Jvm.ClassFile.FieldType.int) [(0, 9, 12, 14), (0, 9, 17, 16), (0, 9, 22, 18)]) (mi_rq 9 mc ms) D A P [.ref q0, .int x, .int y, .int z] mc ms (fun r H => r = a ∧ P1 H) := by
  refine mi_startH (cc := cL_forge) (nL := 6) (ret := (some Jvm.ClassFile.FieldType.int)) (hh := [(0, 9, 12, 14), (0, 9, 17, 16), (0, 9, 22, 18)]) rfl (by decide) (Nat.le_of_ble_eq_true rfl) ?_
  intro p e s m below meth c ls S E hW hS hr hk ht hl
  have S : CallFix p m c cL_forge 6 s _ ((Cond.codeWith yL_forge cL_forge 6 (some Jvm.ClassFile.FieldType.int) [(0, 9, 12, 14), (0, 9, 17, 16), (0, 9, 22, 18)]) :: mi_G) RL := S
  have hl : lv_has ls 6 [(0, .ref q0), (1, .int x), (2, .int y), (3, .int z)] := hl
  refine lv_aload_n S.1 S.2.1 dL_forge_0 rfl (lv_at hl 0 rfl) ?_
  refine lv_iload_n S.1 S.2.1 dL_forge_1 rfl (lv_at hl 1 rfl) ?_
  refine lv_iload_n S.1 S.2.1 dL_forge_2 rfl (lv_at hl 2 rfl) ?_
  refine lv_iload_n S.1 S.2.1 dL_forge_3 rfl (lv_at hl 3 rfl) ?_
  refine mi_cMi (mi_runV (P := P) (As := [.int x, .int y, .int z]) (rest := []) S E hS hW q0 hM (hrc _ _ E hW) mw_568 mw_565 mw_566 mw_567 mw_18 ⟨by decide, by decide, by decide +kernel⟩ ⟨rfl, rfl, by show d + 1 ≤ 9; omega, by show 8 + (6 + 11) + 37 * d ≤ 37 * 9; omega⟩ (n := 3) rfl hl.1 rfl (Nat.le_of_ble_eq_true rfl) dL_forge_4 ⟨by show 0 + mc ≤ mc; omega, by show 0 + ms ≤ ms; omega⟩) hS (fun r9 H locs hp9 hS hz9 => ?_)
  obtain ⟨rfl, hW⟩ := hp9
  refine lv_istore (lv' := [(4, .int r9), (0, .ref q0), (1, .int x), (2, .int y), (3, .int z)]) S.1 S.2.1 dL_forge_7 hl (by decide) rfl (fun ls hl => ?_)
  refine lv_goto (tgt := 27) S.1 S.2.1 dL_forge_9 (by decide) ?_
  refine lv_iload S.1 S.2.1 dL_forge_27 (lv_at hl 0 rfl) ?_
  exact mi_retMi S hr hk hS dL_forge_29 (by show 0 + mc ≤ mc; omega) (by show 0 + ms ≤ ms; omega) ⟨rfl, hW⟩
set_option maxHeartbeats 4000000 in
set_option maxRecDepth 100000 in
theorem c_LforgeTIO (l : Launch) (D : va_G) (A : Nat → Prop) {P : Heap → Prop} {q0 : Nat} (hrc : ∀ (s : State) (H : Heap), mi_E D A s → P H → ∃ cell : Cell, H[q0]? = some cell ∧ cell.vm.isStatics = false ∧ s.vm.findClass "Voxelmint" = some cell.cls) {x y z : Int32} {d : Nat} (hd : d ≤ 8) (hM : mi_Th l yX4_forge (Cond.code yX4_forge cX4_forge 6 (some Jvm.ClassFile.FieldType.int)) (mi_rq d 1 6) D A P [.ref q0, .int x, .int y, .int z] mi_IO 1 6) : mi_Mi l yL_forge (Cond.codeWith yL_forge cL_forge 6 (some Jvm.ClassFile.FieldType.int) [(0, 9, 12, 14), (0, 9, 17, 16), (0, 9, 22, 18)]) (mi_rq 9 1 6) D A P [.ref q0, .int x, .int y, .int z] 1 6 (fun r H => r = -71 ∧ P H) := by
  refine mi_startH (cc := cL_forge) (nL := 6) (ret := (some Jvm.ClassFile.FieldType.int)) (hh := [(0, 9, 12, 14), (0, 9, 17, 16), (0, 9, 22, 18)]) rfl (by decide) (Nat.le_of_ble_eq_true rfl) ?_
  intro p e s m below meth c ls S E hW hS hr hk ht hl
  have S : CallFix p m c cL_forge 6 s _ ((Cond.codeWith yL_forge cL_forge 6 (some Jvm.ClassFile.FieldType.int) [(0, 9, 12, 14), (0, 9, 17, 16), (0, 9, 22, 18)]) :: mi_G) RL := S
  have hl : lv_has ls 6 [(0, .ref q0), (1, .int x), (2, .int y), (3, .int z)] := hl
  refine lv_aload_n S.1 S.2.1 dL_forge_0 rfl (lv_at hl 0 rfl) ?_
  refine lv_iload_n S.1 S.2.1 dL_forge_1 rfl (lv_at hl 1 rfl) ?_
  refine lv_iload_n S.1 S.2.1 dL_forge_2 rfl (lv_at hl 2 rfl) ?_
  refine lv_iload_n S.1 S.2.1 dL_forge_3 rfl (lv_at hl 3 rfl) ?_
  refine mi_cTh (P := P) (Ex := mi_IO) (mi_runVX (P := P) (As := [.int x, .int y, .int z]) (rest := []) S E hS hW q0 hM (hrc _ _ E hW) mw_568 mw_565 mw_566 mw_567 mw_18 ⟨by decide, by decide, by decide +kernel⟩ ⟨rfl, rfl, by show d + 1 ≤ 9; omega, by show 8 + (6 + 11) + 37 * d ≤ 37 * 9; omega⟩ (n := 3) rfl hl.1 rfl (Nat.le_of_ble_eq_true rfl) dL_forge_4 ⟨by show 0 + 1 ≤ 1; omega, by show 0 + 6 ≤ 6; omega⟩) hS (fun ce q9 H locs hW hS h1 h2 h3 => ?_)
  refine vx_catch (name := mi_IO) S.2.2.2.1 [] ⟨0, 9, 12, 14⟩ [⟨0, 9, 17, 16⟩, ⟨0, 9, 22, 18⟩] ht (fun z hz => absurd hz List.not_mem_nil) rfl (by decide) (S.2.2.2.2 _ (List.mem_cons_of_mem _ mw_193)) (va_Nw.use rfl (E.2.2.1 (mi_IO, mi_IO) (by decide))) h1 h2 h3 ?_
  refine lv_astore (lv' := [(5, .ref q9), (0, .ref q0), (1, .int x), (2, .int y), (3, .int z)]) S.1 S.2.1 dL_forge_12 hl (by decide) rfl (fun ls hl => ?_)
  refine lv_bipush (v := (-71)) S.1 S.2.1 dL_forge_14 (by decide) ?_
  exact mi_retMi S hr hk hS dL_forge_16 (by show 0 + 1 ≤ 1; omega) (by show 0 + 6 ≤ 6; omega) ⟨rfl, hW⟩
set_option maxHeartbeats 4000000 in
set_option maxRecDepth 100000 in
theorem c_LforgeTIA (l : Launch) (D : va_G) (A : Nat → Prop) {P : Heap → Prop} {q0 : Nat} (hrc : ∀ (s : State) (H : Heap), mi_E D A s → P H → ∃ cell : Cell, H[q0]? = some cell ∧ cell.vm.isStatics = false ∧ s.vm.findClass "Voxelmint" = some cell.cls) {x y z : Int32} {d : Nat} (hd : d ≤ 8) (hM : mi_Th l yX4_forge (Cond.code yX4_forge cX4_forge 6 (some Jvm.ClassFile.FieldType.int)) (mi_rq d 1 6) D A P [.ref q0, .int x, .int y, .int z] mi_IA 1 6) : mi_Mi l yL_forge (Cond.codeWith yL_forge cL_forge 6 (some Jvm.ClassFile.FieldType.int) [(0, 9, 12, 14), (0, 9, 17, 16), (0, 9, 22, 18)]) (mi_rq 9 1 6) D A P [.ref q0, .int x, .int y, .int z] 1 6 (fun r H => r = -72 ∧ P H) := by
  refine mi_startH (cc := cL_forge) (nL := 6) (ret := (some Jvm.ClassFile.FieldType.int)) (hh := [(0, 9, 12, 14), (0, 9, 17, 16), (0, 9, 22, 18)]) rfl (by decide) (Nat.le_of_ble_eq_true rfl) ?_
  intro p e s m below meth c ls S E hW hS hr hk ht hl
  have S : CallFix p m c cL_forge 6 s _ ((Cond.codeWith yL_forge cL_forge 6 (some Jvm.ClassFile.FieldType.int) [(0, 9, 12, 14), (0, 9, 17, 16), (0, 9, 22, 18)]) :: mi_G) RL := S
  have hl : lv_has ls 6 [(0, .ref q0), (1, .int x), (2, .int y), (3, .int z)] := hl
  refine lv_aload_n S.1 S.2.1 dL_forge_0 rfl (lv_at hl 0 rfl) ?_
  refine lv_iload_n S.1 S.2.1 dL_forge_1 rfl (lv_at hl 1 rfl) ?_
  refine lv_iload_n S.1 S.2.1 dL_forge_2 rfl (lv_at hl 2 rfl) ?_
  refine lv_iload_n S.1 S.2.1 dL_forge_3 rfl (lv_at hl 3 rfl) ?_
  refine mi_cTh (P := P) (Ex := mi_IA) (mi_runVX (P := P) (As := [.int x, .int y, .int z]) (rest := []) S E hS hW q0 hM (hrc _ _ E hW) mw_568 mw_565 mw_566 mw_567 mw_18 ⟨by decide, by decide, by decide +kernel⟩ ⟨rfl, rfl, by show d + 1 ≤ 9; omega, by show 8 + (6 + 11) + 37 * d ≤ 37 * 9; omega⟩ (n := 3) rfl hl.1 rfl (Nat.le_of_ble_eq_true rfl) dL_forge_4 ⟨by show 0 + 1 ≤ 1; omega, by show 0 + 6 ≤ 6; omega⟩) hS (fun ce q9 H locs hW hS h1 h2 h3 => ?_)
  refine vx_catch (name := mi_IA) S.2.2.2.1 [⟨0, 9, 12, 14⟩] ⟨0, 9, 17, 16⟩ [⟨0, 9, 22, 18⟩] ht (List.forall_mem_cons.mpr ⟨Or.inr ⟨by decide, mi_IO, (S.2.2.2.2 _ (List.mem_cons_of_mem _ mw_193)), E.2.2.2.1 (mi_IA, mi_IO) (by decide)⟩, fun _ h => absurd h List.not_mem_nil⟩) rfl (by decide) (S.2.2.2.2 _ (List.mem_cons_of_mem _ mw_194)) (va_Nw.use rfl (E.2.2.1 (mi_IA, mi_IA) (by decide))) h1 h2 h3 ?_
  refine lv_astore (lv' := [(5, .ref q9), (0, .ref q0), (1, .int x), (2, .int y), (3, .int z)]) S.1 S.2.1 dL_forge_17 hl (by decide) rfl (fun ls hl => ?_)
  refine lv_bipush (v := (-72)) S.1 S.2.1 dL_forge_19 (by decide) ?_
  exact mi_retMi S hr hk hS dL_forge_21 (by show 0 + 1 ≤ 1; omega) (by show 0 + 6 ≤ 6; omega) ⟨rfl, hW⟩
set_option maxHeartbeats 4000000 in
set_option maxRecDepth 100000 in
theorem c_LforgeTIS (l : Launch) (D : va_G) (A : Nat → Prop) {P : Heap → Prop} {q0 : Nat} (hrc : ∀ (s : State) (H : Heap), mi_E D A s → P H → ∃ cell : Cell, H[q0]? = some cell ∧ cell.vm.isStatics = false ∧ s.vm.findClass "Voxelmint" = some cell.cls) {x y z : Int32} {d : Nat} (hd : d ≤ 8) (hM : mi_Th l yX4_forge (Cond.code yX4_forge cX4_forge 6 (some Jvm.ClassFile.FieldType.int)) (mi_rq d 1 6) D A P [.ref q0, .int x, .int y, .int z] mi_IS 1 6) : mi_Mi l yL_forge (Cond.codeWith yL_forge cL_forge 6 (some Jvm.ClassFile.FieldType.int) [(0, 9, 12, 14), (0, 9, 17, 16), (0, 9, 22, 18)]) (mi_rq 9 1 6) D A P [.ref q0, .int x, .int y, .int z] 1 6 (fun r H => r = -73 ∧ P H) := by
  refine mi_startH (cc := cL_forge) (nL := 6) (ret := (some Jvm.ClassFile.FieldType.int)) (hh := [(0, 9, 12, 14), (0, 9, 17, 16), (0, 9, 22, 18)]) rfl (by decide) (Nat.le_of_ble_eq_true rfl) ?_
  intro p e s m below meth c ls S E hW hS hr hk ht hl
  have S : CallFix p m c cL_forge 6 s _ ((Cond.codeWith yL_forge cL_forge 6 (some Jvm.ClassFile.FieldType.int) [(0, 9, 12, 14), (0, 9, 17, 16), (0, 9, 22, 18)]) :: mi_G) RL := S
  have hl : lv_has ls 6 [(0, .ref q0), (1, .int x), (2, .int y), (3, .int z)] := hl
  refine lv_aload_n S.1 S.2.1 dL_forge_0 rfl (lv_at hl 0 rfl) ?_
  refine lv_iload_n S.1 S.2.1 dL_forge_1 rfl (lv_at hl 1 rfl) ?_
  refine lv_iload_n S.1 S.2.1 dL_forge_2 rfl (lv_at hl 2 rfl) ?_
  refine lv_iload_n S.1 S.2.1 dL_forge_3 rfl (lv_at hl 3 rfl) ?_
  refine mi_cTh (P := P) (Ex := mi_IS) (mi_runVX (P := P) (As := [.int x, .int y, .int z]) (rest := []) S E hS hW q0 hM (hrc _ _ E hW) mw_568 mw_565 mw_566 mw_567 mw_18 ⟨by decide, by decide, by decide +kernel⟩ ⟨rfl, rfl, by show d + 1 ≤ 9; omega, by show 8 + (6 + 11) + 37 * d ≤ 37 * 9; omega⟩ (n := 3) rfl hl.1 rfl (Nat.le_of_ble_eq_true rfl) dL_forge_4 ⟨by show 0 + 1 ≤ 1; omega, by show 0 + 6 ≤ 6; omega⟩) hS (fun ce q9 H locs hW hS h1 h2 h3 => ?_)
  refine vx_catch (name := mi_IS) S.2.2.2.1 [⟨0, 9, 12, 14⟩, ⟨0, 9, 17, 16⟩] ⟨0, 9, 22, 18⟩ [] ht (List.forall_mem_cons.mpr ⟨Or.inr ⟨by decide, mi_IO, (S.2.2.2.2 _ (List.mem_cons_of_mem _ mw_193)), E.2.2.2.1 (mi_IS, mi_IO) (by decide)⟩, List.forall_mem_cons.mpr ⟨Or.inr ⟨by decide, mi_IA, (S.2.2.2.2 _ (List.mem_cons_of_mem _ mw_194)), E.2.2.2.1 (mi_IS, mi_IA) (by decide)⟩, fun _ h => absurd h List.not_mem_nil⟩⟩) rfl (by decide) (S.2.2.2.2 _ (List.mem_cons_of_mem _ mw_195)) (va_Nw.use rfl (E.2.2.1 (mi_IS, mi_IS) (by decide))) h1 h2 h3 ?_
  refine lv_astore (lv' := [(5, .ref q9), (0, .ref q0), (1, .int x), (2, .int y), (3, .int z)]) S.1 S.2.1 dL_forge_22 hl (by decide) rfl (fun ls hl => ?_)
  refine lv_bipush (v := (-73)) S.1 S.2.1 dL_forge_24 (by decide) ?_
  exact mi_retMi S hr hk hS dL_forge_26 (by show 0 + 1 ≤ 1; omega) (by show 0 + 6 ≤ 6; omega) ⟨rfl, hW⟩
set_option maxHeartbeats 4000000 in
set_option maxRecDepth 100000 in
theorem c_LdieHeightR (l : Launch) (D : va_G) (A : Nat → Prop) {P : Heap → Prop} {q0 : Nat} (hrc : ∀ (s : State) (H : Heap), mi_E D A s → P H → ∃ cell : Cell, H[q0]? = some cell ∧ cell.vm.isStatics = false ∧ s.vm.findClass "Voxelmint" = some cell.cls) {x y : Int32} {a : Int32} {d : Nat} (hd : d ≤ 8) (hM : mi_Rd l yX4_dieHeight (Cond.code yX4_dieHeight cX4_dieHeight 3 (some Jvm.ClassFile.FieldType.int)) (mi_rm d) D A P [.ref q0, .int x, .int y] (fun r => r = a)) : mi_Rd l yL_dieHeight (Cond.codeWith yL_dieHeight cL_dieHeight 5 (some Jvm.ClassFile.FieldType.int) [(0, 7, 10, 14)]) (mi_rm 9) D A P [.ref q0, .int x, .int y] (fun r => r = a) := by
  refine mi_startH (cc := cL_dieHeight) (nL := 5) (ret := (some Jvm.ClassFile.FieldType.int)) (hh := [(0, 7, 10, 14)]) rfl (by decide) (Nat.le_of_ble_eq_true rfl) ?_
  intro p e s m below meth c ls S E hW hS hr hk ht hl
  have S : CallFix p m c cL_dieHeight 5 s _ ((Cond.codeWith yL_dieHeight cL_dieHeight 5 (some Jvm.ClassFile.FieldType.int) [(0, 7, 10, 14)]) :: mi_G) RL := S
  have hl : lv_has ls 5 [(0, .ref q0), (1, .int x), (2, .int y)] := hl
  refine lv_aload_n S.1 S.2.1 dL_dieHeight_0 rfl (lv_at hl 0 rfl) ?_
  refine lv_iload_n S.1 S.2.1 dL_dieHeight_1 rfl (lv_at hl 1 rfl) ?_
  refine lv_iload_n S.1 S.2.1 dL_dieHeight_2 rfl (lv_at hl 2 rfl) ?_
  refine mi_cR (mi_runV (P := P) (As := [.int x, .int y]) (rest := []) S E hS hW q0 hM (hrc _ _ E hW) mw_651 mw_648 mw_649 mw_650 mw_18 ⟨by decide, by decide, by decide +kernel⟩ ⟨rfl, rfl, by show d + 1 ≤ 9; omega, by show 8 + (3 + 11) + 37 * d ≤ 37 * 9; omega⟩ (n := 2) rfl hl.1 rfl (Nat.le_of_ble_eq_true rfl) dL_dieHeight_3 ⟨by show 0 + 0 ≤ 0; omega, by show 0 + 0 ≤ 0; omega⟩) (fun r9 e9 => ?_)
  subst e9
  refine lv_istore_n (lv' := [(3, .int r9), (0, .ref q0), (1, .int x), (2, .int y)]) S.1 S.2.1 dL_dieHeight_6 rfl hl (by decide) rfl (fun ls hl => ?_)
  refine lv_goto (tgt := 15) S.1 S.2.1 dL_dieHeight_7 (by decide) ?_
  refine lv_iload_n S.1 S.2.1 dL_dieHeight_15 rfl (lv_at hl 0 rfl) ?_
  exact mi_retR S hr hk dL_dieHeight_16 rfl
set_option maxHeartbeats 4000000 in
set_option maxRecDepth 100000 in
theorem c_LdieHeightTIO (l : Launch) (D : va_G) (A : Nat → Prop) {P : Heap → Prop} {q0 : Nat} (hrc : ∀ (s : State) (H : Heap), mi_E D A s → P H → ∃ cell : Cell, H[q0]? = some cell ∧ cell.vm.isStatics = false ∧ s.vm.findClass "Voxelmint" = some cell.cls) {x y : Int32} {d : Nat} (hd : d ≤ 8) (hM : mi_Th l yX4_dieHeight (Cond.code yX4_dieHeight cX4_dieHeight 3 (some Jvm.ClassFile.FieldType.int)) (mi_rq d 1 6) D A P [.ref q0, .int x, .int y] mi_IO 1 6) : mi_Mi l yL_dieHeight (Cond.codeWith yL_dieHeight cL_dieHeight 5 (some Jvm.ClassFile.FieldType.int) [(0, 7, 10, 14)]) (mi_rq 9 1 6) D A P [.ref q0, .int x, .int y] 1 6 (fun r H => r = -71 ∧ P H) := by
  refine mi_startH (cc := cL_dieHeight) (nL := 5) (ret := (some Jvm.ClassFile.FieldType.int)) (hh := [(0, 7, 10, 14)]) rfl (by decide) (Nat.le_of_ble_eq_true rfl) ?_
  intro p e s m below meth c ls S E hW hS hr hk ht hl
  have S : CallFix p m c cL_dieHeight 5 s _ ((Cond.codeWith yL_dieHeight cL_dieHeight 5 (some Jvm.ClassFile.FieldType.int) [(0, 7, 10, 14)]) :: mi_G) RL := S
  have hl : lv_has ls 5 [(0, .ref q0), (1, .int x), (2, .int y)] := hl
  refine lv_aload_n S.1 S.2.1 dL_dieHeight_0 rfl (lv_at hl 0 rfl) ?_
  refine lv_iload_n S.1 S.2.1 dL_dieHeight_1 rfl (lv_at hl 1 rfl) ?_
  refine lv_iload_n S.1 S.2.1 dL_dieHeight_2 rfl (lv_at hl 2 rfl) ?_
  refine mi_cTh (P := P) (Ex := mi_IO) (mi_runVX (P := P) (As := [.int x, .int y]) (rest := []) S E hS hW q0 hM (hrc _ _ E hW) mw_651 mw_648 mw_649 mw_650 mw_18 ⟨by decide, by decide, by decide +kernel⟩ ⟨rfl, rfl, by show d + 1 ≤ 9; omega, by show 8 + (3 + 11) + 37 * d ≤ 37 * 9; omega⟩ (n := 2) rfl hl.1 rfl (Nat.le_of_ble_eq_true rfl) dL_dieHeight_3 ⟨by show 0 + 1 ≤ 1; omega, by show 0 + 6 ≤ 6; omega⟩) hS (fun ce q9 H locs hW hS h1 h2 h3 => ?_)
  refine vx_catch (name := mi_IO) S.2.2.2.1 [] ⟨0, 7, 10, 14⟩ [] ht (fun z hz => absurd hz List.not_mem_nil) rfl (by decide) (S.2.2.2.2 _ (List.mem_cons_of_mem _ mw_193)) (va_Nw.use rfl (E.2.2.1 (mi_IO, mi_IO) (by decide))) h1 h2 h3 ?_
  refine lv_astore (lv' := [(4, .ref q9), (0, .ref q0), (1, .int x), (2, .int y)]) S.1 S.2.1 dL_dieHeight_10 hl (by decide) rfl (fun ls hl => ?_)
  refine lv_bipush (v := (-71)) S.1 S.2.1 dL_dieHeight_12 (by decide) ?_
  exact mi_retMi S hr hk hS dL_dieHeight_14 (by show 0 + 1 ≤ 1; omega) (by show 0 + 6 ≤ 6; omega) ⟨rfl, hW⟩
set_option maxHeartbeats 4000000 in
set_option maxRecDepth 100000 in
theorem c_LcoinHeightR (l : Launch) (D : va_G) (A : Nat → Prop) {P : Heap → Prop} {q0 : Nat} (hrc : ∀ (s : State) (H : Heap), mi_E D A s → P H → ∃ cell : Cell, H[q0]? = some cell ∧ cell.vm.isStatics = false ∧ s.vm.findClass "Voxelmint" = some cell.cls) {x y : Int32} {a : Int32} {d : Nat} (hd : d ≤ 8) (hM : mi_Rd l yX4_coinHeight (Cond.code yX4_coinHeight cX4_coinHeight 3 (some Jvm.ClassFile.FieldType.int)) (mi_rm d) D A P [.ref q0, .int x, .int y] (fun r => r = a)) : mi_Rd l yL_coinHeight (Cond.codeWith yL_coinHeight cL_coinHeight 5 (some Jvm.ClassFile.FieldType.int) [(0, 7, 10, 14)]) (mi_rm 9) D A P [.ref q0, .int x, .int y] (fun r => r = a) := by
  refine mi_startH (cc := cL_coinHeight) (nL := 5) (ret := (some Jvm.ClassFile.FieldType.int)) (hh := [(0, 7, 10, 14)]) rfl (by decide) (Nat.le_of_ble_eq_true rfl) ?_
  intro p e s m below meth c ls S E hW hS hr hk ht hl
  have S : CallFix p m c cL_coinHeight 5 s _ ((Cond.codeWith yL_coinHeight cL_coinHeight 5 (some Jvm.ClassFile.FieldType.int) [(0, 7, 10, 14)]) :: mi_G) RL := S
  have hl : lv_has ls 5 [(0, .ref q0), (1, .int x), (2, .int y)] := hl
  refine lv_aload_n S.1 S.2.1 dL_coinHeight_0 rfl (lv_at hl 0 rfl) ?_
  refine lv_iload_n S.1 S.2.1 dL_coinHeight_1 rfl (lv_at hl 1 rfl) ?_
  refine lv_iload_n S.1 S.2.1 dL_coinHeight_2 rfl (lv_at hl 2 rfl) ?_
  refine mi_cR (mi_runV (P := P) (As := [.int x, .int y]) (rest := []) S E hS hW q0 hM (hrc _ _ E hW) mw_661 mw_658 mw_659 mw_660 mw_18 ⟨by decide, by decide, by decide +kernel⟩ ⟨rfl, rfl, by show d + 1 ≤ 9; omega, by show 8 + (3 + 11) + 37 * d ≤ 37 * 9; omega⟩ (n := 2) rfl hl.1 rfl (Nat.le_of_ble_eq_true rfl) dL_coinHeight_3 ⟨by show 0 + 0 ≤ 0; omega, by show 0 + 0 ≤ 0; omega⟩) (fun r9 e9 => ?_)
  subst e9
  refine lv_istore_n (lv' := [(3, .int r9), (0, .ref q0), (1, .int x), (2, .int y)]) S.1 S.2.1 dL_coinHeight_6 rfl hl (by decide) rfl (fun ls hl => ?_)
  refine lv_goto (tgt := 15) S.1 S.2.1 dL_coinHeight_7 (by decide) ?_
  refine lv_iload_n S.1 S.2.1 dL_coinHeight_15 rfl (lv_at hl 0 rfl) ?_
  exact mi_retR S hr hk dL_coinHeight_16 rfl
set_option maxHeartbeats 4000000 in
set_option maxRecDepth 100000 in
theorem c_LcoinHeightTIO (l : Launch) (D : va_G) (A : Nat → Prop) {P : Heap → Prop} {q0 : Nat} (hrc : ∀ (s : State) (H : Heap), mi_E D A s → P H → ∃ cell : Cell, H[q0]? = some cell ∧ cell.vm.isStatics = false ∧ s.vm.findClass "Voxelmint" = some cell.cls) {x y : Int32} {d : Nat} (hd : d ≤ 8) (hM : mi_Th l yX4_coinHeight (Cond.code yX4_coinHeight cX4_coinHeight 3 (some Jvm.ClassFile.FieldType.int)) (mi_rq d 1 6) D A P [.ref q0, .int x, .int y] mi_IO 1 6) : mi_Mi l yL_coinHeight (Cond.codeWith yL_coinHeight cL_coinHeight 5 (some Jvm.ClassFile.FieldType.int) [(0, 7, 10, 14)]) (mi_rq 9 1 6) D A P [.ref q0, .int x, .int y] 1 6 (fun r H => r = -71 ∧ P H) := by
  refine mi_startH (cc := cL_coinHeight) (nL := 5) (ret := (some Jvm.ClassFile.FieldType.int)) (hh := [(0, 7, 10, 14)]) rfl (by decide) (Nat.le_of_ble_eq_true rfl) ?_
  intro p e s m below meth c ls S E hW hS hr hk ht hl
  have S : CallFix p m c cL_coinHeight 5 s _ ((Cond.codeWith yL_coinHeight cL_coinHeight 5 (some Jvm.ClassFile.FieldType.int) [(0, 7, 10, 14)]) :: mi_G) RL := S
  have hl : lv_has ls 5 [(0, .ref q0), (1, .int x), (2, .int y)] := hl
  refine lv_aload_n S.1 S.2.1 dL_coinHeight_0 rfl (lv_at hl 0 rfl) ?_
  refine lv_iload_n S.1 S.2.1 dL_coinHeight_1 rfl (lv_at hl 1 rfl) ?_
  refine lv_iload_n S.1 S.2.1 dL_coinHeight_2 rfl (lv_at hl 2 rfl) ?_
  refine mi_cTh (P := P) (Ex := mi_IO) (mi_runVX (P := P) (As := [.int x, .int y]) (rest := []) S E hS hW q0 hM (hrc _ _ E hW) mw_661 mw_658 mw_659 mw_660 mw_18 ⟨by decide, by decide, by decide +kernel⟩ ⟨rfl, rfl, by show d + 1 ≤ 9; omega, by show 8 + (3 + 11) + 37 * d ≤ 37 * 9; omega⟩ (n := 2) rfl hl.1 rfl (Nat.le_of_ble_eq_true rfl) dL_coinHeight_3 ⟨by show 0 + 1 ≤ 1; omega, by show 0 + 6 ≤ 6; omega⟩) hS (fun ce q9 H locs hW hS h1 h2 h3 => ?_)
  refine vx_catch (name := mi_IO) S.2.2.2.1 [] ⟨0, 7, 10, 14⟩ [] ht (fun z hz => absurd hz List.not_mem_nil) rfl (by decide) (S.2.2.2.2 _ (List.mem_cons_of_mem _ mw_193)) (va_Nw.use rfl (E.2.2.1 (mi_IO, mi_IO) (by decide))) h1 h2 h3 ?_
  refine lv_astore (lv' := [(4, .ref q9), (0, .ref q0), (1, .int x), (2, .int y)]) S.1 S.2.1 dL_coinHeight_10 hl (by decide) rfl (fun ls hl => ?_)
  refine lv_bipush (v := (-71)) S.1 S.2.1 dL_coinHeight_12 (by decide) ?_
  exact mi_retMi S hr hk hS dL_coinHeight_14 (by show 0 + 1 ≤ 1; omega) (by show 0 + 6 ≤ 6; omega) ⟨rfl, hW⟩
set_option maxHeartbeats 4000000 in
set_option maxRecDepth 100000 in
theorem c_LgradeR (l : Launch) (D : va_G) (A : Nat → Prop) {P : Heap → Prop} {q0 : Nat} (hrc : ∀ (s : State) (H : Heap), mi_E D A s → P H → ∃ cell : Cell, H[q0]? = some cell ∧ cell.vm.isStatics = false ∧ s.vm.findClass "Voxelmint" = some cell.cls) {x : Int32} {a : Int32} {d : Nat} (hd : d ≤ 8) (hM : mi_Rd l yX4_grade (Cond.code yX4_grade cX4_grade 4 (some Jvm.ClassFile.FieldType.int)) (mi_rm d) D A P [.ref q0, .int x] (fun r => r = a)) : mi_Rd l yL_grade (Cond.codeWith yL_grade cL_grade 4 (some Jvm.ClassFile.FieldType.int) [(0, 6, 9, 14)]) (mi_rm 9) D A P [.ref q0, .int x] (fun r => r = a) := by
  refine mi_startH (cc := cL_grade) (nL := 4) (ret := (some Jvm.ClassFile.FieldType.int)) (hh := [(0, 6, 9, 14)]) rfl (by decide) (Nat.le_of_ble_eq_true rfl) ?_
  intro p e s m below meth c ls S E hW hS hr hk ht hl
  have S : CallFix p m c cL_grade 4 s _ ((Cond.codeWith yL_grade cL_grade 4 (some Jvm.ClassFile.FieldType.int) [(0, 6, 9, 14)]) :: mi_G) RL := S
  have hl : lv_has ls 4 [(0, .ref q0), (1, .int x)] := hl
  refine lv_aload_n S.1 S.2.1 dL_grade_0 rfl (lv_at hl 0 rfl) ?_
  refine lv_iload_n S.1 S.2.1 dL_grade_1 rfl (lv_at hl 1 rfl) ?_
  refine mi_cR (mi_runV (P := P) (As := [.int x]) (rest := []) S E hS hW q0 hM (hrc _ _ E hW) mw_668 mw_665 mw_666 mw_667 mw_18 ⟨by decide, by decide, by decide +kernel⟩ ⟨rfl, rfl, by show d + 1 ≤ 9; omega, by show 8 + (4 + 11) + 37 * d ≤ 37 * 9; omega⟩ (n := 1) rfl hl.1 rfl (Nat.le_of_ble_eq_true rfl) dL_grade_2 ⟨by show 0 + 0 ≤ 0; omega, by show 0 + 0 ≤ 0; omega⟩) (fun r9 e9 => ?_)
  subst e9
  refine lv_istore_n (lv' := [(2, .int r9), (0, .ref q0), (1, .int x)]) S.1 S.2.1 dL_grade_5 rfl hl (by decide) rfl (fun ls hl => ?_)
  refine lv_goto (tgt := 13) S.1 S.2.1 dL_grade_6 (by decide) ?_
  refine lv_iload_n S.1 S.2.1 dL_grade_13 rfl (lv_at hl 0 rfl) ?_
  exact mi_retR S hr hk dL_grade_14 rfl
set_option maxHeartbeats 4000000 in
set_option maxRecDepth 100000 in
theorem c_LgradeTIO (l : Launch) (D : va_G) (A : Nat → Prop) {P : Heap → Prop} {q0 : Nat} (hrc : ∀ (s : State) (H : Heap), mi_E D A s → P H → ∃ cell : Cell, H[q0]? = some cell ∧ cell.vm.isStatics = false ∧ s.vm.findClass "Voxelmint" = some cell.cls) {x : Int32} {d : Nat} (hd : d ≤ 8) (hM : mi_Th l yX4_grade (Cond.code yX4_grade cX4_grade 4 (some Jvm.ClassFile.FieldType.int)) (mi_rq d 1 6) D A P [.ref q0, .int x] mi_IO 1 6) : mi_Mi l yL_grade (Cond.codeWith yL_grade cL_grade 4 (some Jvm.ClassFile.FieldType.int) [(0, 6, 9, 14)]) (mi_rq 9 1 6) D A P [.ref q0, .int x] 1 6 (fun r H => r = -71 ∧ P H) := by
  refine mi_startH (cc := cL_grade) (nL := 4) (ret := (some Jvm.ClassFile.FieldType.int)) (hh := [(0, 6, 9, 14)]) rfl (by decide) (Nat.le_of_ble_eq_true rfl) ?_
  intro p e s m below meth c ls S E hW hS hr hk ht hl
  have S : CallFix p m c cL_grade 4 s _ ((Cond.codeWith yL_grade cL_grade 4 (some Jvm.ClassFile.FieldType.int) [(0, 6, 9, 14)]) :: mi_G) RL := S
  have hl : lv_has ls 4 [(0, .ref q0), (1, .int x)] := hl
  refine lv_aload_n S.1 S.2.1 dL_grade_0 rfl (lv_at hl 0 rfl) ?_
  refine lv_iload_n S.1 S.2.1 dL_grade_1 rfl (lv_at hl 1 rfl) ?_
  refine mi_cTh (P := P) (Ex := mi_IO) (mi_runVX (P := P) (As := [.int x]) (rest := []) S E hS hW q0 hM (hrc _ _ E hW) mw_668 mw_665 mw_666 mw_667 mw_18 ⟨by decide, by decide, by decide +kernel⟩ ⟨rfl, rfl, by show d + 1 ≤ 9; omega, by show 8 + (4 + 11) + 37 * d ≤ 37 * 9; omega⟩ (n := 1) rfl hl.1 rfl (Nat.le_of_ble_eq_true rfl) dL_grade_2 ⟨by show 0 + 1 ≤ 1; omega, by show 0 + 6 ≤ 6; omega⟩) hS (fun ce q9 H locs hW hS h1 h2 h3 => ?_)
  refine vx_catch (name := mi_IO) S.2.2.2.1 [] ⟨0, 6, 9, 14⟩ [] ht (fun z hz => absurd hz List.not_mem_nil) rfl (by decide) (S.2.2.2.2 _ (List.mem_cons_of_mem _ mw_193)) (va_Nw.use rfl (E.2.2.1 (mi_IO, mi_IO) (by decide))) h1 h2 h3 ?_
  refine lv_astore_n (lv' := [(3, .ref q9), (0, .ref q0), (1, .int x)]) S.1 S.2.1 dL_grade_9 rfl hl (by decide) rfl (fun ls hl => ?_)
  refine lv_bipush (v := (-71)) S.1 S.2.1 dL_grade_10 (by decide) ?_
  exact mi_retMi S hr hk hS dL_grade_12 (by show 0 + 1 ≤ 1; omega) (by show 0 + 6 ≤ 6; omega) ⟨rfl, hW⟩
set_option maxHeartbeats 4000000 in
set_option maxRecDepth 100000 in
theorem c_LdistanceR (l : Launch) (D : va_G) (A : Nat → Prop) {P : Heap → Prop} {q0 : Nat} (hrc : ∀ (s : State) (H : Heap), mi_E D A s → P H → ∃ cell : Cell, H[q0]? = some cell ∧ cell.vm.isStatics = false ∧ s.vm.findClass "Voxelmint" = some cell.cls) {x y : Int32} {a : Int32} {d : Nat} (hd : d ≤ 8) (hM : mi_Rd l yX4_distance (Cond.code yX4_distance cX4_distance 3 (some Jvm.ClassFile.FieldType.int)) (mi_rm d) D A P [.ref q0, .int x, .int y] (fun r => r = a)) : mi_Rd l yL_distance (Cond.codeWith yL_distance cL_distance 5 (some Jvm.ClassFile.FieldType.int) [(0, 7, 10, 14)]) (mi_rm 9) D A P [.ref q0, .int x, .int y] (fun r => r = a) := by
  refine mi_startH (cc := cL_distance) (nL := 5) (ret := (some Jvm.ClassFile.FieldType.int)) (hh := [(0, 7, 10, 14)]) rfl (by decide) (Nat.le_of_ble_eq_true rfl) ?_
  intro p e s m below meth c ls S E hW hS hr hk ht hl
  have S : CallFix p m c cL_distance 5 s _ ((Cond.codeWith yL_distance cL_distance 5 (some Jvm.ClassFile.FieldType.int) [(0, 7, 10, 14)]) :: mi_G) RL := S
  have hl : lv_has ls 5 [(0, .ref q0), (1, .int x), (2, .int y)] := hl
  refine lv_aload_n S.1 S.2.1 dL_distance_0 rfl (lv_at hl 0 rfl) ?_
  refine lv_iload_n S.1 S.2.1 dL_distance_1 rfl (lv_at hl 1 rfl) ?_
  refine lv_iload_n S.1 S.2.1 dL_distance_2 rfl (lv_at hl 2 rfl) ?_
  refine mi_cR (mi_runV (P := P) (As := [.int x, .int y]) (rest := []) S E hS hW q0 hM (hrc _ _ E hW) mw_686 mw_683 mw_684 mw_685 mw_18 ⟨by decide, by decide, by decide +kernel⟩ ⟨rfl, rfl, by show d + 1 ≤ 9; omega, by show 8 + (3 + 11) + 37 * d ≤ 37 * 9; omega⟩ (n := 2) rfl hl.1 rfl (Nat.le_of_ble_eq_true rfl) dL_distance_3 ⟨by show 0 + 0 ≤ 0; omega, by show 0 + 0 ≤ 0; omega⟩) (fun r9 e9 => ?_)
  subst e9
  refine lv_istore_n (lv' := [(3, .int r9), (0, .ref q0), (1, .int x), (2, .int y)]) S.1 S.2.1 dL_distance_6 rfl hl (by decide) rfl (fun ls hl => ?_)
  refine lv_goto (tgt := 15) S.1 S.2.1 dL_distance_7 (by decide) ?_
  refine lv_iload_n S.1 S.2.1 dL_distance_15 rfl (lv_at hl 0 rfl) ?_
  exact mi_retR S hr hk dL_distance_16 rfl
set_option maxHeartbeats 4000000 in
set_option maxRecDepth 100000 in
theorem c_LdistanceTIO (l : Launch) (D : va_G) (A : Nat → Prop) {P : Heap → Prop} {q0 : Nat} (hrc : ∀ (s : State) (H : Heap), mi_E D A s → P H → ∃ cell : Cell, H[q0]? = some cell ∧ cell.vm.isStatics = false ∧ s.vm.findClass "Voxelmint" = some cell.cls) {x y : Int32} {d : Nat} (hd : d ≤ 8) (hM : mi_Th l yX4_distance (Cond.code yX4_distance cX4_distance 3 (some Jvm.ClassFile.FieldType.int)) (mi_rq d 1 6) D A P [.ref q0, .int x, .int y] mi_IO 1 6) : mi_Mi l yL_distance (Cond.codeWith yL_distance cL_distance 5 (some Jvm.ClassFile.FieldType.int) [(0, 7, 10, 14)]) (mi_rq 9 1 6) D A P [.ref q0, .int x, .int y] 1 6 (fun r H => r = -71 ∧ P H) := by
  refine mi_startH (cc := cL_distance) (nL := 5) (ret := (some Jvm.ClassFile.FieldType.int)) (hh := [(0, 7, 10, 14)]) rfl (by decide) (Nat.le_of_ble_eq_true rfl) ?_
  intro p e s m below meth c ls S E hW hS hr hk ht hl
  have S : CallFix p m c cL_distance 5 s _ ((Cond.codeWith yL_distance cL_distance 5 (some Jvm.ClassFile.FieldType.int) [(0, 7, 10, 14)]) :: mi_G) RL := S
  have hl : lv_has ls 5 [(0, .ref q0), (1, .int x), (2, .int y)] := hl
  refine lv_aload_n S.1 S.2.1 dL_distance_0 rfl (lv_at hl 0 rfl) ?_
  refine lv_iload_n S.1 S.2.1 dL_distance_1 rfl (lv_at hl 1 rfl) ?_
  refine lv_iload_n S.1 S.2.1 dL_distance_2 rfl (lv_at hl 2 rfl) ?_
  refine mi_cTh (P := P) (Ex := mi_IO) (mi_runVX (P := P) (As := [.int x, .int y]) (rest := []) S E hS hW q0 hM (hrc _ _ E hW) mw_686 mw_683 mw_684 mw_685 mw_18 ⟨by decide, by decide, by decide +kernel⟩ ⟨rfl, rfl, by show d + 1 ≤ 9; omega, by show 8 + (3 + 11) + 37 * d ≤ 37 * 9; omega⟩ (n := 2) rfl hl.1 rfl (Nat.le_of_ble_eq_true rfl) dL_distance_3 ⟨by show 0 + 1 ≤ 1; omega, by show 0 + 6 ≤ 6; omega⟩) hS (fun ce q9 H locs hW hS h1 h2 h3 => ?_)
  refine vx_catch (name := mi_IO) S.2.2.2.1 [] ⟨0, 7, 10, 14⟩ [] ht (fun z hz => absurd hz List.not_mem_nil) rfl (by decide) (S.2.2.2.2 _ (List.mem_cons_of_mem _ mw_193)) (va_Nw.use rfl (E.2.2.1 (mi_IO, mi_IO) (by decide))) h1 h2 h3 ?_
  refine lv_astore (lv' := [(4, .ref q9), (0, .ref q0), (1, .int x), (2, .int y)]) S.1 S.2.1 dL_distance_10 hl (by decide) rfl (fun ls hl => ?_)
  refine lv_bipush (v := (-71)) S.1 S.2.1 dL_distance_12 (by decide) ?_
  exact mi_retMi S hr hk hS dL_distance_14 (by show 0 + 1 ≤ 1; omega) (by show 0 + 6 ≤ 6; omega) ⟨rfl, hW⟩
theorem j_set (l : Launch) (D : va_G) (A : Nat → Prop) (hst : l.stackTraces = false) (q : Nat → Nat) {T : sT} {gl : Nat → Nat → Int64} {gi : Nat → Nat → Int32} (hO : st_ok T) (hAu : ∀ a b, A a → a ≤ b → A b) {a : Nat} (ha : a < 16) {b : Nat} (hb : b < 8) {k : Nat} (hk4 : k < 4) (h61 : sN T < 61) : mi_Mi l yL_set (Cond.codeWith yL_set cL_set 6 (some Jvm.ClassFile.FieldType.int) [(0, 9, 12, 14), (0, 9, 17, 16), (0, 9, 22, 18)]) (mi_rq 9 3 1131) D A (mj_W D A q T gl gi) [.ref (q 0), .int (nI a), .int (nI b), .int (nI k)] 3 1131 (fun r H => r = nI (sN T) ∧ mj_W D A q (st_new T (mi_un (sK T (sW T)) (8 * a + b) k)) gl gi H) :=
  c_LsetM l D A (fun s H E hW => hW.recv E) (d := 8) (by omega) (mj_cM (fun _ => st_ok_new hO h61 (mi_un_lt (fun j hj => hO.2.2.1 (sW T) j hO.1.2.2.1 hj) hk4)) (fun _ ad cf hX => c_set l D A hX hO hAu ha hb hk4 h61))
theorem j_set_x1 (l : Launch) (D : va_G) (A : Nat → Prop) (hst : l.stackTraces = false) (q : Nat → Nat) {T : sT} {gl : Nat → Nat → Int64} {gi : Nat → Nat → Int32} (hO : st_ok T) {x y z : Int32} (hx : ¬ (0 ≤ x.toInt ∧ x.toInt < 16)) : mi_Mi l yL_set (Cond.codeWith yL_set cL_set 6 (some Jvm.ClassFile.FieldType.int) [(0, 9, 12, 14), (0, 9, 17, 16), (0, 9, 22, 18)]) (mi_rq 9 1 6) D A (mj_W D A q T gl gi) [.ref (q 0), .int (x), .int (y), .int (z)] 1 6 (fun r H => r = -71 ∧ mj_W D A q T gl gi H) :=
  c_LsetTIO l D A (fun s H E hW => hW.recv E) (d := 7) (by omega) (mj_cT (fun _ ad cf hX => c_set_x1 l D A hst hX hO hx))
theorem j_set_x2 (l : Launch) (D : va_G) (A : Nat → Prop) (hst : l.stackTraces = false) (q : Nat → Nat) {T : sT} {gl : Nat → Nat → Int64} {gi : Nat → Nat → Int32} (hO : st_ok T) {a : Nat} (ha : a < 16) {x z : Int32} (hx : ¬ (0 ≤ x.toInt ∧ x.toInt < 8)) : mi_Mi l yL_set (Cond.codeWith yL_set cL_set 6 (some Jvm.ClassFile.FieldType.int) [(0, 9, 12, 14), (0, 9, 17, 16), (0, 9, 22, 18)]) (mi_rq 9 1 6) D A (mj_W D A q T gl gi) [.ref (q 0), .int (nI a), .int (x), .int (z)] 1 6 (fun r H => r = -71 ∧ mj_W D A q T gl gi H) :=
  c_LsetTIO l D A (fun s H E hW => hW.recv E) (d := 7) (by omega) (mj_cT (fun _ ad cf hX => c_set_x2 l D A hst hX hO ha hx))
theorem j_set_x3 (l : Launch) (D : va_G) (A : Nat → Prop) (hst : l.stackTraces = false) (q : Nat → Nat) {T : sT} {gl : Nat → Nat → Int64} {gi : Nat → Nat → Int32} (hO : st_ok T) {a : Nat} (ha : a < 16) {b : Nat} (hb : b < 8) {x : Int32} (hx : ¬ (0 ≤ x.toInt ∧ x.toInt ≤ 3)) : mi_Mi l yL_set (Cond.codeWith yL_set cL_set 6 (some Jvm.ClassFile.FieldType.int) [(0, 9, 12, 14), (0, 9, 17, 16), (0, 9, 22, 18)]) (mi_rq 9 1 6) D A (mj_W D A q T gl gi) [.ref (q 0), .int (nI a), .int (nI b), .int (x)] 1 6 (fun r H => r = -72 ∧ mj_W D A q T gl gi H) :=
  c_LsetTIA l D A (fun s H E hW => hW.recv E) (d := 7) (by omega) (mj_cT (fun _ ad cf hX => c_set_x3 l D A hst hX hO ha hb hx))
theorem j_raise (l : Launch) (D : va_G) (A : Nat → Prop) (hst : l.stackTraces = false) (q : Nat → Nat) {T : sT} {gl : Nat → Nat → Int64} {gi : Nat → Nat → Int32} (hO : st_ok T) (hAu : ∀ a b, A a → a ≤ b → A b) {a : Nat} (ha : a < 16) {b : Nat} (hb : b ≤ 8) {k : Nat} (hk1 : 1 ≤ k) (hk4 : k < 4) (h61 : sN T < 61) : mi_Mi l yL_raise (Cond.codeWith yL_raise cL_raise 6 (some Jvm.ClassFile.FieldType.int) [(0, 9, 12, 14), (0, 9, 17, 16), (0, 9, 22, 18)]) (mi_rq 9 3 1131) D A (mj_W D A q T gl gi) [.ref (q 0), .int (nI a), .int (nI b), .int (nI k)] 3 1131 (fun r H => r = nI (sN T) ∧ mj_W D A q (st_new T (sp_ra (sK T (sW T)) a b k 8)) gl gi H) :=
  c_LraiseM l D A (fun s H E hW => hW.recv E) (d := 8) (by omega) (mj_cM (fun _ => st_ok_new hO h61 (sp_ra_lt (fun j hj => hO.2.2.1 (sW T) j hO.1.2.2.1 hj) hk4)) (fun _ ad cf hX => c_raise l D A hX hO hAu ha hb hk1 hk4 h61))
theorem j_raise_x1 (l : Launch) (D : va_G) (A : Nat → Prop) (hst : l.stackTraces = false) (q : Nat → Nat) {T : sT} {gl : Nat → Nat → Int64} {gi : Nat → Nat → Int32} (hO : st_ok T) {x y z : Int32} (hx : ¬ (0 ≤ x.toInt ∧ x.toInt < 16)) : mi_Mi l yL_raise (Cond.codeWith yL_raise cL_raise 6 (some Jvm.ClassFile.FieldType.int) [(0, 9, 12, 14), (0, 9, 17, 16), (0, 9, 22, 18)]) (mi_rq 9 1 6) D A (mj_W D A q T gl gi) [.ref (q 0), .int (x), .int (y), .int (z)] 1 6 (fun r H => r = -71 ∧ mj_W D A q T gl gi H) :=
  c_LraiseTIO l D A (fun s H E hW => hW.recv E) (d := 7) (by omega) (mj_cT (fun _ ad cf hX => c_raise_x1 l D A hst hX hO hx))
theorem j_raise_x2 (l : Launch) (D : va_G) (A : Nat → Prop) (hst : l.stackTraces = false) (q : Nat → Nat) {T : sT} {gl : Nat → Nat → Int64} {gi : Nat → Nat → Int32} (hO : st_ok T) {a : Nat} (ha : a < 16) {x z : Int32} (hx : ¬ (0 ≤ x.toInt ∧ x.toInt ≤ 8)) : mi_Mi l yL_raise (Cond.codeWith yL_raise cL_raise 6 (some Jvm.ClassFile.FieldType.int) [(0, 9, 12, 14), (0, 9, 17, 16), (0, 9, 22, 18)]) (mi_rq 9 1 6) D A (mj_W D A q T gl gi) [.ref (q 0), .int (nI a), .int (x), .int (z)] 1 6 (fun r H => r = -72 ∧ mj_W D A q T gl gi H) :=
  c_LraiseTIA l D A (fun s H E hW => hW.recv E) (d := 7) (by omega) (mj_cT (fun _ ad cf hX => c_raise_x2 l D A hst hX hO ha hx))
theorem j_raise_x3 (l : Launch) (D : va_G) (A : Nat → Prop) (hst : l.stackTraces = false) (q : Nat → Nat) {T : sT} {gl : Nat → Nat → Int64} {gi : Nat → Nat → Int32} (hO : st_ok T) {a : Nat} (ha : a < 16) {b : Nat} (hb : b ≤ 8) {x : Int32} (hx : ¬ (1 ≤ x.toInt ∧ x.toInt ≤ 3)) : mi_Mi l yL_raise (Cond.codeWith yL_raise cL_raise 6 (some Jvm.ClassFile.FieldType.int) [(0, 9, 12, 14), (0, 9, 17, 16), (0, 9, 22, 18)]) (mi_rq 9 1 6) D A (mj_W D A q T gl gi) [.ref (q 0), .int (nI a), .int (nI b), .int (x)] 1 6 (fun r H => r = -72 ∧ mj_W D A q T gl gi H) :=
  c_LraiseTIA l D A (fun s H E hW => hW.recv E) (d := 7) (by omega) (mj_cT (fun _ ad cf hX => c_raise_x3 l D A hst hX hO ha hb hx))
theorem j_layer (l : Launch) (D : va_G) (A : Nat → Prop) (hst : l.stackTraces = false) (q : Nat → Nat) {T : sT} {gl : Nat → Nat → Int64} {gi : Nat → Nat → Int32} (hO : st_ok T) (hAu : ∀ a b, A a → a ≤ b → A b) {b : Nat} (hb : b < 8) {k : Nat} (hk4 : k < 4) (h61 : sN T < 61) : mi_Mi l yL_layer (Cond.codeWith yL_layer cL_layer 5 (some Jvm.ClassFile.FieldType.int) [(0, 7, 10, 14), (0, 7, 15, 16), (0, 7, 20, 18)]) (mi_rq 9 3 1131) D A (mj_W D A q T gl gi) [.ref (q 0), .int (nI b), .int (nI k)] 3 1131 (fun r H => r = nI (sN T) ∧ mj_W D A q (st_new T (sp_la (sK T (sW T)) b k 16)) gl gi H) :=
  c_LlayerM l D A (fun s H E hW => hW.recv E) (d := 8) (by omega) (mj_cM (fun _ => st_ok_new hO h61 (sp_la_lt (fun j hj => hO.2.2.1 (sW T) j hO.1.2.2.1 hj) hk4)) (fun _ ad cf hX => c_layer l D A hX hO hAu hb hk4 h61))
theorem j_layer_x1 (l : Launch) (D : va_G) (A : Nat → Prop) (hst : l.stackTraces = false) (q : Nat → Nat) {T : sT} {gl : Nat → Nat → Int64} {gi : Nat → Nat → Int32} (hO : st_ok T) {x y : Int32} (hx : ¬ (0 ≤ x.toInt ∧ x.toInt < 8)) : mi_Mi l yL_layer (Cond.codeWith yL_layer cL_layer 5 (some Jvm.ClassFile.FieldType.int) [(0, 7, 10, 14), (0, 7, 15, 16), (0, 7, 20, 18)]) (mi_rq 9 1 6) D A (mj_W D A q T gl gi) [.ref (q 0), .int (x), .int (y)] 1 6 (fun r H => r = -71 ∧ mj_W D A q T gl gi H) :=
  c_LlayerTIO l D A (fun s H E hW => hW.recv E) (d := 7) (by omega) (mj_cT (fun _ ad cf hX => c_layer_x1 l D A hst hX hO hx))
theorem j_layer_x2 (l : Launch) (D : va_G) (A : Nat → Prop) (hst : l.stackTraces = false) (q : Nat → Nat) {T : sT} {gl : Nat → Nat → Int64} {gi : Nat → Nat → Int32} (hO : st_ok T) {b : Nat} (hb : b < 8) {x : Int32} (hx : ¬ (0 ≤ x.toInt ∧ x.toInt ≤ 3)) : mi_Mi l yL_layer (Cond.codeWith yL_layer cL_layer 5 (some Jvm.ClassFile.FieldType.int) [(0, 7, 10, 14), (0, 7, 15, 16), (0, 7, 20, 18)]) (mi_rq 9 1 6) D A (mj_W D A q T gl gi) [.ref (q 0), .int (nI b), .int (x)] 1 6 (fun r H => r = -72 ∧ mj_W D A q T gl gi H) :=
  c_LlayerTIA l D A (fun s H E hW => hW.recv E) (d := 7) (by omega) (mj_cT (fun _ ad cf hX => c_layer_x2 l D A hst hX hO hb hx))
theorem j_kind (l : Launch) (D : va_G) (A : Nat → Prop) (hst : l.stackTraces = false) (q : Nat → Nat) {T : sT} {gl : Nat → Nat → Int64} {gi : Nat → Nat → Int32} (hO : st_ok T) {a : Nat} (ha : a < 16) {b : Nat} (hb : b < 8) : mi_Rd l yL_kind (Cond.codeWith yL_kind cL_kind 5 (some Jvm.ClassFile.FieldType.int) [(0, 7, 10, 14)]) (mi_rm 9) D A (mj_W D A q T gl gi) [.ref (q 0), .int (nI a), .int (nI b)] (fun r => r = nI (sK T (sW T) (8 * a + b))) :=
  c_LkindR l D A (fun s H E hW => hW.recv E) (d := 2) (by omega) (mj_cR (fun _ ad cf hX => c_kind l D A hX hO ha hb))
theorem j_kind_x1 (l : Launch) (D : va_G) (A : Nat → Prop) (hst : l.stackTraces = false) (q : Nat → Nat) {T : sT} {gl : Nat → Nat → Int64} {gi : Nat → Nat → Int32} (hO : st_ok T) {x y : Int32} (hx : ¬ (0 ≤ x.toInt ∧ x.toInt < 16)) : mi_Mi l yL_kind (Cond.codeWith yL_kind cL_kind 5 (some Jvm.ClassFile.FieldType.int) [(0, 7, 10, 14)]) (mi_rq 9 1 6) D A (mj_W D A q T gl gi) [.ref (q 0), .int (x), .int (y)] 1 6 (fun r H => r = -71 ∧ mj_W D A q T gl gi H) :=
  c_LkindTIO l D A (fun s H E hW => hW.recv E) (d := 7) (by omega) (mj_cT (fun _ ad cf hX => c_kind_x1 l D A hst hX hO hx))
theorem j_kind_x2 (l : Launch) (D : va_G) (A : Nat → Prop) (hst : l.stackTraces = false) (q : Nat → Nat) {T : sT} {gl : Nat → Nat → Int64} {gi : Nat → Nat → Int32} (hO : st_ok T) {a : Nat} (ha : a < 16) {x : Int32} (hx : ¬ (0 ≤ x.toInt ∧ x.toInt < 8)) : mi_Mi l yL_kind (Cond.codeWith yL_kind cL_kind 5 (some Jvm.ClassFile.FieldType.int) [(0, 7, 10, 14)]) (mi_rq 9 1 6) D A (mj_W D A q T gl gi) [.ref (q 0), .int (nI a), .int (x)] 1 6 (fun r H => r = -71 ∧ mj_W D A q T gl gi H) :=
  c_LkindTIO l D A (fun s H E hW => hW.recv E) (d := 7) (by omega) (mj_cT (fun _ ad cf hX => c_kind_x2 l D A hst hX hO ha hx))
theorem j_runLength (l : Launch) (D : va_G) (A : Nat → Prop) (hst : l.stackTraces = false) (q : Nat → Nat) {T : sT} {gl : Nat → Nat → Int64} {gi : Nat → Nat → Int32} (hO : st_ok T) {a : Nat} (ha : a < 16) {u : Nat} (hu : u < sp_runs (sK T (sW T)) a) : mi_Rd l yL_runLength (Cond.codeWith yL_runLength cL_runLength 5 (some Jvm.ClassFile.FieldType.int) [(0, 7, 10, 14)]) (mi_rm 9) D A (mj_W D A q T gl gi) [.ref (q 0), .int (nI a), .int (nI u)] (fun r => r = nI (sp_rl (sK T (sW T)) a u)) :=
  c_LrunLengthR l D A (fun s H E hW => hW.recv E) (d := 4) (by omega) (mj_cR (fun _ ad cf hX => c_runLength l D A hX hO ha hu))
theorem j_runLength_x2 (l : Launch) (D : va_G) (A : Nat → Prop) (hst : l.stackTraces = false) (q : Nat → Nat) {T : sT} {gl : Nat → Nat → Int64} {gi : Nat → Nat → Int32} (hO : st_ok T) {a : Nat} (ha : a < 16) {x : Int32} (hx : ¬ (0 ≤ x.toInt ∧ x.toInt < sp_runs (sK T (sW T)) a)) : mi_Mi l yL_runLength (Cond.codeWith yL_runLength cL_runLength 5 (some Jvm.ClassFile.FieldType.int) [(0, 7, 10, 14)]) (mi_rq 9 1 6) D A (mj_W D A q T gl gi) [.ref (q 0), .int (nI a), .int (x)] 1 6 (fun r H => r = -71 ∧ mj_W D A q T gl gi H) :=
  c_LrunLengthTIO l D A (fun s H E hW => hW.recv E) (d := 7) (by omega) (mj_cT (fun _ ad cf hX => c_runLength_x2 l D A hst hX hO ha hx))
theorem j_visit (l : Launch) (D : va_G) (A : Nat → Prop) (hst : l.stackTraces = false) (q : Nat → Nat) {T : sT} {gl : Nat → Nat → Int64} {gi : Nat → Nat → Int32} (hO : st_ok T) {a : Nat} (ha : a < sN T) : mi_Mi l yL_visit (Cond.codeWith yL_visit cL_visit 4 (some Jvm.ClassFile.FieldType.int) [(0, 6, 9, 14)]) (mi_rq 9 0 0) D A (mj_W D A q T gl gi) [.ref (q 0), .int (nI a)] 0 0 (fun r H => r = nI (sW T) ∧ mj_W D A q (st_now T a) gl gi H) :=
  c_LvisitM l D A (fun s H E hW => hW.recv E) (d := 3) (by omega) (mj_cM (fun _ => st_ok_now hO ha) (fun _ ad cf hX => c_visit l D A hX hO ha))
theorem j_visit_x1 (l : Launch) (D : va_G) (A : Nat → Prop) (hst : l.stackTraces = false) (q : Nat → Nat) {T : sT} {gl : Nat → Nat → Int64} {gi : Nat → Nat → Int32} (hO : st_ok T) {x : Int32} (hx : ¬ (0 ≤ x.toInt ∧ x.toInt < sN T)) : mi_Mi l yL_visit (Cond.codeWith yL_visit cL_visit 4 (some Jvm.ClassFile.FieldType.int) [(0, 6, 9, 14)]) (mi_rq 9 1 6) D A (mj_W D A q T gl gi) [.ref (q 0), .int (x)] 1 6 (fun r H => r = -71 ∧ mj_W D A q T gl gi H) :=
  c_LvisitTIO l D A (fun s H E hW => hW.recv E) (d := 7) (by omega) (mj_cT (fun _ ad cf hX => c_visit_x1 l D A hst hX hO hx))
theorem j_undo (l : Launch) (D : va_G) (A : Nat → Prop) (hst : l.stackTraces = false) (q : Nat → Nat) {T : sT} {gl : Nat → Nat → Int64} {gi : Nat → Nat → Int32} (hO : st_ok T) (h0 : sW T ≠ 0) : mi_Mi l yL_undo (Cond.codeWith yL_undo cL_undo 3 (some Jvm.ClassFile.FieldType.int) [(0, 5, 8, 18)]) (mi_rq 9 0 0) D A (mj_W D A q T gl gi) [.ref (q 0)] 0 0 (fun r H => r = nI (sP T (sW T)) ∧ mj_W D A q (st_now T (sP T (sW T))) gl gi H) :=
  c_LundoM l D A (fun s H E hW => hW.recv E) (d := 0) (by omega) (mj_cM (fun _ => st_ok_now hO (Nat.lt_trans (hO.2.1 (sW T) (by omega) hO.1.2.2.1) hO.1.2.2.1)) (fun _ ad cf hX => c_undo l D A hX hO h0))
theorem j_undo_x1 (l : Launch) (D : va_G) (A : Nat → Prop) (hst : l.stackTraces = false) (q : Nat → Nat) {T : sT} {gl : Nat → Nat → Int64} {gi : Nat → Nat → Int32} (hO : st_ok T) (h0 : sW T = 0) : mi_Mi l yL_undo (Cond.codeWith yL_undo cL_undo 3 (some Jvm.ClassFile.FieldType.int) [(0, 5, 8, 18)]) (mi_rq 9 1 6) D A (mj_W D A q T gl gi) [.ref (q 0)] 1 6 (fun r H => r = -73 ∧ mj_W D A q T gl gi H) :=
  c_LundoTIS l D A (fun s H E hW => hW.recv E) (d := 6) (by omega) (mj_cT (fun _ ad cf hX => c_undo_x1 l D A hst hX hO h0))
theorem j_redo (l : Launch) (D : va_G) (A : Nat → Prop) (hst : l.stackTraces = false) (q : Nat → Nat) {T : sT} {gl : Nat → Nat → Int64} {gi : Nat → Nat → Int32} (hO : st_ok T) {b : Nat} (hb : b < sp_br T (sW T) (sN T)) : mi_Mi l yL_redo (Cond.codeWith yL_redo cL_redo 4 (some Jvm.ClassFile.FieldType.int) [(0, 6, 9, 14)]) (mi_rq 9 0 0) D A (mj_W D A q T gl gi) [.ref (q 0), .int (nI b)] 0 0 (fun r H => r = nI (sp_fd T (sW T) b (sN T)) ∧ mj_W D A q (st_now T (sp_fd T (sW T) b (sN T))) gl gi H) :=
  c_LredoM l D A (fun s H E hW => hW.recv E) (d := 4) (by omega) (mj_cM (fun _ => st_ok_now hO (sp_fd_lt (S := T) (b := b) hO.1.2.2.1 (sN T) (Nat.le_refl _))) (fun _ ad cf hX => c_redo l D A hX hO hb))
theorem j_redo_x1 (l : Launch) (D : va_G) (A : Nat → Prop) (hst : l.stackTraces = false) (q : Nat → Nat) {T : sT} {gl : Nat → Nat → Int64} {gi : Nat → Nat → Int32} (hO : st_ok T) {x : Int32} (hx : ¬ (0 ≤ x.toInt ∧ x.toInt < sp_br T (sW T) (sN T))) : mi_Mi l yL_redo (Cond.codeWith yL_redo cL_redo 4 (some Jvm.ClassFile.FieldType.int) [(0, 6, 9, 14)]) (mi_rq 9 1 6) D A (mj_W D A q T gl gi) [.ref (q 0), .int (x)] 1 6 (fun r H => r = -71 ∧ mj_W D A q T gl gi H) :=
  c_LredoTIO l D A (fun s H E hW => hW.recv E) (d := 6) (by omega) (mj_cT (fun _ ad cf hX => c_redo_x1 l D A hst hX hO hx))
theorem j_unlike (l : Launch) (D : va_G) (A : Nat → Prop) (hst : l.stackTraces = false) (q : Nat → Nat) {T : sT} {gl : Nat → Nat → Int64} {gi : Nat → Nat → Int32} (hO : st_ok T) {a b : Nat} (ha : a < sN T) (hb : b < sN T) : mi_Rd l yL_unlike (Cond.codeWith yL_unlike cL_unlike 5 (some Jvm.ClassFile.FieldType.int) [(0, 7, 10, 14)]) (mi_rm 9) D A (mj_W D A q T gl gi) [.ref (q 0), .int (nI a), .int (nI b)] (fun r => r = nI (sp_ul T a b 16)) :=
  c_LunlikeR l D A (fun s H E hW => hW.recv E) (d := 3) (by omega) (mj_cR (fun _ ad cf hX => c_unlike l D A hX hO ha hb))
theorem j_unlike_x1 (l : Launch) (D : va_G) (A : Nat → Prop) (hst : l.stackTraces = false) (q : Nat → Nat) {T : sT} {gl : Nat → Nat → Int64} {gi : Nat → Nat → Int32} (hO : st_ok T) {x y : Int32} (hx : ¬ (0 ≤ x.toInt ∧ x.toInt < sN T)) : mi_Mi l yL_unlike (Cond.codeWith yL_unlike cL_unlike 5 (some Jvm.ClassFile.FieldType.int) [(0, 7, 10, 14)]) (mi_rq 9 1 6) D A (mj_W D A q T gl gi) [.ref (q 0), .int (x), .int (y)] 1 6 (fun r H => r = -71 ∧ mj_W D A q T gl gi H) :=
  c_LunlikeTIO l D A (fun s H E hW => hW.recv E) (d := 7) (by omega) (mj_cT (fun _ ad cf hX => c_unlike_x1 l D A hst hX hO hx))
theorem j_unlike_x2 (l : Launch) (D : va_G) (A : Nat → Prop) (hst : l.stackTraces = false) (q : Nat → Nat) {T : sT} {gl : Nat → Nat → Int64} {gi : Nat → Nat → Int32} (hO : st_ok T) {a : Nat} (ha : a < sN T) {x : Int32} (hx : ¬ (0 ≤ x.toInt ∧ x.toInt < sN T)) : mi_Mi l yL_unlike (Cond.codeWith yL_unlike cL_unlike 5 (some Jvm.ClassFile.FieldType.int) [(0, 7, 10, 14)]) (mi_rq 9 1 6) D A (mj_W D A q T gl gi) [.ref (q 0), .int (nI a), .int (x)] 1 6 (fun r H => r = -71 ∧ mj_W D A q T gl gi H) :=
  c_LunlikeTIO l D A (fun s H E hW => hW.recv E) (d := 7) (by omega) (mj_cT (fun _ ad cf hX => c_unlike_x2 l D A hst hX hO ha hx))
theorem j_cut (l : Launch) (D : va_G) (A : Nat → Prop) (hst : l.stackTraces = false) (q : Nat → Nat) {T : sT} {gl : Nat → Nat → Int64} {gi : Nat → Nat → Int32} (hO : st_ok T) (hAu : ∀ a b, A a → a ≤ b → A b) (hct : pc_ct (pc_lst (sK T (sW T))) 128 1) (h8 : sD T < 8) : mi_Mi l yL_cut (Cond.codeWith yL_cut cL_cut 3 (some Jvm.ClassFile.FieldType.int) [(0, 5, 8, 18)]) (mi_rq 9 6 1057) D A (mj_W D A q T gl gi) [.ref (q 0)] 6 1057 (fun r H => r = nI (sD T) ∧ mj_W D A q (st_cut T) gl gi H) :=
  c_LcutM l D A (fun s H E hW => hW.recv E) (d := 8) (by omega) (mj_cM (fun _ => st_ok_cut hO h8) (fun _ ad cf hX => c_cut l D A hX hO hAu hct h8))
theorem j_cut_x1 (l : Launch) (D : va_G) (A : Nat → Prop) (hst : l.stackTraces = false) (q : Nat → Nat) {T : sT} {gl : Nat → Nat → Int64} {gi : Nat → Nat → Int32} (hO : st_ok T) (h8 : sD T = 8) : mi_Mi l yL_cut (Cond.codeWith yL_cut cL_cut 3 (some Jvm.ClassFile.FieldType.int) [(0, 5, 8, 18)]) (mi_rq 9 1 6) D A (mj_W D A q T gl gi) [.ref (q 0)] 1 6 (fun r H => r = -73 ∧ mj_W D A q T gl gi H) :=
  c_LcutTIS l D A (fun s H E hW => hW.recv E) (d := 6) (by omega) (mj_cT (fun _ ad cf hX => c_cut_x1 l D A hst hX hO h8))
theorem j_cut_x2 (l : Launch) (D : va_G) (A : Nat → Prop) (hst : l.stackTraces = false) (q : Nat → Nat) {T : sT} {gl : Nat → Nat → Int64} {gi : Nat → Nat → Int32} (hO : st_ok T) {k : Nat} (hct : pc_ct (pc_lst (sK T (sW T))) 128 k) (hk1 : k ≠ 1) (h8 : sD T < 8) : mi_Mi l yL_cut (Cond.codeWith yL_cut cL_cut 3 (some Jvm.ClassFile.FieldType.int) [(0, 5, 8, 18)]) (mi_rq 9 1 6) D A (mj_W D A q T gl gi) [.ref (q 0)] 1 6 (fun r H => r = -73 ∧ mj_W D A q T gl gi H) :=
  c_LcutTIS l D A (fun s H E hW => hW.recv E) (d := 7) (by omega) (mj_cP (fun _ ad cf hX => c_cut_x2 l D A hst hX hO hct hk1 h8))
theorem j_strike (l : Launch) (D : va_G) (A : Nat → Prop) (hst : l.stackTraces = false) (q : Nat → Nat) {T : sT} {gl : Nat → Nat → Int64} {gi : Nat → Nat → Int32} (hO : st_ok T) (hAu : ∀ a b, A a → a ≤ b → A b) {d : Nat} (hd : d < sD T) (h60 : sC T < 60) : mi_Mi l yL_strike (Cond.codeWith yL_strike cL_strike 4 (some Jvm.ClassFile.FieldType.int) [(0, 6, 9, 14), (0, 6, 13, 18)]) (mi_rq 9 4 2019) D A (mj_W D A q T gl gi) [.ref (q 0), .int (nI d)] 4 2019 (fun r H => r = nI (sC T) ∧ mj_W D A q (st_strike T d) gl gi H) :=
  c_LstrikeM l D A (fun s H E hW => hW.recv E) (d := 8) (by omega) (mj_cM (fun _ => st_ok_strike hO h60 hd) (fun _ ad cf hX => c_strike l D A hX hO hAu hd h60))
theorem j_strike_x1 (l : Launch) (D : va_G) (A : Nat → Prop) (hst : l.stackTraces = false) (q : Nat → Nat) {T : sT} {gl : Nat → Nat → Int64} {gi : Nat → Nat → Int32} (hO : st_ok T) {x : Int32} (hx : ¬ (0 ≤ x.toInt ∧ x.toInt < sD T)) : mi_Mi l yL_strike (Cond.codeWith yL_strike cL_strike 4 (some Jvm.ClassFile.FieldType.int) [(0, 6, 9, 14), (0, 6, 13, 18)]) (mi_rq 9 1 6) D A (mj_W D A q T gl gi) [.ref (q 0), .int (x)] 1 6 (fun r H => r = -71 ∧ mj_W D A q T gl gi H) :=
  c_LstrikeTIO l D A (fun s H E hW => hW.recv E) (d := 7) (by omega) (mj_cT (fun _ ad cf hX => c_strike_x1 l D A hst hX hO hx))
theorem j_strike_x2 (l : Launch) (D : va_G) (A : Nat → Prop) (hst : l.stackTraces = false) (q : Nat → Nat) {T : sT} {gl : Nat → Nat → Int64} {gi : Nat → Nat → Int32} (hO : st_ok T) {d : Nat} (hd : d < sD T) (h60 : sC T = 60) : mi_Mi l yL_strike (Cond.codeWith yL_strike cL_strike 4 (some Jvm.ClassFile.FieldType.int) [(0, 6, 9, 14), (0, 6, 13, 18)]) (mi_rq 9 1 6) D A (mj_W D A q T gl gi) [.ref (q 0), .int (nI d)] 1 6 (fun r H => r = -73 ∧ mj_W D A q T gl gi H) :=
  c_LstrikeTIS l D A (fun s H E hW => hW.recv E) (d := 7) (by omega) (mj_cT (fun _ ad cf hX => c_strike_x2 l D A hst hX hO hd h60))
theorem j_forge (l : Launch) (D : va_G) (A : Nat → Prop) (hst : l.stackTraces = false) (q : Nat → Nat) {T : sT} {gl : Nat → Nat → Int64} {gi : Nat → Nat → Int32} (hO : st_ok T) (hAu : ∀ a b, A a → a ≤ b → A b) {a d : Nat} (ha : a < sC T) (hd : d < sD T) {u : Nat} (hu1 : 1 ≤ u) (hu : u ≤ sX T d) (h60 : sC T < 60) : mi_Mi l yL_forge (Cond.codeWith yL_forge cL_forge 6 (some Jvm.ClassFile.FieldType.int) [(0, 9, 12, 14), (0, 9, 17, 16), (0, 9, 22, 18)]) (mi_rq 9 2 1003) D A (mj_W D A q T gl gi) [.ref (q 0), .int (nI a), .int (nI d), .int (nI u)] 2 1003 (fun r H => r = nI (sC T) ∧ mj_W D A q (st_forge T a d u) gl gi H) :=
  c_LforgeM l D A (fun s H E hW => hW.recv E) (d := 8) (by omega) (mj_cM (fun _ => st_ok_coin hO h60 hd ⟨hu1, hu⟩ (fun c hc => hO.2.2.2.2.2.1 a c ha hc)) (fun _ ad cf hX => c_forge l D A hX hO hAu ha hd hu1 hu h60))
theorem j_forge_x1 (l : Launch) (D : va_G) (A : Nat → Prop) (hst : l.stackTraces = false) (q : Nat → Nat) {T : sT} {gl : Nat → Nat → Int64} {gi : Nat → Nat → Int32} (hO : st_ok T) {x y z : Int32} (hx : ¬ (0 ≤ x.toInt ∧ x.toInt < sC T)) : mi_Mi l yL_forge (Cond.codeWith yL_forge cL_forge 6 (some Jvm.ClassFile.FieldType.int) [(0, 9, 12, 14), (0, 9, 17, 16), (0, 9, 22, 18)]) (mi_rq 9 1 6) D A (mj_W D A q T gl gi) [.ref (q 0), .int (x), .int (y), .int (z)] 1 6 (fun r H => r = -71 ∧ mj_W D A q T gl gi H) :=
  c_LforgeTIO l D A (fun s H E hW => hW.recv E) (d := 7) (by omega) (mj_cT (fun _ ad cf hX => c_forge_x1 l D A hst hX hO hx))
theorem j_forge_x2 (l : Launch) (D : va_G) (A : Nat → Prop) (hst : l.stackTraces = false) (q : Nat → Nat) {T : sT} {gl : Nat → Nat → Int64} {gi : Nat → Nat → Int32} (hO : st_ok T) {a : Nat} (ha : a < sC T) {x z : Int32} (hx : ¬ (0 ≤ x.toInt ∧ x.toInt < sD T)) : mi_Mi l yL_forge (Cond.codeWith yL_forge cL_forge 6 (some Jvm.ClassFile.FieldType.int) [(0, 9, 12, 14), (0, 9, 17, 16), (0, 9, 22, 18)]) (mi_rq 9 1 6) D A (mj_W D A q T gl gi) [.ref (q 0), .int (nI a), .int (x), .int (z)] 1 6 (fun r H => r = -71 ∧ mj_W D A q T gl gi H) :=
  c_LforgeTIO l D A (fun s H E hW => hW.recv E) (d := 7) (by omega) (mj_cT (fun _ ad cf hX => c_forge_x2 l D A hst hX hO ha hx))
theorem j_forge_x3 (l : Launch) (D : va_G) (A : Nat → Prop) (hst : l.stackTraces = false) (q : Nat → Nat) {T : sT} {gl : Nat → Nat → Int64} {gi : Nat → Nat → Int32} (hO : st_ok T) {a d : Nat} (ha : a < sC T) (hd : d < sD T) {x : Int32} (hx : ¬ (1 ≤ x.toInt ∧ x.toInt ≤ 60)) : mi_Mi l yL_forge (Cond.codeWith yL_forge cL_forge 6 (some Jvm.ClassFile.FieldType.int) [(0, 9, 12, 14), (0, 9, 17, 16), (0, 9, 22, 18)]) (mi_rq 9 1 6) D A (mj_W D A q T gl gi) [.ref (q 0), .int (nI a), .int (nI d), .int (x)] 1 6 (fun r H => r = -72 ∧ mj_W D A q T gl gi H) :=
  c_LforgeTIA l D A (fun s H E hW => hW.recv E) (d := 7) (by omega) (mj_cT (fun _ ad cf hX => c_forge_x3 l D A hst hX hO ha hd hx))
theorem j_forge_x4 (l : Launch) (D : va_G) (A : Nat → Prop) (hst : l.stackTraces = false) (q : Nat → Nat) {T : sT} {gl : Nat → Nat → Int64} {gi : Nat → Nat → Int32} (hO : st_ok T) {a d : Nat} (ha : a < sC T) (hd : d < sD T) {u : Nat} (hu1 : 1 ≤ u) (hu : u ≤ 60) (h60 : sC T = 60) : mi_Mi l yL_forge (Cond.codeWith yL_forge cL_forge 6 (some Jvm.ClassFile.FieldType.int) [(0, 9, 12, 14), (0, 9, 17, 16), (0, 9, 22, 18)]) (mi_rq 9 1 6) D A (mj_W D A q T gl gi) [.ref (q 0), .int (nI a), .int (nI d), .int (nI u)] 1 6 (fun r H => r = -73 ∧ mj_W D A q T gl gi H) :=
  c_LforgeTIS l D A (fun s H E hW => hW.recv E) (d := 7) (by omega) (mj_cT (fun _ ad cf hX => c_forge_x4 l D A hst hX hO ha hd hu1 hu h60))
theorem j_forge_x5 (l : Launch) (D : va_G) (A : Nat → Prop) (hst : l.stackTraces = false) (q : Nat → Nat) {T : sT} {gl : Nat → Nat → Int64} {gi : Nat → Nat → Int32} (hO : st_ok T) {a d : Nat} (ha : a < sC T) (hd : d < sD T) {u : Nat} (hu1 : sX T d < u) (hu : u ≤ 60) (h60 : sC T < 60) : mi_Mi l yL_forge (Cond.codeWith yL_forge cL_forge 6 (some Jvm.ClassFile.FieldType.int) [(0, 9, 12, 14), (0, 9, 17, 16), (0, 9, 22, 18)]) (mi_rq 9 1 6) D A (mj_W D A q T gl gi) [.ref (q 0), .int (nI a), .int (nI d), .int (nI u)] 1 6 (fun r H => r = -73 ∧ mj_W D A q T gl gi H) :=
  c_LforgeTIS l D A (fun s H E hW => hW.recv E) (d := 7) (by omega) (mj_cT (fun _ ad cf hX => c_forge_x5 l D A hst hX hO ha hd hu1 hu h60))
theorem j_dieHeight (l : Launch) (D : va_G) (A : Nat → Prop) (hst : l.stackTraces = false) (q : Nat → Nat) {T : sT} {gl : Nat → Nat → Int64} {gi : Nat → Nat → Int32} (hO : st_ok T) {d : Nat} (hd : d < sD T) {b : Nat} (hb : b < 16) : mi_Rd l yL_dieHeight (Cond.codeWith yL_dieHeight cL_dieHeight 5 (some Jvm.ClassFile.FieldType.int) [(0, 7, 10, 14)]) (mi_rm 9) D A (mj_W D A q T gl gi) [.ref (q 0), .int (nI d), .int (nI b)] (fun r => r = nI (sH T d b)) :=
  c_LdieHeightR l D A (fun s H E hW => hW.recv E) (d := 3) (by omega) (mj_cR (fun _ ad cf hX => c_dieHeight l D A hX hO hd hb))
theorem j_dieHeight_x1 (l : Launch) (D : va_G) (A : Nat → Prop) (hst : l.stackTraces = false) (q : Nat → Nat) {T : sT} {gl : Nat → Nat → Int64} {gi : Nat → Nat → Int32} (hO : st_ok T) {x y : Int32} (hx : ¬ (0 ≤ x.toInt ∧ x.toInt < sD T)) : mi_Mi l yL_dieHeight (Cond.codeWith yL_dieHeight cL_dieHeight 5 (some Jvm.ClassFile.FieldType.int) [(0, 7, 10, 14)]) (mi_rq 9 1 6) D A (mj_W D A q T gl gi) [.ref (q 0), .int (x), .int (y)] 1 6 (fun r H => r = -71 ∧ mj_W D A q T gl gi H) :=
  c_LdieHeightTIO l D A (fun s H E hW => hW.recv E) (d := 7) (by omega) (mj_cT (fun _ ad cf hX => c_dieHeight_x1 l D A hst hX hO hx))
theorem j_dieHeight_x2 (l : Launch) (D : va_G) (A : Nat → Prop) (hst : l.stackTraces = false) (q : Nat → Nat) {T : sT} {gl : Nat → Nat → Int64} {gi : Nat → Nat → Int32} (hO : st_ok T) {d : Nat} (hd : d < sD T) {x : Int32} (hx : ¬ (0 ≤ x.toInt ∧ x.toInt < 16)) : mi_Mi l yL_dieHeight (Cond.codeWith yL_dieHeight cL_dieHeight 5 (some Jvm.ClassFile.FieldType.int) [(0, 7, 10, 14)]) (mi_rq 9 1 6) D A (mj_W D A q T gl gi) [.ref (q 0), .int (nI d), .int (x)] 1 6 (fun r H => r = -71 ∧ mj_W D A q T gl gi H) :=
  c_LdieHeightTIO l D A (fun s H E hW => hW.recv E) (d := 7) (by omega) (mj_cT (fun _ ad cf hX => c_dieHeight_x2 l D A hst hX hO hd hx))
theorem j_coinHeight (l : Launch) (D : va_G) (A : Nat → Prop) (hst : l.stackTraces = false) (q : Nat → Nat) {T : sT} {gl : Nat → Nat → Int64} {gi : Nat → Nat → Int32} (hO : st_ok T) {a : Nat} (ha : a < sC T) {b : Nat} (hb : b < 16) : mi_Rd l yL_coinHeight (Cond.codeWith yL_coinHeight cL_coinHeight 5 (some Jvm.ClassFile.FieldType.int) [(0, 7, 10, 14)]) (mi_rm 9) D A (mj_W D A q T gl gi) [.ref (q 0), .int (nI a), .int (nI b)] (fun r => r = nI (sCh T a b)) :=
  c_LcoinHeightR l D A (fun s H E hW => hW.recv E) (d := 3) (by omega) (mj_cR (fun _ ad cf hX => c_coinHeight l D A hX hO ha hb))
theorem j_coinHeight_x1 (l : Launch) (D : va_G) (A : Nat → Prop) (hst : l.stackTraces = false) (q : Nat → Nat) {T : sT} {gl : Nat → Nat → Int64} {gi : Nat → Nat → Int32} (hO : st_ok T) {x y : Int32} (hx : ¬ (0 ≤ x.toInt ∧ x.toInt < sC T)) : mi_Mi l yL_coinHeight (Cond.codeWith yL_coinHeight cL_coinHeight 5 (some Jvm.ClassFile.FieldType.int) [(0, 7, 10, 14)]) (mi_rq 9 1 6) D A (mj_W D A q T gl gi) [.ref (q 0), .int (x), .int (y)] 1 6 (fun r H => r = -71 ∧ mj_W D A q T gl gi H) :=
  c_LcoinHeightTIO l D A (fun s H E hW => hW.recv E) (d := 7) (by omega) (mj_cT (fun _ ad cf hX => c_coinHeight_x1 l D A hst hX hO hx))
theorem j_grade (l : Launch) (D : va_G) (A : Nat → Prop) (hst : l.stackTraces = false) (q : Nat → Nat) {T : sT} {gl : Nat → Nat → Int64} {gi : Nat → Nat → Int32} (hO : st_ok T) {a : Nat} (ha : a < sC T) : mi_Rd l yL_grade (Cond.codeWith yL_grade cL_grade 4 (some Jvm.ClassFile.FieldType.int) [(0, 6, 9, 14)]) (mi_rm 9) D A (mj_W D A q T gl gi) [.ref (q 0), .int (nI a)] (fun r => r = nI (if 20 < sp_ds (sCh T a) (sF T (sCd T a)) 16 then 0 else 100 - 5 * sp_ds (sCh T a) (sF T (sCd T a)) 16)) :=
  c_LgradeR l D A (fun s H E hW => hW.recv E) (d := 3) (by omega) (mj_cR (fun _ ad cf hX => c_grade l D A hX hO ha))
theorem j_grade_x1 (l : Launch) (D : va_G) (A : Nat → Prop) (hst : l.stackTraces = false) (q : Nat → Nat) {T : sT} {gl : Nat → Nat → Int64} {gi : Nat → Nat → Int32} (hO : st_ok T) {x : Int32} (hx : ¬ (0 ≤ x.toInt ∧ x.toInt < sC T)) : mi_Mi l yL_grade (Cond.codeWith yL_grade cL_grade 4 (some Jvm.ClassFile.FieldType.int) [(0, 6, 9, 14)]) (mi_rq 9 1 6) D A (mj_W D A q T gl gi) [.ref (q 0), .int (x)] 1 6 (fun r H => r = -71 ∧ mj_W D A q T gl gi H) :=
  c_LgradeTIO l D A (fun s H E hW => hW.recv E) (d := 7) (by omega) (mj_cT (fun _ ad cf hX => c_grade_x1 l D A hst hX hO hx))
theorem j_distance (l : Launch) (D : va_G) (A : Nat → Prop) (hst : l.stackTraces = false) (q : Nat → Nat) {T : sT} {gl : Nat → Nat → Int64} {gi : Nat → Nat → Int32} (hO : st_ok T) {a b : Nat} (ha : a < sC T) (hb : b < sC T) : mi_Rd l yL_distance (Cond.codeWith yL_distance cL_distance 5 (some Jvm.ClassFile.FieldType.int) [(0, 7, 10, 14)]) (mi_rm 9) D A (mj_W D A q T gl gi) [.ref (q 0), .int (nI a), .int (nI b)] (fun r => r = nI (sp_ds (sCh T a) (sCh T b) 16)) :=
  c_LdistanceR l D A (fun s H E hW => hW.recv E) (d := 3) (by omega) (mj_cR (fun _ ad cf hX => c_distance l D A hX hO ha hb))
theorem j_distance_x1 (l : Launch) (D : va_G) (A : Nat → Prop) (hst : l.stackTraces = false) (q : Nat → Nat) {T : sT} {gl : Nat → Nat → Int64} {gi : Nat → Nat → Int32} (hO : st_ok T) {x y : Int32} (hx : ¬ (0 ≤ x.toInt ∧ x.toInt < sC T)) : mi_Mi l yL_distance (Cond.codeWith yL_distance cL_distance 5 (some Jvm.ClassFile.FieldType.int) [(0, 7, 10, 14)]) (mi_rq 9 1 6) D A (mj_W D A q T gl gi) [.ref (q 0), .int (x), .int (y)] 1 6 (fun r H => r = -71 ∧ mj_W D A q T gl gi H) :=
  c_LdistanceTIO l D A (fun s H E hW => hW.recv E) (d := 7) (by omega) (mj_cT (fun _ ad cf hX => c_distance_x1 l D A hst hX hO hx))
theorem j_distance_x2 (l : Launch) (D : va_G) (A : Nat → Prop) (hst : l.stackTraces = false) (q : Nat → Nat) {T : sT} {gl : Nat → Nat → Int64} {gi : Nat → Nat → Int32} (hO : st_ok T) {a : Nat} (ha : a < sC T) {x : Int32} (hx : ¬ (0 ≤ x.toInt ∧ x.toInt < sC T)) : mi_Mi l yL_distance (Cond.codeWith yL_distance cL_distance 5 (some Jvm.ClassFile.FieldType.int) [(0, 7, 10, 14)]) (mi_rq 9 1 6) D A (mj_W D A q T gl gi) [.ref (q 0), .int (nI a), .int (x)] 1 6 (fun r H => r = -71 ∧ mj_W D A q T gl gi H) :=
  c_LdistanceTIO l D A (fun s H E hW => hW.recv E) (d := 7) (by omega) (mj_cT (fun _ ad cf hX => c_distance_x2 l D A hst hX hO ha hx))
theorem j_runs (l : Launch) (D : va_G) (A : Nat → Prop) (hst : l.stackTraces = false) (q : Nat → Nat) {T : sT} {gl : Nat → Nat → Int64} {gi : Nat → Nat → Int32} (hO : st_ok T) {a : Nat} (ha : a < 16) : mi_Rd l yX4_runs (Cond.code yX4_runs cX4_runs 2 (some Jvm.ClassFile.FieldType.int)) (mi_rm 4) D A (mj_W D A q T gl gi) [.ref (q 0), .int (nI a)] (fun r => r = nI (sp_runs (sK T (sW T)) a)) := mj_cR (fun _ ad cf hX => c_runs l D A hX hO ha)
theorem j_height (l : Launch) (D : va_G) (A : Nat → Prop) (hst : l.stackTraces = false) (q : Nat → Nat) {T : sT} {gl : Nat → Nat → Int64} {gi : Nat → Nat → Int32} (hO : st_ok T) {a : Nat} (ha : a < 16) : mi_Rd l yX4_height (Cond.code yX4_height cX4_height 2 (some Jvm.ClassFile.FieldType.int)) (mi_rm 3) D A (mj_W D A q T gl gi) [.ref (q 0), .int (nI a)] (fun r => r = nI (sp_h (sK T (sW T)) a 8)) := mj_cR (fun _ ad cf hX => c_height l D A hX hO ha)
theorem j_blocks (l : Launch) (D : va_G) (A : Nat → Prop) (hst : l.stackTraces = false) (q : Nat → Nat) {T : sT} {gl : Nat → Nat → Int64} {gi : Nat → Nat → Int32} (hO : st_ok T)  : mi_Rd l yX4_blocks (Cond.code yX4_blocks cX4_blocks 3 (some Jvm.ClassFile.FieldType.int)) (mi_rm 4) D A (mj_W D A q T gl gi) [.ref (q 0)] (fun r => r = nI (sp_blocks (sK T (sW T)))) := mj_cR (fun _ ad cf hX => c_blocks l D A hX hO)
theorem j_blocksOneByOne (l : Launch) (D : va_G) (A : Nat → Prop) (hst : l.stackTraces = false) (q : Nat → Nat) {T : sT} {gl : Nat → Nat → Int64} {gi : Nat → Nat → Int32} (hO : st_ok T)  : mi_Rd l yX4_blocksOneByOne (Cond.code yX4_blocksOneByOne cX4_blocksOneByOne 4 (some Jvm.ClassFile.FieldType.int)) (mi_rm 2) D A (mj_W D A q T gl gi) [.ref (q 0)] (fun r => r = nI (sp_blocks (sK T (sW T)))) := mj_cR (fun _ ad cf hX => c_blocksOneByOne l D A hX hO)
theorem j_state (l : Launch) (D : va_G) (A : Nat → Prop) (hst : l.stackTraces = false) (q : Nat → Nat) {T : sT} {gl : Nat → Nat → Int64} {gi : Nat → Nat → Int32} (hO : st_ok T)  : mi_Rd l yX4_state (Cond.code yX4_state cX4_state 1 (some Jvm.ClassFile.FieldType.int)) (mi_rm 0) D A (mj_W D A q T gl gi) [.ref (q 0)] (fun r => r = nI (sW T)) := mj_cR (fun _ ad cf hX => c_state l D A hX hO)
theorem j_states (l : Launch) (D : va_G) (A : Nat → Prop) (hst : l.stackTraces = false) (q : Nat → Nat) {T : sT} {gl : Nat → Nat → Int64} {gi : Nat → Nat → Int32} (hO : st_ok T)  : mi_Rd l yX4_states (Cond.code yX4_states cX4_states 1 (some Jvm.ClassFile.FieldType.int)) (mi_rm 1) D A (mj_W D A q T gl gi) [.ref (q 0)] (fun r => r = nI (sN T)) := mj_cR (fun _ ad cf hX => c_states l D A hX hO)
theorem j_branches (l : Launch) (D : va_G) (A : Nat → Prop) (hst : l.stackTraces = false) (q : Nat → Nat) {T : sT} {gl : Nat → Nat → Int64} {gi : Nat → Nat → Int32} (hO : st_ok T)  : mi_Rd l yX4_branches (Cond.code yX4_branches cX4_branches 3 (some Jvm.ClassFile.FieldType.int)) (mi_rm 3) D A (mj_W D A q T gl gi) [.ref (q 0)] (fun r => r = nI (sp_br T (sW T) (sN T))) := mj_cR (fun _ ad cf hX => c_branches l D A hX hO)
theorem j_isForged (l : Launch) (D : va_G) (A : Nat → Prop) (hst : l.stackTraces = false) (q : Nat → Nat) {T : sT} {gl : Nat → Nat → Int64} {gi : Nat → Nat → Int32} (hO : st_ok T) {a : Nat} (ha : a < sC T) : mi_Rd l yX4_isForged (Cond.code yX4_isForged cX4_isForged 3 (some Jvm.ClassFile.FieldType.boolean)) (mi_rm 3) D A (mj_W D A q T gl gi) [.ref (q 0), .int (nI a)] (fun r => r = nI (sp_fg (sCh T a) (wn (sF T (sCd T a)) ((sCn T a - 1) / 2)) 16)) := mj_cR (fun _ ad cf hX => c_isForged l D A hX hO ha)
theorem j_pieces (l : Launch) (D : va_G) (A : Nat → Prop) (hst : l.stackTraces = false) (q : Nat → Nat) {T : sT} {gl : Nat → Nat → Int64} {gi : Nat → Nat → Int32} (hO : st_ok T) {k : Nat} (hct : pc_ct (pc_lst (sK T (sW T))) 128 k) : mi_Mi l yX4_pieces (Cond.code yX4_pieces cX4_pieces 1 (some Jvm.ClassFile.FieldType.int)) (mi_rq 6 0 0) D A (mj_W D A q T gl gi) [.ref (q 0)] 0 0 (fun r H => r = nI k ∧ mj_W D A q T gl gi H) := mj_cM (fun _ => hO) (fun _ ad cf hX => c_pieces l D A hX hO hct)
