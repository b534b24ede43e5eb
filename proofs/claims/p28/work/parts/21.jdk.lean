/-! the JDK's members that are called: Math, Objects, ArrayList, Arrays: readers -/
set_option maxHeartbeats 4000000 in
set_option maxRecDepth 100000 in
theorem c_J3_checkIndex (l : Launch) (D : va_G) (A : Nat → Prop) (P : Heap → Prop) {i n : Nat} (hi : i < n) (hn : n < 2 ^ 31) : mi_Rd l yJ3_checkIndex_8e157 (Cond.code yJ3_checkIndex_8e157 cJ3_checkIndex_8e157 3 (some Jvm.ClassFile.FieldType.int)) (mi_rm 0) D A (P) [.int (nI (i)), .int (nI (n)), .null] (fun r => r = nI i) := by
  refine mi_start (cc := cJ3_checkIndex_8e157) (nL := 3) (ret := (some Jvm.ClassFile.FieldType.int)) rfl (by decide) (Nat.le_of_ble_eq_true rfl) ?_
  intro p e s m below meth c ls S E hW hS hr hk hn hl
  have S : CallFix p m c cJ3_checkIndex_8e157 3 s _ ((Cond.code yJ3_checkIndex_8e157 cJ3_checkIndex_8e157 3 (some Jvm.ClassFile.FieldType.int)) :: mi_G) RJ3 := S
  have hl : lv_has ls 3 [(0, .int (nI (i))), (1, .int (nI (n))), (2, .null)] := hl
  refine lv_iload_n S.1 S.2.1 dJ3_checkIndex_8e157_0 rfl (lv_at hl 0 rfl) ?_
  refine mi_if_lt (tgt := 9) S (by omega) dJ3_checkIndex_8e157_1 (by decide) ?_
  refine lv_iload_n S.1 S.2.1 dJ3_checkIndex_8e157_4 rfl (lv_at hl 0 rfl) ?_
  refine lv_iload_n S.1 S.2.1 dJ3_checkIndex_8e157_5 rfl (lv_at hl 1 rfl) ?_
  refine mi_icmp_lt (tgt := 16) S (by omega) (by omega) dJ3_checkIndex_8e157_6 (by decide) (fun c6_1 => ?_) (fun c6_1 => by exfalso; omega)
  refine lv_iload_n S.1 S.2.1 dJ3_checkIndex_8e157_16 rfl (lv_at hl 0 rfl) ?_
  exact mi_retR S hr hk dJ3_checkIndex_8e157_17 (rfl)
set_option maxHeartbeats 4000000 in
set_option maxRecDepth 100000 in
theorem c_J15_checkIndex (l : Launch) (D : va_G) (A : Nat → Prop) (P : Heap → Prop) {i n : Nat} (hi : i < n) (hb : n < 2 ^ 31) : mi_Rd l yJ15_checkIndex_7cf53 (Cond.code yJ15_checkIndex_7cf53 cJ15_checkIndex_7cf53 2 (some Jvm.ClassFile.FieldType.int)) (mi_rm 1) D A (P) [.int (nI (i)), .int (nI (n))] (fun r => r = nI i) := by
  refine mi_start (cc := cJ15_checkIndex_7cf53) (nL := 2) (ret := (some Jvm.ClassFile.FieldType.int)) rfl (by decide) (Nat.le_of_ble_eq_true rfl) ?_
  intro p e s m below meth c ls S E hW hS hr hk hn hl
  have S : CallFix p m c cJ15_checkIndex_7cf53 2 s _ ((Cond.code yJ15_checkIndex_7cf53 cJ15_checkIndex_7cf53 2 (some Jvm.ClassFile.FieldType.int)) :: mi_G) RJ15 := S
  have hl : lv_has ls 2 [(0, .int (nI (i))), (1, .int (nI (n)))] := hl
  refine lv_iload_n S.1 S.2.1 dJ15_checkIndex_7cf53_0 rfl (lv_at hl 0 rfl) ?_
  refine lv_iload_n S.1 S.2.1 dJ15_checkIndex_7cf53_1 rfl (lv_at hl 1 rfl) ?_
  refine lv_null S.1 S.2.1 dJ15_checkIndex_7cf53_2 ?_
  refine mi_cR (mi_runS (P := P) (As := [.int (nI (i)), .int (nI (n)), .null]) (rest := []) S E hS hW (c_J3_checkIndex l D A P hi hb) mw_398 mw_396 mw_397 mw_33 ⟨by decide, by decide, by decide +kernel⟩ ⟨rfl, rfl, Nat.le_of_ble_eq_true rfl, Nat.le_of_ble_eq_true rfl⟩ (n := 3) rfl hl.1 rfl (Nat.le_of_ble_eq_true rfl) dJ15_checkIndex_7cf53_3 ⟨Nat.le_of_ble_eq_true rfl, Nat.le_of_ble_eq_true rfl⟩) (fun r9 e9 => ?_)
  subst e9
  exact mi_retR S hr hk dJ15_checkIndex_7cf53_6 (rfl)
set_option maxHeartbeats 4000000 in
set_option maxRecDepth 100000 in
theorem c_AL_size (l : Launch) (D : va_G) (A : Nat → Prop) {ad : Nat → Nat} {cf : Nat → Option va_E} {r : Nat} {mcn : Int32} {ea : Nat} {n : Nat} (hr0 : cf r = some (.inr (0, [.int mcn, .ref ea, .int (nI n)]))) : mi_Rd l yJx4a65c_size_8abf5 (Cond.code yJx4a65c_size_8abf5 cJx4a65c_size_8abf5 1 (some Jvm.ClassFile.FieldType.int)) (mi_rm 0) D A (mi_W D A ad cf) [.ref (ad r)] (fun r => r = nI n) := by
  refine mi_start (cc := cJx4a65c_size_8abf5) (nL := 1) (ret := (some Jvm.ClassFile.FieldType.int)) rfl (by decide) (Nat.le_of_ble_eq_true rfl) ?_
  intro p e s m below meth c ls S E hW hS hr hk hn hl
  have S : CallFix p m c cJx4a65c_size_8abf5 1 s _ ((Cond.code yJx4a65c_size_8abf5 cJx4a65c_size_8abf5 1 (some Jvm.ClassFile.FieldType.int)) :: mi_G) RJx4a65c := S
  have hl : lv_has ls 1 [(0, .ref (ad r))] := hl
  refine lv_aload_n S.1 S.2.1 dJx4a65c_size_8abf5_0 rfl (lv_at hl 0 rfl) ?_
  refine fg_Jx4a65c_48 S E hW r rfl hr0 rfl dJx4a65c_size_8abf5_1 ?_
  exact mi_retR S hr hk dJx4a65c_size_8abf5_4 (rfl)
set_option maxHeartbeats 4000000 in
set_option maxRecDepth 100000 in
theorem c_AL_elementData (l : Launch) (D : va_G) (A : Nat → Prop) {ad : Nat → Nat} {cf : Nat → Option va_E} {r q : Nat} {mcn : Int32} {n cap : Nat} {f : Nat → Option Nat} (hr0 : cf r = some (.inr (0, [.int mcn, .ref (ad q), .int (nI n)]))) (hq0 : cf q = some (mi_aq D cap f)) (hcap : cap < 2 ^ 31) {i : Nat} (hi : i < cap) : mi_Rq l yJx4a65c_elementData_915e3 (Cond.code yJx4a65c_elementData_915e3 cJx4a65c_elementData_915e3 2 (some (Jvm.ClassFile.FieldType.object "java/lang/Object"))) (mi_rm 0) D A (mi_W D A ad cf) [.ref (ad r), .int (nI (i))] (fun z => z = f i) := by
  refine mi_start (cc := cJx4a65c_elementData_915e3) (nL := 2) (ret := (some (Jvm.ClassFile.FieldType.object "java/lang/Object"))) rfl (by decide) (Nat.le_of_ble_eq_true rfl) ?_
  intro p e s m below meth c ls S E hW hS hr hk hn hl
  have S : CallFix p m c cJx4a65c_elementData_915e3 2 s _ ((Cond.code yJx4a65c_elementData_915e3 cJx4a65c_elementData_915e3 2 (some (Jvm.ClassFile.FieldType.object "java/lang/Object"))) :: mi_G) RJx4a65c := S
  have hl : lv_has ls 2 [(0, .ref (ad r)), (1, .int (nI (i)))] := hl
  refine lv_aload_n S.1 S.2.1 dJx4a65c_elementData_915e3_0 rfl (lv_at hl 0 rfl) ?_
  refine fg_Jx4a65c_9 S E hW r rfl hr0 rfl dJx4a65c_elementData_915e3_1 ?_
  refine lv_iload_n S.1 S.2.1 dJx4a65c_elementData_915e3_4 rfl (lv_at hl 1 rfl) ?_
  refine mi_aald S E hW q rfl hq0 (by omega) (by omega) dJx4a65c_elementData_915e3_5 ?_
  exact mi_retQ (r := f i) S hr (Or.inl ⟨_, rfl⟩) hk dJx4a65c_elementData_915e3_6 (rfl)
set_option maxHeartbeats 4000000 in
set_option maxRecDepth 100000 in
theorem c_AL_get (l : Launch) (D : va_G) (A : Nat → Prop) {ad : Nat → Nat} {cf : Nat → Option va_E} {r q : Nat} {mcn : Int32} {n cap : Nat} {f : Nat → Option Nat} (hr0 : cf r = some (.inr (0, [.int mcn, .ref (ad q), .int (nI n)]))) (hq0 : cf q = some (mi_aq D cap f)) (hcap : cap < 2 ^ 31) {i : Nat} (hi : i < n) (hn : n ≤ cap) : mi_Rq l yJx4a65c_get_915e3 (Cond.code yJx4a65c_get_915e3 cJx4a65c_get_915e3 2 (some (Jvm.ClassFile.FieldType.object "java/lang/Object"))) (mi_rm 2) D A (mi_W D A ad cf) [.ref (ad r), .int (nI (i))] (fun z => z = f i) := by
  refine mi_start (cc := cJx4a65c_get_915e3) (nL := 2) (ret := (some (Jvm.ClassFile.FieldType.object "java/lang/Object"))) rfl (by decide) (Nat.le_of_ble_eq_true rfl) ?_
  intro p e s m below meth c ls S E hW hS hr hk hn hl
  have S : CallFix p m c cJx4a65c_get_915e3 2 s _ ((Cond.code yJx4a65c_get_915e3 cJx4a65c_get_915e3 2 (some (Jvm.ClassFile.FieldType.object "java/lang/Object"))) :: mi_G) RJx4a65c := S
  have hl : lv_has ls 2 [(0, .ref (ad r)), (1, .int (nI (i)))] := hl
  refine lv_iload_n S.1 S.2.1 dJx4a65c_get_915e3_0 rfl (lv_at hl 1 rfl) ?_
  refine lv_aload_n S.1 S.2.1 dJx4a65c_get_915e3_1 rfl (lv_at hl 0 rfl) ?_
  refine fg_Jx4a65c_48 S E hW r rfl hr0 rfl dJx4a65c_get_915e3_2 ?_
  refine mi_cR (mi_runS (P := mi_W D A ad cf) (As := [.int (nI (i)), .int (nI (n))]) (rest := []) S E hS hW (c_J15_checkIndex l D A (mi_W D A ad cf) hi (by omega)) mw_395 mw_393 mw_394 mw_32 ⟨by decide, by decide, by decide +kernel⟩ ⟨rfl, rfl, Nat.le_of_ble_eq_true rfl, Nat.le_of_ble_eq_true rfl⟩ (n := 2) rfl hl.1 rfl (Nat.le_of_ble_eq_true rfl) dJx4a65c_get_915e3_5 ⟨Nat.le_of_ble_eq_true rfl, Nat.le_of_ble_eq_true rfl⟩) (fun r9 e9 => ?_)
  subst e9
  refine lv_pop S.1 S.2.1 dJx4a65c_get_915e3_8 rfl ?_
  refine lv_aload_n S.1 S.2.1 dJx4a65c_get_915e3_9 rfl (lv_at hl 0 rfl) ?_
  refine lv_iload_n S.1 S.2.1 dJx4a65c_get_915e3_10 rfl (lv_at hl 1 rfl) ?_
  refine mi_cQ (mi_runV (P := mi_W D A ad cf) (As := [.int (nI (i))]) (rest := []) S E hS hW (ad r) (c_AL_elementData l D A hr0 hq0 hcap (by omega)) (hW.recv E hr0 rfl) mw_402 mw_399 mw_400 mw_401 mw_21 ⟨by decide, by decide, by decide +kernel⟩ ⟨rfl, rfl, Nat.le_of_ble_eq_true rfl, Nat.le_of_ble_eq_true rfl⟩ (n := 1) rfl hl.1 rfl (Nat.le_of_ble_eq_true rfl) dJx4a65c_get_915e3_11 ⟨Nat.le_of_ble_eq_true rfl, Nat.le_of_ble_eq_true rfl⟩) (fun r9 e9 => ?_)
  subst e9
  exact mi_retQ (r := f i) S hr (Or.inl ⟨_, rfl⟩) hk dJx4a65c_get_915e3_14 (rfl)
theorem mk_max : Cond.code Lib.Math.max.name Lib.Math.max.code 2 (some .int) ∈ mi_G := mi_t1 112 rfl rfl
theorem mk_min : Cond.code Lib.Math.min.name Lib.Math.min.code 2 (some .int) ∈ mi_G := mi_t1 141 rfl rfl
theorem mk_abs : Cond.code Lib.Math.abs.name Lib.Math.abs.code 1 (some .int) ∈ mi_G := mi_t3 177 rfl rfl
set_option maxHeartbeats 4000000 in
set_option maxRecDepth 100000 in
theorem c_J8_newLength (l : Launch) (D : va_G) (A : Nat → Prop) (P : Heap → Prop) {n k : Nat} (hn : n ≤ 1000) (h2 : 2 ≤ n) (hk : k = n / 2) : mi_Rd l yJ8_newLength_cabcc (Cond.code yJ8_newLength_cabcc cJ8_newLength_cabcc 4 (some Jvm.ClassFile.FieldType.int)) (mi_rm 1) D A (P) [.int (nI (n)), .int (nI (1)), .int (nI (k))] (fun r => r = nI (n + n / 2)) := by
  refine mi_start (cc := cJ8_newLength_cabcc) (nL := 4) (ret := (some Jvm.ClassFile.FieldType.int)) rfl (by decide) (Nat.le_of_ble_eq_true rfl) ?_
  intro p e s m below meth c ls S E hW hS hr hk hn hl
  have S : CallFix p m c cJ8_newLength_cabcc 4 s _ ((Cond.code yJ8_newLength_cabcc cJ8_newLength_cabcc 4 (some Jvm.ClassFile.FieldType.int)) :: mi_G) RJ8 := S
  have hl : lv_has ls 4 [(0, .int (nI (n))), (1, .int (nI (1))), (2, .int (nI (k)))] := hl
  refine lv_iload_n S.1 S.2.1 dJ8_newLength_cabcc_0 rfl (lv_at hl 0 rfl) ?_
  refine lv_iload_n S.1 S.2.1 dJ8_newLength_cabcc_1 rfl (lv_at hl 1 rfl) ?_
  refine lv_iload_n S.1 S.2.1 dJ8_newLength_cabcc_2 rfl (lv_at hl 2 rfl) ?_
  refine mi_mmax S (by omega) (by omega) (List.mem_cons_of_mem _ mw_127) (List.mem_cons_of_mem _ mw_128) (List.mem_cons_of_mem _ mw_25) (List.mem_cons_of_mem _ mk_max) hl.1 (Nat.le_of_ble_eq_true rfl) (Nat.le_of_ble_eq_true rfl) (Nat.zero_le _) (Nat.zero_le _) dJ8_newLength_cabcc_3 ?_
  refine mi_iadd S dJ8_newLength_cabcc_6 ?_
  refine mi_top (v' := .int (nI (n + n / 2))) (by rw [show (if 1 < k then k else 1) = n / 2 by split <;> omega]) ?_
  refine lv_istore_n (lv' := [(3, .int (nI (n + n / 2))), (0, .int (nI (n))), (1, .int (nI (1))), (2, .int (nI (k)))]) S.1 S.2.1 dJ8_newLength_cabcc_7 rfl hl (by decide) rfl (fun ls hl => ?_)
  refine lv_iconst (v := nI 0) S.1 S.2.1 dJ8_newLength_cabcc_8 (by decide) ?_
  refine lv_iload_n S.1 S.2.1 dJ8_newLength_cabcc_9 rfl (lv_at hl 0 rfl) ?_
  refine mi_icmp_ge (tgt := 21) S (by omega) (by omega) dJ8_newLength_cabcc_10 (by decide) (fun c10_0 => by exfalso; omega) (fun c10_0 => ?_)
  refine lv_iload_n S.1 S.2.1 dJ8_newLength_cabcc_13 rfl (lv_at hl 0 rfl) ?_
  refine lv_ldc S.1 S.2.1 S.2.2.2.1 (S.2.2.2.2 _ (List.mem_cons_of_mem _ mw_130)) dJ8_newLength_cabcc_14 ?_
  refine mi_top (v' := .int (nI 2147483639)) (by decide +kernel) ?_
  refine mi_icmp_gt (tgt := 21) S (by omega) (by omega) dJ8_newLength_cabcc_16 (by decide) (fun c16_1 => by exfalso; omega) (fun c16_1 => ?_)
  refine lv_iload_n S.1 S.2.1 dJ8_newLength_cabcc_19 rfl (lv_at hl 0 rfl) ?_
  exact mi_retR S hr hk dJ8_newLength_cabcc_20 (rfl)
