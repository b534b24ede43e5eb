/-! the class State and the host's two checks: readers -/
set_option maxHeartbeats 4000000 in
set_option maxRecDepth 100000 in
theorem c_X4_isColumn_in (l : Launch) (D : va_G) (A : Nat → Prop) (P : Heap → Prop) {a : Nat} (ha : a < 16) : mi_Rd l yX4_isColumn (Cond.code yX4_isColumn cX4_isColumn 1 (some Jvm.ClassFile.FieldType.boolean)) (mi_rm 0) D A (P) [.int (nI (a))] (fun r => r = nI 1) := by
  refine mi_start (cc := cX4_isColumn) (nL := 1) (ret := (some Jvm.ClassFile.FieldType.boolean)) rfl (by decide) (Nat.le_of_ble_eq_true rfl) ?_
  intro p e s m below meth c ls S E hW hS hr hk hn hl
  have S : CallFix p m c cX4_isColumn 1 s _ ((Cond.code yX4_isColumn cX4_isColumn 1 (some Jvm.ClassFile.FieldType.boolean)) :: mi_G) RX4 := S
  have hl : lv_has ls 1 [(0, .int (nI (a)))] := hl
  refine lv_iload_n S.1 S.2.1 dX4_isColumn_0 rfl (lv_at hl 0 rfl) ?_
  refine mi_if_lt (tgt := 14) S (by omega) dX4_isColumn_1 (by decide) ?_
  refine lv_iload_n S.1 S.2.1 dX4_isColumn_4 rfl (lv_at hl 0 rfl) ?_
  refine lv_bipush (v := nI 16) S.1 S.2.1 dX4_isColumn_5 (by decide) ?_
  refine mi_icmp_ge (tgt := 14) S (by omega) (by omega) dX4_isColumn_7 (by decide) (fun c7_1 => by exfalso; omega) (fun c7_1 => ?_)
  refine lv_iconst (v := nI 1) S.1 S.2.1 dX4_isColumn_10 (by decide) ?_
  refine lv_goto (tgt := 15) S.1 S.2.1 dX4_isColumn_11 (by decide) ?_
  exact mi_retZ S hr hk dX4_isColumn_15 rfl (rfl)
set_option maxHeartbeats 4000000 in
set_option maxRecDepth 100000 in
theorem c_X4_isColumn_no (l : Launch) (D : va_G) (A : Nat → Prop) (P : Heap → Prop) {x : Int32} (hx : ¬ (0 ≤ x.toInt ∧ x.toInt < 16)) : mi_Rd l yX4_isColumn (Cond.code yX4_isColumn cX4_isColumn 1 (some Jvm.ClassFile.FieldType.boolean)) (mi_rm 0) D A (P) [.int (x)] (fun r => r = nI 0) := by
  refine mi_start (cc := cX4_isColumn) (nL := 1) (ret := (some Jvm.ClassFile.FieldType.boolean)) rfl (by decide) (Nat.le_of_ble_eq_true rfl) ?_
  intro p e s m below meth c ls S E hW hS hr hk hn hl
  have S : CallFix p m c cX4_isColumn 1 s _ ((Cond.code yX4_isColumn cX4_isColumn 1 (some Jvm.ClassFile.FieldType.boolean)) :: mi_G) RX4 := S
  have hl : lv_has ls 1 [(0, .int (x))] := hl
  refine lv_iload_n S.1 S.2.1 dX4_isColumn_0 rfl (lv_at hl 0 rfl) ?_
  refine mi_xif_lt (tgt := 14) S (rfl : (x).toInt = _) dX4_isColumn_1 (by decide) (fun c1_0 => ?_) (fun c1_0 => ?_)
  · refine lv_iconst (v := nI 0) S.1 S.2.1 dX4_isColumn_14 (by decide) ?_
    exact mi_retZ S hr hk dX4_isColumn_15 rfl (rfl)
  · refine lv_iload_n S.1 S.2.1 dX4_isColumn_4 rfl (lv_at hl 0 rfl) ?_
    refine lv_bipush (v := nI 16) S.1 S.2.1 dX4_isColumn_5 (by decide) ?_
    refine mi_xcmp_ge (tgt := 14) S (rfl : (x).toInt = _) (nI_toInt (n := 16) (by omega)) dX4_isColumn_7 (by decide) (fun c7_1 => ?_) (fun c7_1 => by exfalso; omega)
    refine lv_iconst (v := nI 0) S.1 S.2.1 dX4_isColumn_14 (by decide) ?_
    exact mi_retZ S hr hk dX4_isColumn_15 rfl (rfl)
set_option maxHeartbeats 4000000 in
set_option maxRecDepth 100000 in
theorem c_X4_isLevel_in (l : Launch) (D : va_G) (A : Nat → Prop) (P : Heap → Prop) {a : Nat} (ha : a < 8) : mi_Rd l yX4_isLevel (Cond.code yX4_isLevel cX4_isLevel 1 (some Jvm.ClassFile.FieldType.boolean)) (mi_rm 0) D A (P) [.int (nI (a))] (fun r => r = nI 1) := by
  refine mi_start (cc := cX4_isLevel) (nL := 1) (ret := (some Jvm.ClassFile.FieldType.boolean)) rfl (by decide) (Nat.le_of_ble_eq_true rfl) ?_
  intro p e s m below meth c ls S E hW hS hr hk hn hl
  have S : CallFix p m c cX4_isLevel 1 s _ ((Cond.code yX4_isLevel cX4_isLevel 1 (some Jvm.ClassFile.FieldType.boolean)) :: mi_G) RX4 := S
  have hl : lv_has ls 1 [(0, .int (nI (a)))] := hl
  refine lv_iload_n S.1 S.2.1 dX4_isLevel_0 rfl (lv_at hl 0 rfl) ?_
  refine mi_if_lt (tgt := 14) S (by omega) dX4_isLevel_1 (by decide) ?_
  refine lv_iload_n S.1 S.2.1 dX4_isLevel_4 rfl (lv_at hl 0 rfl) ?_
  refine lv_bipush (v := nI 8) S.1 S.2.1 dX4_isLevel_5 (by decide) ?_
  refine mi_icmp_ge (tgt := 14) S (by omega) (by omega) dX4_isLevel_7 (by decide) (fun c7_1 => by exfalso; omega) (fun c7_1 => ?_)
  refine lv_iconst (v := nI 1) S.1 S.2.1 dX4_isLevel_10 (by decide) ?_
  refine lv_goto (tgt := 15) S.1 S.2.1 dX4_isLevel_11 (by decide) ?_
  exact mi_retZ S hr hk dX4_isLevel_15 rfl (rfl)
set_option maxHeartbeats 4000000 in
set_option maxRecDepth 100000 in
theorem c_X4_isLevel_no (l : Launch) (D : va_G) (A : Nat → Prop) (P : Heap → Prop) {x : Int32} (hx : ¬ (0 ≤ x.toInt ∧ x.toInt < 8)) : mi_Rd l yX4_isLevel (Cond.code yX4_isLevel cX4_isLevel 1 (some Jvm.ClassFile.FieldType.boolean)) (mi_rm 0) D A (P) [.int (x)] (fun r => r = nI 0) := by
  refine mi_start (cc := cX4_isLevel) (nL := 1) (ret := (some Jvm.ClassFile.FieldType.boolean)) rfl (by decide) (Nat.le_of_ble_eq_true rfl) ?_
  intro p e s m below meth c ls S E hW hS hr hk hn hl
  have S : CallFix p m c cX4_isLevel 1 s _ ((Cond.code yX4_isLevel cX4_isLevel 1 (some Jvm.ClassFile.FieldType.boolean)) :: mi_G) RX4 := S
  have hl : lv_has ls 1 [(0, .int (x))] := hl
  refine lv_iload_n S.1 S.2.1 dX4_isLevel_0 rfl (lv_at hl 0 rfl) ?_
  refine mi_xif_lt (tgt := 14) S (rfl : (x).toInt = _) dX4_isLevel_1 (by decide) (fun c1_0 => ?_) (fun c1_0 => ?_)
  · refine lv_iconst (v := nI 0) S.1 S.2.1 dX4_isLevel_14 (by decide) ?_
    exact mi_retZ S hr hk dX4_isLevel_15 rfl (rfl)
  · refine lv_iload_n S.1 S.2.1 dX4_isLevel_4 rfl (lv_at hl 0 rfl) ?_
    refine lv_bipush (v := nI 8) S.1 S.2.1 dX4_isLevel_5 (by decide) ?_
    refine mi_xcmp_ge (tgt := 14) S (rfl : (x).toInt = _) (nI_toInt (n := 8) (by omega)) dX4_isLevel_7 (by decide) (fun c7_1 => ?_) (fun c7_1 => by exfalso; omega)
    refine lv_iconst (v := nI 0) S.1 S.2.1 dX4_isLevel_14 (by decide) ?_
    exact mi_retZ S hr hk dX4_isLevel_15 rfl (rfl)
