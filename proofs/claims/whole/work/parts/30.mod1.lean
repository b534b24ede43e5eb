/-! the reference's readers -/
set_option maxHeartbeats 4000000 in
set_option maxRecDepth 100000 in
theorem c_in_y (l : Launch) (D : va_G) (A : Nat → Prop) (P : Heap → Prop) {x y z : Int32} (h : y.toInt ≤ x.toInt ∧ x.toInt ≤ z.toInt) : mi_Rd l yX5_in (Cond.code yX5_in cX5_in 3 (some Jvm.ClassFile.FieldType.boolean)) (mi_rm 0) D A (P) [.int (x), .int (y), .int (z)] (fun r => r = nI 1) := by
  refine mi_start (cc := cX5_in) (nL := 3) (ret := (some Jvm.ClassFile.FieldType.boolean)) rfl (by decide) (Nat.le_of_ble_eq_true rfl) ?_
  intro p e s m below meth c ls S E hW hS hr hk hn hl
  have S : CallFix p m c cX5_in 3 s _ ((Cond.code yX5_in cX5_in 3 (some Jvm.ClassFile.FieldType.boolean)) :: mi_G) RX5 := S
  have hl : lv_has ls 3 [(0, .int (x)), (1, .int (y)), (2, .int (z))] := hl
  refine lv_iload_n S.1 S.2.1 dX5_in_0 rfl (lv_at hl 0 rfl) ?_
  refine lv_iload_n S.1 S.2.1 dX5_in_1 rfl (lv_at hl 1 rfl) ?_
  refine mi_xcmp_lt (tgt := 14) S (rfl) (rfl) dX5_in_2 (by decide) (fun c2_0 => by exfalso; omega) (fun c2_0 => ?_)
  refine lv_iload_n S.1 S.2.1 dX5_in_5 rfl (lv_at hl 0 rfl) ?_
  refine lv_iload_n S.1 S.2.1 dX5_in_6 rfl (lv_at hl 2 rfl) ?_
  refine mi_xcmp_gt (tgt := 14) S (rfl) (rfl) dX5_in_7 (by decide) (fun c7_1 => by exfalso; omega) (fun c7_1 => ?_)
  refine lv_iconst (v := nI 1) S.1 S.2.1 dX5_in_10 (by decide) ?_
  refine lv_goto (tgt := 15) S.1 S.2.1 dX5_in_11 (by decide) ?_
  exact mi_retZ S hr hk dX5_in_15 rfl (rfl)
set_option maxHeartbeats 4000000 in
set_option maxRecDepth 100000 in
theorem c_in_n (l : Launch) (D : va_G) (A : Nat → Prop) (P : Heap → Prop) {x y z : Int32} (h : ¬ (y.toInt ≤ x.toInt ∧ x.toInt ≤ z.toInt)) : mi_Rd l yX5_in (Cond.code yX5_in cX5_in 3 (some Jvm.ClassFile.FieldType.boolean)) (mi_rm 0) D A (P) [.int (x), .int (y), .int (z)] (fun r => r = nI 0) := by
  refine mi_start (cc := cX5_in) (nL := 3) (ret := (some Jvm.ClassFile.FieldType.boolean)) rfl (by decide) (Nat.le_of_ble_eq_true rfl) ?_
  intro p e s m below meth c ls S E hW hS hr hk hn hl
  have S : CallFix p m c cX5_in 3 s _ ((Cond.code yX5_in cX5_in 3 (some Jvm.ClassFile.FieldType.boolean)) :: mi_G) RX5 := S
  have hl : lv_has ls 3 [(0, .int (x)), (1, .int (y)), (2, .int (z))] := hl
  refine lv_iload_n S.1 S.2.1 dX5_in_0 rfl (lv_at hl 0 rfl) ?_
  refine lv_iload_n S.1 S.2.1 dX5_in_1 rfl (lv_at hl 1 rfl) ?_
  refine mi_xcmp_lt (tgt := 14) S (rfl) (rfl) dX5_in_2 (by decide) (fun c2_0 => ?_) (fun c2_0 => ?_)
  · refine lv_iconst (v := nI 0) S.1 S.2.1 dX5_in_14 (by decide) ?_
    exact mi_retZ S hr hk dX5_in_15 rfl (rfl)
  · refine lv_iload_n S.1 S.2.1 dX5_in_5 rfl (lv_at hl 0 rfl) ?_
    refine lv_iload_n S.1 S.2.1 dX5_in_6 rfl (lv_at hl 2 rfl) ?_
    refine mi_xcmp_gt (tgt := 14) S (rfl) (rfl) dX5_in_7 (by decide) (fun c7_1 => ?_) (fun c7_1 => by exfalso; omega)
    refine lv_iconst (v := nI 0) S.1 S.2.1 dX5_in_14 (by decide) ?_
    exact mi_retZ S hr hk dX5_in_15 rfl (rfl)
set_option maxHeartbeats 4000000 in
set_option maxRecDepth 100000 in
theorem c_misColumn_y (l : Launch) (D : va_G) (A : Nat → Prop) (P : Heap → Prop) {a : Nat} (ha : a ≤ 15) : mi_Rd l yX5_isColumn (Cond.code yX5_isColumn cX5_isColumn 1 (some Jvm.ClassFile.FieldType.boolean)) (mi_rm 1) D A (P) [.int (nI (a))] (fun r => r = nI 1) := by
  refine mi_start (cc := cX5_isColumn) (nL := 1) (ret := (some Jvm.ClassFile.FieldType.boolean)) rfl (by decide) (Nat.le_of_ble_eq_true rfl) ?_
  intro p e s m below meth c ls S E hM hS hr hk hn hl
  have S : CallFix p m c cX5_isColumn 1 s _ ((Cond.code yX5_isColumn cX5_isColumn 1 (some Jvm.ClassFile.FieldType.boolean)) :: mi_G) RX5 := S
  have hl : lv_has ls 1 [(0, .int (nI (a)))] := hl
  refine lv_iload_n S.1 S.2.1 dX5_isColumn_0 rfl (lv_at hl 0 rfl) ?_
  refine lv_iconst (v := nI 0) S.1 S.2.1 dX5_isColumn_1 (by decide) ?_
  refine lv_bipush (v := nI 15) S.1 S.2.1 dX5_isColumn_2 (by decide) ?_
  refine mi_cR (mi_runS (P := P) (As := [.int (nI (a)), .int (nI (0)), .int (nI (15))]) (rest := []) S E hS hM (c_in_y l D A (P) (by have := nI_toInt (n := a) (by omega); have := nI_toInt (n := 0) (by omega); have := nI_toInt (n := 15) (by omega); omega)) mw_736 mw_734 mw_735 mw_43 ⟨by decide, by decide, by decide +kernel⟩ ⟨rfl, rfl, Nat.le_of_ble_eq_true rfl, Nat.le_of_ble_eq_true rfl⟩ (n := 3) rfl hl.1 rfl (Nat.le_of_ble_eq_true rfl) dX5_isColumn_4 ⟨Nat.le_of_ble_eq_true rfl, Nat.le_of_ble_eq_true rfl⟩) (fun r9 e9 => ?_)
  subst e9
  exact mi_retZ S hr hk dX5_isColumn_7 rfl (rfl)
set_option maxHeartbeats 4000000 in
set_option maxRecDepth 100000 in
theorem c_misColumn_n (l : Launch) (D : va_G) (A : Nat → Prop) (P : Heap → Prop) {x : Int32} (h : ¬ (0 ≤ x.toInt ∧ x.toInt ≤ 15)) : mi_Rd l yX5_isColumn (Cond.code yX5_isColumn cX5_isColumn 1 (some Jvm.ClassFile.FieldType.boolean)) (mi_rm 1) D A (P) [.int (x)] (fun r => r = nI 0) := by
  refine mi_start (cc := cX5_isColumn) (nL := 1) (ret := (some Jvm.ClassFile.FieldType.boolean)) rfl (by decide) (Nat.le_of_ble_eq_true rfl) ?_
  intro p e s m below meth c ls S E hM hS hr hk hn hl
  have S : CallFix p m c cX5_isColumn 1 s _ ((Cond.code yX5_isColumn cX5_isColumn 1 (some Jvm.ClassFile.FieldType.boolean)) :: mi_G) RX5 := S
  have hl : lv_has ls 1 [(0, .int (x))] := hl
  refine lv_iload_n S.1 S.2.1 dX5_isColumn_0 rfl (lv_at hl 0 rfl) ?_
  refine lv_iconst (v := nI 0) S.1 S.2.1 dX5_isColumn_1 (by decide) ?_
  refine lv_bipush (v := nI 15) S.1 S.2.1 dX5_isColumn_2 (by decide) ?_
  refine mi_cR (mi_runS (P := P) (As := [.int (x), .int (nI (0)), .int (nI (15))]) (rest := []) S E hS hM (c_in_n l D A (P) (by skip; have := nI_toInt (n := 0) (by omega); have := nI_toInt (n := 15) (by omega); omega)) mw_736 mw_734 mw_735 mw_43 ⟨by decide, by decide, by decide +kernel⟩ ⟨rfl, rfl, Nat.le_of_ble_eq_true rfl, Nat.le_of_ble_eq_true rfl⟩ (n := 3) rfl hl.1 rfl (Nat.le_of_ble_eq_true rfl) dX5_isColumn_4 ⟨Nat.le_of_ble_eq_true rfl, Nat.le_of_ble_eq_true rfl⟩) (fun r9 e9 => ?_)
  subst e9
  exact mi_retZ S hr hk dX5_isColumn_7 rfl (rfl)
set_option maxHeartbeats 4000000 in
set_option maxRecDepth 100000 in
theorem c_misLevel_y (l : Launch) (D : va_G) (A : Nat → Prop) (P : Heap → Prop) {a : Nat} (ha : a ≤ 7) : mi_Rd l yX5_isLevel (Cond.code yX5_isLevel cX5_isLevel 1 (some Jvm.ClassFile.FieldType.boolean)) (mi_rm 1) D A (P) [.int (nI (a))] (fun r => r = nI 1) := by
  refine mi_start (cc := cX5_isLevel) (nL := 1) (ret := (some Jvm.ClassFile.FieldType.boolean)) rfl (by decide) (Nat.le_of_ble_eq_true rfl) ?_
  intro p e s m below meth c ls S E hM hS hr hk hn hl
  have S : CallFix p m c cX5_isLevel 1 s _ ((Cond.code yX5_isLevel cX5_isLevel 1 (some Jvm.ClassFile.FieldType.boolean)) :: mi_G) RX5 := S
  have hl : lv_has ls 1 [(0, .int (nI (a)))] := hl
  refine lv_iload_n S.1 S.2.1 dX5_isLevel_0 rfl (lv_at hl 0 rfl) ?_
  refine lv_iconst (v := nI 0) S.1 S.2.1 dX5_isLevel_1 (by decide) ?_
  refine lv_bipush (v := nI 7) S.1 S.2.1 dX5_isLevel_2 (by decide) ?_
  refine mi_cR (mi_runS (P := P) (As := [.int (nI (a)), .int (nI (0)), .int (nI (7))]) (rest := []) S E hS hM (c_in_y l D A (P) (by have := nI_toInt (n := a) (by omega); have := nI_toInt (n := 0) (by omega); have := nI_toInt (n := 7) (by omega); omega)) mw_736 mw_734 mw_735 mw_43 ⟨by decide, by decide, by decide +kernel⟩ ⟨rfl, rfl, Nat.le_of_ble_eq_true rfl, Nat.le_of_ble_eq_true rfl⟩ (n := 3) rfl hl.1 rfl (Nat.le_of_ble_eq_true rfl) dX5_isLevel_4 ⟨Nat.le_of_ble_eq_true rfl, Nat.le_of_ble_eq_true rfl⟩) (fun r9 e9 => ?_)
  subst e9
  exact mi_retZ S hr hk dX5_isLevel_7 rfl (rfl)
set_option maxHeartbeats 4000000 in
set_option maxRecDepth 100000 in
theorem c_misLevel_n (l : Launch) (D : va_G) (A : Nat → Prop) (P : Heap → Prop) {x : Int32} (h : ¬ (0 ≤ x.toInt ∧ x.toInt ≤ 7)) : mi_Rd l yX5_isLevel (Cond.code yX5_isLevel cX5_isLevel 1 (some Jvm.ClassFile.FieldType.boolean)) (mi_rm 1) D A (P) [.int (x)] (fun r => r = nI 0) := by
  refine mi_start (cc := cX5_isLevel) (nL := 1) (ret := (some Jvm.ClassFile.FieldType.boolean)) rfl (by decide) (Nat.le_of_ble_eq_true rfl) ?_
  intro p e s m below meth c ls S E hM hS hr hk hn hl
  have S : CallFix p m c cX5_isLevel 1 s _ ((Cond.code yX5_isLevel cX5_isLevel 1 (some Jvm.ClassFile.FieldType.boolean)) :: mi_G) RX5 := S
  have hl : lv_has ls 1 [(0, .int (x))] := hl
  refine lv_iload_n S.1 S.2.1 dX5_isLevel_0 rfl (lv_at hl 0 rfl) ?_
  refine lv_iconst (v := nI 0) S.1 S.2.1 dX5_isLevel_1 (by decide) ?_
  refine lv_bipush (v := nI 7) S.1 S.2.1 dX5_isLevel_2 (by decide) ?_
  refine mi_cR (mi_runS (P := P) (As := [.int (x), .int (nI (0)), .int (nI (7))]) (rest := []) S E hS hM (c_in_n l D A (P) (by skip; have := nI_toInt (n := 0) (by omega); have := nI_toInt (n := 7) (by omega); omega)) mw_736 mw_734 mw_735 mw_43 ⟨by decide, by decide, by decide +kernel⟩ ⟨rfl, rfl, Nat.le_of_ble_eq_true rfl, Nat.le_of_ble_eq_true rfl⟩ (n := 3) rfl hl.1 rfl (Nat.le_of_ble_eq_true rfl) dX5_isLevel_4 ⟨Nat.le_of_ble_eq_true rfl, Nat.le_of_ble_eq_true rfl⟩) (fun r9 e9 => ?_)
  subst e9
  exact mi_retZ S hr hk dX5_isLevel_7 rfl (rfl)
set_option maxHeartbeats 4000000 in
set_option maxRecDepth 100000 in
theorem c_isState_y (l : Launch) (D : va_G) (A : Nat → Prop) {ad : Nat → Nat} {cf0 : Nat → Option va_E} {f : Nat → Int32} {g : Nat → Nat → Int32} {n a : Nat} (hfn : f 1 = nI n) (hn : n < 1000) (ha : a < n) : mi_Rd l yX5_isState (Cond.code yX5_isState cX5_isState 2 (some Jvm.ClassFile.FieldType.boolean)) (mi_rm 1) D A (mo_W D A ad cf0 f g) [.ref (ad 1000020), .int (nI (a))] (fun r => r = nI 1) := by
  refine mi_start (cc := cX5_isState) (nL := 2) (ret := (some Jvm.ClassFile.FieldType.boolean)) rfl (by decide) (Nat.le_of_ble_eq_true rfl) ?_
  intro p e s m below meth c ls S E hM hS hr hk hn hl
  have S : CallFix p m c cX5_isState 2 s _ ((Cond.code yX5_isState cX5_isState 2 (some Jvm.ClassFile.FieldType.boolean)) :: mi_G) RX5 := S
  have hl : lv_has ls 2 [(0, .ref (ad 1000020)), (1, .int (nI (a)))] := hl
  refine lv_iload_n S.1 S.2.1 dX5_isState_0 rfl (lv_at hl 1 rfl) ?_
  refine lv_iconst (v := nI 0) S.1 S.2.1 dX5_isState_1 (by decide) ?_
  refine lv_aload_n S.1 S.2.1 dX5_isState_2 rfl (lv_at hl 0 rfl) ?_
  refine mo_g_7 S E hM dX5_isState_3 ?_
  refine mi_top (v' := .int (nI (n))) (congrArg Value.int hfn) ?_
  refine lv_iconst (v := nI 1) S.1 S.2.1 dX5_isState_6 (by decide) ?_
  refine lv_isub S.1 S.2.1 dX5_isState_7 ?_
  refine mi_cR (mi_runS (P := mo_W D A ad cf0 f g) (As := [.int (nI (a)), .int (nI (0)), .int ((nI (n)) - (nI (1)))]) (rest := []) S E hS hM (c_in_y l D A (mo_W D A ad cf0 f g) (by have := nI_toInt (n := a) (by omega); have := nI_toInt (n := 0) (by omega); have := pk_sub_toInt (a := n) (b := 1) (by omega) (by omega); omega)) mw_736 mw_734 mw_735 mw_43 ⟨by decide, by decide, by decide +kernel⟩ ⟨rfl, rfl, Nat.le_of_ble_eq_true rfl, Nat.le_of_ble_eq_true rfl⟩ (n := 3) rfl hl.1 rfl (Nat.le_of_ble_eq_true rfl) dX5_isState_8 ⟨Nat.le_of_ble_eq_true rfl, Nat.le_of_ble_eq_true rfl⟩) (fun r9 e9 => ?_)
  subst e9
  exact mi_retZ S hr hk dX5_isState_11 rfl (rfl)
set_option maxHeartbeats 4000000 in
set_option maxRecDepth 100000 in
theorem c_isState_n (l : Launch) (D : va_G) (A : Nat → Prop) {ad : Nat → Nat} {cf0 : Nat → Option va_E} {f : Nat → Int32} {g : Nat → Nat → Int32} {n : Nat} {x : Int32} (hfn : f 1 = nI n) (hn9 : n < 1000) (h : ¬ (0 ≤ x.toInt ∧ x.toInt < n)) : mi_Rd l yX5_isState (Cond.code yX5_isState cX5_isState 2 (some Jvm.ClassFile.FieldType.boolean)) (mi_rm 1) D A (mo_W D A ad cf0 f g) [.ref (ad 1000020), .int (x)] (fun r => r = nI 0) := by
  refine mi_start (cc := cX5_isState) (nL := 2) (ret := (some Jvm.ClassFile.FieldType.boolean)) rfl (by decide) (Nat.le_of_ble_eq_true rfl) ?_
  intro p e s m below meth c ls S E hM hS hr hk hn hl
  have S : CallFix p m c cX5_isState 2 s _ ((Cond.code yX5_isState cX5_isState 2 (some Jvm.ClassFile.FieldType.boolean)) :: mi_G) RX5 := S
  have hl : lv_has ls 2 [(0, .ref (ad 1000020)), (1, .int (x))] := hl
  refine lv_iload_n S.1 S.2.1 dX5_isState_0 rfl (lv_at hl 1 rfl) ?_
  refine lv_iconst (v := nI 0) S.1 S.2.1 dX5_isState_1 (by decide) ?_
  refine lv_aload_n S.1 S.2.1 dX5_isState_2 rfl (lv_at hl 0 rfl) ?_
  refine mo_g_7 S E hM dX5_isState_3 ?_
  refine mi_top (v' := .int (nI (n))) (congrArg Value.int hfn) ?_
  refine lv_iconst (v := nI 1) S.1 S.2.1 dX5_isState_6 (by decide) ?_
  refine lv_isub S.1 S.2.1 dX5_isState_7 ?_
  refine mi_cR (mi_runS (P := mo_W D A ad cf0 f g) (As := [.int (x), .int (nI (0)), .int ((nI (n)) - (nI (1)))]) (rest := []) S E hS hM (c_in_n l D A (mo_W D A ad cf0 f g) (by skip; have := nI_toInt (n := 0) (by omega); have := pk_sub_toInt (a := n) (b := 1) (by omega) (by omega); omega)) mw_736 mw_734 mw_735 mw_43 ⟨by decide, by decide, by decide +kernel⟩ ⟨rfl, rfl, Nat.le_of_ble_eq_true rfl, Nat.le_of_ble_eq_true rfl⟩ (n := 3) rfl hl.1 rfl (Nat.le_of_ble_eq_true rfl) dX5_isState_8 ⟨Nat.le_of_ble_eq_true rfl, Nat.le_of_ble_eq_true rfl⟩) (fun r9 e9 => ?_)
  subst e9
  exact mi_retZ S hr hk dX5_isState_11 rfl (rfl)
set_option maxHeartbeats 4000000 in
set_option maxRecDepth 100000 in
theorem c_isDie_y (l : Launch) (D : va_G) (A : Nat → Prop) {ad : Nat → Nat} {cf0 : Nat → Option va_E} {f : Nat → Int32} {g : Nat → Nat → Int32} {n a : Nat} (hfn : f 6 = nI n) (hn : n < 1000) (ha : a < n) : mi_Rd l yX5_isDie (Cond.code yX5_isDie cX5_isDie 2 (some Jvm.ClassFile.FieldType.boolean)) (mi_rm 1) D A (mo_W D A ad cf0 f g) [.ref (ad 1000020), .int (nI (a))] (fun r => r = nI 1) := by
  refine mi_start (cc := cX5_isDie) (nL := 2) (ret := (some Jvm.ClassFile.FieldType.boolean)) rfl (by decide) (Nat.le_of_ble_eq_true rfl) ?_
  intro p e s m below meth c ls S E hM hS hr hk hn hl
  have S : CallFix p m c cX5_isDie 2 s _ ((Cond.code yX5_isDie cX5_isDie 2 (some Jvm.ClassFile.FieldType.boolean)) :: mi_G) RX5 := S
  have hl : lv_has ls 2 [(0, .ref (ad 1000020)), (1, .int (nI (a)))] := hl
  refine lv_iload_n S.1 S.2.1 dX5_isDie_0 rfl (lv_at hl 1 rfl) ?_
  refine lv_iconst (v := nI 0) S.1 S.2.1 dX5_isDie_1 (by decide) ?_
  refine lv_aload_n S.1 S.2.1 dX5_isDie_2 rfl (lv_at hl 0 rfl) ?_
  refine mo_g_104 S E hM dX5_isDie_3 ?_
  refine mi_top (v' := .int (nI (n))) (congrArg Value.int hfn) ?_
  refine lv_iconst (v := nI 1) S.1 S.2.1 dX5_isDie_6 (by decide) ?_
  refine lv_isub S.1 S.2.1 dX5_isDie_7 ?_
  refine mi_cR (mi_runS (P := mo_W D A ad cf0 f g) (As := [.int (nI (a)), .int (nI (0)), .int ((nI (n)) - (nI (1)))]) (rest := []) S E hS hM (c_in_y l D A (mo_W D A ad cf0 f g) (by have := nI_toInt (n := a) (by omega); have := nI_toInt (n := 0) (by omega); have := pk_sub_toInt (a := n) (b := 1) (by omega) (by omega); omega)) mw_736 mw_734 mw_735 mw_43 ⟨by decide, by decide, by decide +kernel⟩ ⟨rfl, rfl, Nat.le_of_ble_eq_true rfl, Nat.le_of_ble_eq_true rfl⟩ (n := 3) rfl hl.1 rfl (Nat.le_of_ble_eq_true rfl) dX5_isDie_8 ⟨Nat.le_of_ble_eq_true rfl, Nat.le_of_ble_eq_true rfl⟩) (fun r9 e9 => ?_)
  subst e9
  exact mi_retZ S hr hk dX5_isDie_11 rfl (rfl)
set_option maxHeartbeats 4000000 in
set_option maxRecDepth 100000 in
theorem c_isDie_n (l : Launch) (D : va_G) (A : Nat → Prop) {ad : Nat → Nat} {cf0 : Nat → Option va_E} {f : Nat → Int32} {g : Nat → Nat → Int32} {n : Nat} {x : Int32} (hfn : f 6 = nI n) (hn9 : n < 1000) (h : ¬ (0 ≤ x.toInt ∧ x.toInt < n)) : mi_Rd l yX5_isDie (Cond.code yX5_isDie cX5_isDie 2 (some Jvm.ClassFile.FieldType.boolean)) (mi_rm 1) D A (mo_W D A ad cf0 f g) [.ref (ad 1000020), .int (x)] (fun r => r = nI 0) := by
  refine mi_start (cc := cX5_isDie) (nL := 2) (ret := (some Jvm.ClassFile.FieldType.boolean)) rfl (by decide) (Nat.le_of_ble_eq_true rfl) ?_
  intro p e s m below meth c ls S E hM hS hr hk hn hl
  have S : CallFix p m c cX5_isDie 2 s _ ((Cond.code yX5_isDie cX5_isDie 2 (some Jvm.ClassFile.FieldType.boolean)) :: mi_G) RX5 := S
  have hl : lv_has ls 2 [(0, .ref (ad 1000020)), (1, .int (x))] := hl
  refine lv_iload_n S.1 S.2.1 dX5_isDie_0 rfl (lv_at hl 1 rfl) ?_
  refine lv_iconst (v := nI 0) S.1 S.2.1 dX5_isDie_1 (by decide) ?_
  refine lv_aload_n S.1 S.2.1 dX5_isDie_2 rfl (lv_at hl 0 rfl) ?_
  refine mo_g_104 S E hM dX5_isDie_3 ?_
  refine mi_top (v' := .int (nI (n))) (congrArg Value.int hfn) ?_
  refine lv_iconst (v := nI 1) S.1 S.2.1 dX5_isDie_6 (by decide) ?_
  refine lv_isub S.1 S.2.1 dX5_isDie_7 ?_
  refine mi_cR (mi_runS (P := mo_W D A ad cf0 f g) (As := [.int (x), .int (nI (0)), .int ((nI (n)) - (nI (1)))]) (rest := []) S E hS hM (c_in_n l D A (mo_W D A ad cf0 f g) (by skip; have := nI_toInt (n := 0) (by omega); have := pk_sub_toInt (a := n) (b := 1) (by omega) (by omega); omega)) mw_736 mw_734 mw_735 mw_43 ⟨by decide, by decide, by decide +kernel⟩ ⟨rfl, rfl, Nat.le_of_ble_eq_true rfl, Nat.le_of_ble_eq_true rfl⟩ (n := 3) rfl hl.1 rfl (Nat.le_of_ble_eq_true rfl) dX5_isDie_8 ⟨Nat.le_of_ble_eq_true rfl, Nat.le_of_ble_eq_true rfl⟩) (fun r9 e9 => ?_)
  subst e9
  exact mi_retZ S hr hk dX5_isDie_11 rfl (rfl)
set_option maxHeartbeats 4000000 in
set_option maxRecDepth 100000 in
theorem c_isCoin_y (l : Launch) (D : va_G) (A : Nat → Prop) {ad : Nat → Nat} {cf0 : Nat → Option va_E} {f : Nat → Int32} {g : Nat → Nat → Int32} {n a : Nat} (hfn : f 10 = nI n) (hn : n < 1000) (ha : a < n) : mi_Rd l yX5_isCoin (Cond.code yX5_isCoin cX5_isCoin 2 (some Jvm.ClassFile.FieldType.boolean)) (mi_rm 1) D A (mo_W D A ad cf0 f g) [.ref (ad 1000020), .int (nI (a))] (fun r => r = nI 1) := by
  refine mi_start (cc := cX5_isCoin) (nL := 2) (ret := (some Jvm.ClassFile.FieldType.boolean)) rfl (by decide) (Nat.le_of_ble_eq_true rfl) ?_
  intro p e s m below meth c ls S E hM hS hr hk hn hl
  have S : CallFix p m c cX5_isCoin 2 s _ ((Cond.code yX5_isCoin cX5_isCoin 2 (some Jvm.ClassFile.FieldType.boolean)) :: mi_G) RX5 := S
  have hl : lv_has ls 2 [(0, .ref (ad 1000020)), (1, .int (nI (a)))] := hl
  refine lv_iload_n S.1 S.2.1 dX5_isCoin_0 rfl (lv_at hl 1 rfl) ?_
  refine lv_iconst (v := nI 0) S.1 S.2.1 dX5_isCoin_1 (by decide) ?_
  refine lv_aload_n S.1 S.2.1 dX5_isCoin_2 rfl (lv_at hl 0 rfl) ?_
  refine mo_g_107 S E hM dX5_isCoin_3 ?_
  refine mi_top (v' := .int (nI (n))) (congrArg Value.int hfn) ?_
  refine lv_iconst (v := nI 1) S.1 S.2.1 dX5_isCoin_6 (by decide) ?_
  refine lv_isub S.1 S.2.1 dX5_isCoin_7 ?_
  refine mi_cR (mi_runS (P := mo_W D A ad cf0 f g) (As := [.int (nI (a)), .int (nI (0)), .int ((nI (n)) - (nI (1)))]) (rest := []) S E hS hM (c_in_y l D A (mo_W D A ad cf0 f g) (by have := nI_toInt (n := a) (by omega); have := nI_toInt (n := 0) (by omega); have := pk_sub_toInt (a := n) (b := 1) (by omega) (by omega); omega)) mw_736 mw_734 mw_735 mw_43 ⟨by decide, by decide, by decide +kernel⟩ ⟨rfl, rfl, Nat.le_of_ble_eq_true rfl, Nat.le_of_ble_eq_true rfl⟩ (n := 3) rfl hl.1 rfl (Nat.le_of_ble_eq_true rfl) dX5_isCoin_8 ⟨Nat.le_of_ble_eq_true rfl, Nat.le_of_ble_eq_true rfl⟩) (fun r9 e9 => ?_)
  subst e9
  exact mi_retZ S hr hk dX5_isCoin_11 rfl (rfl)
set_option maxHeartbeats 4000000 in
set_option maxRecDepth 100000 in
theorem c_isCoin_n (l : Launch) (D : va_G) (A : Nat → Prop) {ad : Nat → Nat} {cf0 : Nat → Option va_E} {f : Nat → Int32} {g : Nat → Nat → Int32} {n : Nat} {x : Int32} (hfn : f 10 = nI n) (hn9 : n < 1000) (h : ¬ (0 ≤ x.toInt ∧ x.toInt < n)) : mi_Rd l yX5_isCoin (Cond.code yX5_isCoin cX5_isCoin 2 (some Jvm.ClassFile.FieldType.boolean)) (mi_rm 1) D A (mo_W D A ad cf0 f g) [.ref (ad 1000020), .int (x)] (fun r => r = nI 0) := by
  refine mi_start (cc := cX5_isCoin) (nL := 2) (ret := (some Jvm.ClassFile.FieldType.boolean)) rfl (by decide) (Nat.le_of_ble_eq_true rfl) ?_
  intro p e s m below meth c ls S E hM hS hr hk hn hl
  have S : CallFix p m c cX5_isCoin 2 s _ ((Cond.code yX5_isCoin cX5_isCoin 2 (some Jvm.ClassFile.FieldType.boolean)) :: mi_G) RX5 := S
  have hl : lv_has ls 2 [(0, .ref (ad 1000020)), (1, .int (x))] := hl
  refine lv_iload_n S.1 S.2.1 dX5_isCoin_0 rfl (lv_at hl 1 rfl) ?_
  refine lv_iconst (v := nI 0) S.1 S.2.1 dX5_isCoin_1 (by decide) ?_
  refine lv_aload_n S.1 S.2.1 dX5_isCoin_2 rfl (lv_at hl 0 rfl) ?_
  refine mo_g_107 S E hM dX5_isCoin_3 ?_
  refine mi_top (v' := .int (nI (n))) (congrArg Value.int hfn) ?_
  refine lv_iconst (v := nI 1) S.1 S.2.1 dX5_isCoin_6 (by decide) ?_
  refine lv_isub S.1 S.2.1 dX5_isCoin_7 ?_
  refine mi_cR (mi_runS (P := mo_W D A ad cf0 f g) (As := [.int (x), .int (nI (0)), .int ((nI (n)) - (nI (1)))]) (rest := []) S E hS hM (c_in_n l D A (mo_W D A ad cf0 f g) (by skip; have := nI_toInt (n := 0) (by omega); have := pk_sub_toInt (a := n) (b := 1) (by omega) (by omega); omega)) mw_736 mw_734 mw_735 mw_43 ⟨by decide, by decide, by decide +kernel⟩ ⟨rfl, rfl, Nat.le_of_ble_eq_true rfl, Nat.le_of_ble_eq_true rfl⟩ (n := 3) rfl hl.1 rfl (Nat.le_of_ble_eq_true rfl) dX5_isCoin_8 ⟨Nat.le_of_ble_eq_true rfl, Nat.le_of_ble_eq_true rfl⟩) (fun r9 e9 => ?_)
  subst e9
  exact mi_retZ S hr hk dX5_isCoin_11 rfl (rfl)
set_option maxHeartbeats 4000000 in
set_option maxRecDepth 100000 in
theorem c_mkindAt (l : Launch) (D : va_G) (A : Nat → Prop) {ad : Nat → Nat} {cf0 : Nat → Option va_E} {f : Nat → Int32} {g : Nat → Nat → Int32} {w a b v : Nat} (hw : w < 61) (ha : a < 16) (hb : b < 8) (hk9 : mo_kd (g 4 (16 * w + a)) b = nI v) : mi_Rd l yX5_kindAt (Cond.code yX5_kindAt cX5_kindAt 4 (some Jvm.ClassFile.FieldType.int)) (mi_rm 0) D A (mo_W D A ad cf0 f g) [.ref (ad 1000020), .int (nI (w)), .int (nI (a)), .int (nI (b))] (fun r => r = nI v) := by
  refine mi_start (cc := cX5_kindAt) (nL := 4) (ret := (some Jvm.ClassFile.FieldType.int)) rfl (by decide) (Nat.le_of_ble_eq_true rfl) ?_
  intro p e s m below meth c ls S E hM hS hr hk hn hl
  have S : CallFix p m c cX5_kindAt 4 s _ ((Cond.code yX5_kindAt cX5_kindAt 4 (some Jvm.ClassFile.FieldType.int)) :: mi_G) RX5 := S
  have hl : lv_has ls 4 [(0, .ref (ad 1000020)), (1, .int (nI (w))), (2, .int (nI (a))), (3, .int (nI (b)))] := hl
  refine lv_aload_n S.1 S.2.1 dX5_kindAt_0 rfl (lv_at hl 0 rfl) ?_
  refine mo_g_17 S E hM dX5_kindAt_1 ?_
  refine lv_bipush (v := nI 16) S.1 S.2.1 dX5_kindAt_4 (by decide) ?_
  refine lv_iload_n S.1 S.2.1 dX5_kindAt_6 rfl (lv_at hl 1 rfl) ?_
  refine mi_imul S dX5_kindAt_7 ?_
  refine lv_iload_n S.1 S.2.1 dX5_kindAt_8 rfl (lv_at hl 2 rfl) ?_
  refine mi_iadd S dX5_kindAt_9 ?_
  refine mo_ald 4 S E hM rfl (by show _ < 976; omega) dX5_kindAt_10 ?_
  refine lv_iconst (v := nI 2) S.1 S.2.1 dX5_kindAt_11 (by decide) ?_
  refine lv_iload_n S.1 S.2.1 dX5_kindAt_12 rfl (lv_at hl 3 rfl) ?_
  refine mi_imul S dX5_kindAt_13 ?_
  refine lv_ishr S.1 S.2.1 dX5_kindAt_14 ?_
  refine lv_iconst (v := nI 3) S.1 S.2.1 dX5_kindAt_15 (by decide) ?_
  refine lv_iand S.1 S.2.1 dX5_kindAt_16 ?_
  refine mi_top (v' := .int (nI (v))) (congrArg Value.int hk9) ?_
  exact mi_retR S hr hk dX5_kindAt_17 (rfl)
set_option maxHeartbeats 4000000 in
set_option maxRecDepth 100000 in
theorem c_mkindNow (l : Launch) (D : va_G) (A : Nat → Prop) {ad : Nat → Nat} {cf0 : Nat → Option va_E} {f : Nat → Int32} {g : Nat → Nat → Int32} {w a b v : Nat} (hw : w < 61) (hf2 : f 2 = nI w) (ha : a < 16) (hb : b < 8) (hk9 : mo_kd (g 4 (16 * w + a)) b = nI v) : mi_Rd l yX5_kindNow (Cond.code yX5_kindNow cX5_kindNow 3 (some Jvm.ClassFile.FieldType.int)) (mi_rm 1) D A (mo_W D A ad cf0 f g) [.ref (ad 1000020), .int (nI (a)), .int (nI (b))] (fun r => r = nI v) := by
  refine mi_start (cc := cX5_kindNow) (nL := 3) (ret := (some Jvm.ClassFile.FieldType.int)) rfl (by decide) (Nat.le_of_ble_eq_true rfl) ?_
  intro p e s m below meth c ls S E hM hS hr hk hn hl
  have S : CallFix p m c cX5_kindNow 3 s _ ((Cond.code yX5_kindNow cX5_kindNow 3 (some Jvm.ClassFile.FieldType.int)) :: mi_G) RX5 := S
  have hl : lv_has ls 3 [(0, .ref (ad 1000020)), (1, .int (nI (a))), (2, .int (nI (b)))] := hl
  refine lv_aload_n S.1 S.2.1 dX5_kindNow_0 rfl (lv_at hl 0 rfl) ?_
  refine lv_aload_n S.1 S.2.1 dX5_kindNow_1 rfl (lv_at hl 0 rfl) ?_
  refine mo_g_51 S E hM dX5_kindNow_2 ?_
  refine mi_top (v' := .int (nI (w))) (congrArg Value.int hf2) ?_
  refine lv_iload_n S.1 S.2.1 dX5_kindNow_5 rfl (lv_at hl 1 rfl) ?_
  refine lv_iload_n S.1 S.2.1 dX5_kindNow_6 rfl (lv_at hl 2 rfl) ?_
  refine mi_cR (mi_runV (P := mo_W D A ad cf0 f g) (As := [.int (nI (w)), .int (nI (a)), .int (nI (b))]) (rest := []) S E hS hM (ad 1000020) (c_mkindAt l D A hw ha hb hk9) (hM.recv E) mw_767 mw_764 mw_766 mw_20 mw_43 ⟨by decide, by decide, by decide +kernel⟩ ⟨rfl, rfl, Nat.le_of_ble_eq_true rfl, Nat.le_of_ble_eq_true rfl⟩ (n := 3) rfl hl.1 rfl (Nat.le_of_ble_eq_true rfl) dX5_kindNow_7 ⟨Nat.le_of_ble_eq_true rfl, Nat.le_of_ble_eq_true rfl⟩) (fun r9 e9 => ?_)
  subst e9
  exact mi_retR S hr hk dX5_kindNow_10 (rfl)
set_option maxHeartbeats 4000000 in
set_option maxRecDepth 100000 in
theorem c_runsOf (l : Launch) (D : va_G) (A : Nat → Prop) {ad : Nat → Nat} {cf0 : Nat → Option va_E} {f : Nat → Int32} {g : Nat → Nat → Int32}{w : Nat} {K : Nat → Nat} (hw : w < 61) (hf2 : f 2 = nI w) (hK : ∀ a b, a < 16 → b < 8 → mo_kd (g 4 (16 * w + a)) b = nI (K (8 * a + b))) (hKb : ∀ j, j < 128 → K j < 4) {a : Nat} (ha : a < 16) : mi_Rd l yX5_runsOf (Cond.code yX5_runsOf cX5_runsOf 4 (some Jvm.ClassFile.FieldType.int)) (mi_rm 2) D A (mo_W D A ad cf0 f g) [.ref (ad 1000020), .int (nI (a))] (fun r => r = nI (sp_runs K a)) := by
  refine mi_start (cc := cX5_runsOf) (nL := 4) (ret := (some Jvm.ClassFile.FieldType.int)) rfl (by decide) (Nat.le_of_ble_eq_true rfl) ?_
  intro p e s m below meth c ls S E hM hS hr hk hn hl
  have S : CallFix p m c cX5_runsOf 4 s _ ((Cond.code yX5_runsOf cX5_runsOf 4 (some Jvm.ClassFile.FieldType.int)) :: mi_G) RX5 := S
  have hl : lv_has ls 4 [(0, .ref (ad 1000020)), (1, .int (nI (a)))] := hl
  refine lv_iconst (v := nI 1) S.1 S.2.1 dX5_runsOf_0 (by decide) ?_
  refine lv_istore_n (lv' := [(2, .int (nI (1))), (0, .ref (ad 1000020)), (1, .int (nI (a)))]) S.1 S.2.1 dX5_runsOf_1 rfl hl (by decide) rfl (fun ls hl => ?_)
  refine lv_iconst (v := nI 1) S.1 S.2.1 dX5_runsOf_2 (by decide) ?_
  refine lv_istore_n (lv' := [(3, .int (nI (1))), (2, .int (nI (1))), (0, .ref (ad 1000020)), (1, .int (nI (a)))]) S.1 S.2.1 dX5_runsOf_3 rfl hl (by decide) rfl (fun ls hl => ?_)
  have lp4 : ∀ (n4 : Nat) (i : Nat) (k : Nat) (ls : Array Slot), 8 - i < n4 → 1 ≤ i ∧ i ≤ 8 → k = 1 + sp_ri K a (i - 1) → lv_has ls 4 [(0, .ref (ad 1000020)), (1, .int (nI (a))), (2, .int (nI (k))), (3, .int (nI (i)))] → W p l e (mi_rm 2) s m ([.ref (ad 1000020), .int (nI (a))] : List Value).toArray below meth c s.heap [] 0 0 (MQ below (vp_Si (fun r => r = nI (sp_runs K a))) ([.ref (ad 1000020), .int (nI (a))] : List Value).toArray s 0 0 (fun _ => False)) (F0 m 4 ls []) := by
    intro n4
    induction n4 with
    | zero => intro i k ls hm hi hk9  hl; exact absurd hm (Nat.not_lt_zero _)
    | succ n4 ih4 =>
      intro i k ls hm hi hk9  hl
      refine lv_iload_n S.1 S.2.1 dX5_runsOf_4 rfl (lv_at hl 3 rfl) ?_
      refine lv_bipush (v := nI 8) S.1 S.2.1 dX5_runsOf_5 (by decide) ?_
      refine mi_icmp_ge (tgt := 41) S (by omega) (by omega) dX5_runsOf_7 (by decide) (fun c7_0 => ?_) (fun c7_0 => ?_)
      · refine lv_iload_n S.1 S.2.1 dX5_runsOf_41 rfl (lv_at hl 2 rfl) ?_
        exact mi_retR S hr hk dX5_runsOf_42 (by rw [hk9, show i = 8 by omega]; rfl)
      · refine lv_iload_n S.1 S.2.1 dX5_runsOf_10 rfl (lv_at hl 2 rfl) ?_
        refine lv_aload_n S.1 S.2.1 dX5_runsOf_11 rfl (lv_at hl 0 rfl) ?_
        refine lv_iload_n S.1 S.2.1 dX5_runsOf_12 rfl (lv_at hl 1 rfl) ?_
        refine lv_iload_n S.1 S.2.1 dX5_runsOf_13 rfl (lv_at hl 3 rfl) ?_
        refine mi_cR (mi_runV (P := mo_W D A ad cf0 f g) (As := [.int (nI (a)), .int (nI (i))]) (rest := [.int (nI (k))]) S E hS hM (ad 1000020) (c_mkindNow l D A hw hf2 (by omega) (by omega) (hK a i (by omega) (by omega))) (hM.recv E) mw_763 mw_760 mw_762 mw_19 mw_43 ⟨by decide, by decide, by decide +kernel⟩ ⟨rfl, rfl, Nat.le_of_ble_eq_true rfl, Nat.le_of_ble_eq_true rfl⟩ (n := 2) rfl hl.1 rfl (Nat.le_of_ble_eq_true rfl) dX5_runsOf_14 ⟨Nat.le_of_ble_eq_true rfl, Nat.le_of_ble_eq_true rfl⟩) (fun r9 e9 => ?_)
        subst e9
        refine lv_aload_n S.1 S.2.1 dX5_runsOf_17 rfl (lv_at hl 0 rfl) ?_
        refine lv_iload_n S.1 S.2.1 dX5_runsOf_18 rfl (lv_at hl 1 rfl) ?_
        refine lv_iload_n S.1 S.2.1 dX5_runsOf_19 rfl (lv_at hl 3 rfl) ?_
        refine lv_iconst (v := nI 1) S.1 S.2.1 dX5_runsOf_20 (by decide) ?_
        refine mi_isub S (by omega) dX5_runsOf_21 ?_
        refine mi_cR (mi_runV (P := mo_W D A ad cf0 f g) (As := [.int (nI (a)), .int (nI (i - 1))]) (rest := [.int (nI (K (8 * a + i))), .int (nI (k))]) S E hS hM (ad 1000020) (c_mkindNow l D A hw hf2 (by omega) (by omega) (hK a (i - 1) (by omega) (by omega))) (hM.recv E) mw_763 mw_760 mw_762 mw_19 mw_43 ⟨by decide, by decide, by decide +kernel⟩ ⟨rfl, rfl, Nat.le_of_ble_eq_true rfl, Nat.le_of_ble_eq_true rfl⟩ (n := 2) rfl hl.1 rfl (Nat.le_of_ble_eq_true rfl) dX5_runsOf_22 ⟨Nat.le_of_ble_eq_true rfl, Nat.le_of_ble_eq_true rfl⟩) (fun r9 e9 => ?_)
        subst e9
        have hb1 := hKb (8 * a + i) (by omega)
        have hb2 := hKb (8 * a + (i - 1)) (by omega)
        refine mi_icmp_ne (tgt := 32) S (by omega) (by omega) dX5_runsOf_25 (by decide) (fun c25_1 => ?_) (fun c25_1 => ?_)
        · refine lv_iconst (v := nI 1) S.1 S.2.1 dX5_runsOf_32 (by decide) ?_
          refine mi_iadd S dX5_runsOf_33 ?_
          refine lv_istore_n (lv' := [(2, .int (nI (k + 1))), (0, .ref (ad 1000020)), (1, .int (nI (a))), (3, .int (nI (i)))]) S.1 S.2.1 dX5_runsOf_34 rfl hl (by decide) rfl (fun ls hl => ?_)
          refine lv_iinc (v := nI (i + 1)) (lv' := [(3, .int (nI (i + 1))), (2, .int (nI (k + 1))), (0, .ref (ad 1000020)), (1, .int (nI (a)))]) S.1 S.2.1 dX5_runsOf_35 hl (k := 3) rfl (mi_inc _) (by decide) rfl (fun ls hl => ?_)
          refine lv_goto (tgt := 4) S.1 S.2.1 dX5_runsOf_38 (by decide) ?_
          exact ih4 (i + 1) (k + 1) _ (by omega) (by omega) (by rw [show i + 1 - 1 = (i - 1) + 1 by omega, sp_ri_succ]; unfold sp_ne; rw [show 8 * a + (i - 1) + 1 = 8 * a + i by omega]; first | (rw [if_pos (by omega)]; omega) | (rw [if_neg (by omega)]; omega))  (lv_sub hl [2, 3, 1, 0] rfl)
        · refine lv_iconst (v := nI 0) S.1 S.2.1 dX5_runsOf_28 (by decide) ?_
          refine lv_goto (tgt := 33) S.1 S.2.1 dX5_runsOf_29 (by decide) ?_
          refine mi_iadd S dX5_runsOf_33 ?_
          refine lv_istore_n (lv' := [(2, .int (nI (k + 0))), (0, .ref (ad 1000020)), (1, .int (nI (a))), (3, .int (nI (i)))]) S.1 S.2.1 dX5_runsOf_34 rfl hl (by decide) rfl (fun ls hl => ?_)
          refine lv_iinc (v := nI (i + 1)) (lv' := [(3, .int (nI (i + 1))), (2, .int (nI (k + 0))), (0, .ref (ad 1000020)), (1, .int (nI (a)))]) S.1 S.2.1 dX5_runsOf_35 hl (k := 3) rfl (mi_inc _) (by decide) rfl (fun ls hl => ?_)
          refine lv_goto (tgt := 4) S.1 S.2.1 dX5_runsOf_38 (by decide) ?_
          exact ih4 (i + 1) (k + 0) _ (by omega) (by omega) (by rw [show i + 1 - 1 = (i - 1) + 1 by omega, sp_ri_succ]; unfold sp_ne; rw [show 8 * a + (i - 1) + 1 = 8 * a + i by omega]; first | (rw [if_pos (by omega)]; omega) | (rw [if_neg (by omega)]; omega))  (lv_sub hl [2, 3, 1, 0] rfl)
  exact lp4 _ 1 1 _ (Nat.lt_succ_self _) (by omega) (by rfl)  (lv_sub hl [2, 3, 1, 0] rfl)
set_option maxHeartbeats 4000000 in
set_option maxRecDepth 100000 in
theorem c_heightNow (l : Launch) (D : va_G) (A : Nat → Prop) {ad : Nat → Nat} {cf0 : Nat → Option va_E} {f : Nat → Int32} {g : Nat → Nat → Int32}{w : Nat} {K : Nat → Nat} (hw : w < 61) (hf2 : f 2 = nI w) (hK : ∀ a b, a < 16 → b < 8 → mo_kd (g 4 (16 * w + a)) b = nI (K (8 * a + b))) (hKb : ∀ j, j < 128 → K j < 4) {a : Nat} (ha : a < 16) : mi_Rd l yX5_heightNow (Cond.code yX5_heightNow cX5_heightNow 4 (some Jvm.ClassFile.FieldType.int)) (mi_rm 2) D A (mo_W D A ad cf0 f g) [.ref (ad 1000020), .int (nI (a))] (fun r => r = nI (sp_h K a 8)) := by
  refine mi_start (cc := cX5_heightNow) (nL := 4) (ret := (some Jvm.ClassFile.FieldType.int)) rfl (by decide) (Nat.le_of_ble_eq_true rfl) ?_
  intro p e s m below meth c ls S E hM hS hr hk hn hl
  have S : CallFix p m c cX5_heightNow 4 s _ ((Cond.code yX5_heightNow cX5_heightNow 4 (some Jvm.ClassFile.FieldType.int)) :: mi_G) RX5 := S
  have hl : lv_has ls 4 [(0, .ref (ad 1000020)), (1, .int (nI (a)))] := hl
  refine lv_iconst (v := nI 0) S.1 S.2.1 dX5_heightNow_0 (by decide) ?_
  refine lv_istore_n (lv' := [(2, .int (nI (0))), (0, .ref (ad 1000020)), (1, .int (nI (a)))]) S.1 S.2.1 dX5_heightNow_1 rfl hl (by decide) rfl (fun ls hl => ?_)
  refine lv_iconst (v := nI 0) S.1 S.2.1 dX5_heightNow_2 (by decide) ?_
  refine lv_istore_n (lv' := [(3, .int (nI (0))), (2, .int (nI (0))), (0, .ref (ad 1000020)), (1, .int (nI (a)))]) S.1 S.2.1 dX5_heightNow_3 rfl hl (by decide) rfl (fun ls hl => ?_)
  have lp4 : ∀ (n4 : Nat) (i : Nat) (k : Nat) (ls : Array Slot), 8 - i < n4 → i ≤ 8 → k = sp_h K a i → lv_has ls 4 [(0, .ref (ad 1000020)), (1, .int (nI (a))), (2, .int (nI (k))), (3, .int (nI (i)))] → W p l e (mi_rm 2) s m ([.ref (ad 1000020), .int (nI (a))] : List Value).toArray below meth c s.heap [] 0 0 (MQ below (vp_Si (fun r => r = nI (sp_h K a 8))) ([.ref (ad 1000020), .int (nI (a))] : List Value).toArray s 0 0 (fun _ => False)) (F0 m 4 ls []) := by
    intro n4
    induction n4 with
    | zero => intro i k ls hm hi hk9  hl; exact absurd hm (Nat.not_lt_zero _)
    | succ n4 ih4 =>
      intro i k ls hm hi hk9  hl
      refine lv_iload_n S.1 S.2.1 dX5_heightNow_4 rfl (lv_at hl 3 rfl) ?_
      refine lv_bipush (v := nI 8) S.1 S.2.1 dX5_heightNow_5 (by decide) ?_
      refine mi_icmp_ge (tgt := 33) S (by omega) (by omega) dX5_heightNow_7 (by decide) (fun c7_0 => ?_) (fun c7_0 => ?_)
      · refine lv_iload_n S.1 S.2.1 dX5_heightNow_33 rfl (lv_at hl 2 rfl) ?_
        exact mi_retR S hr hk dX5_heightNow_34 (by rw [hk9, show i = 8 by omega])
      · refine lv_aload_n S.1 S.2.1 dX5_heightNow_10 rfl (lv_at hl 0 rfl) ?_
        refine lv_iload_n S.1 S.2.1 dX5_heightNow_11 rfl (lv_at hl 1 rfl) ?_
        refine lv_iload_n S.1 S.2.1 dX5_heightNow_12 rfl (lv_at hl 3 rfl) ?_
        refine mi_cR (mi_runV (P := mo_W D A ad cf0 f g) (As := [.int (nI (a)), .int (nI (i))]) (rest := []) S E hS hM (ad 1000020) (c_mkindNow l D A hw hf2 (by omega) (by omega) (hK a i (by omega) (by omega))) (hM.recv E) mw_763 mw_760 mw_762 mw_19 mw_43 ⟨by decide, by decide, by decide +kernel⟩ ⟨rfl, rfl, Nat.le_of_ble_eq_true rfl, Nat.le_of_ble_eq_true rfl⟩ (n := 2) rfl hl.1 rfl (Nat.le_of_ble_eq_true rfl) dX5_heightNow_13 ⟨Nat.le_of_ble_eq_true rfl, Nat.le_of_ble_eq_true rfl⟩) (fun r9 e9 => ?_)
        subst e9
        have hb1 := hKb (8 * a + i) (by omega)
        have hh1 := sp_h_le K a i
        refine mi_if_le (tgt := 25) S (by omega) dX5_heightNow_16 (by decide) (fun c16_1 => ?_) (fun c16_1 => ?_)
        · refine lv_iload_n S.1 S.2.1 dX5_heightNow_25 rfl (lv_at hl 2 rfl) ?_
          refine lv_istore_n (lv' := [(2, .int (nI (k))), (0, .ref (ad 1000020)), (1, .int (nI (a))), (3, .int (nI (i)))]) S.1 S.2.1 dX5_heightNow_26 rfl hl (by decide) rfl (fun ls hl => ?_)
          refine lv_iinc (v := nI (i + 1)) (lv' := [(3, .int (nI (i + 1))), (2, .int (nI (k))), (0, .ref (ad 1000020)), (1, .int (nI (a)))]) S.1 S.2.1 dX5_heightNow_27 hl (k := 3) rfl (mi_inc _) (by decide) rfl (fun ls hl => ?_)
          refine lv_goto (tgt := 4) S.1 S.2.1 dX5_heightNow_30 (by decide) ?_
          exact ih4 (i + 1) k _ (by omega) (by omega) (by first | (rw [sp_h_0 (by omega)]; omega) | (rw [sp_h_1 (by omega)]))  (lv_sub hl [2, 3, 1, 0] rfl)
        · refine lv_iload_n S.1 S.2.1 dX5_heightNow_19 rfl (lv_at hl 3 rfl) ?_
          refine lv_iconst (v := nI 1) S.1 S.2.1 dX5_heightNow_20 (by decide) ?_
          refine mi_iadd S dX5_heightNow_21 ?_
          refine lv_goto (tgt := 26) S.1 S.2.1 dX5_heightNow_22 (by decide) ?_
          refine lv_istore_n (lv' := [(2, .int (nI (i + 1))), (0, .ref (ad 1000020)), (1, .int (nI (a))), (3, .int (nI (i)))]) S.1 S.2.1 dX5_heightNow_26 rfl hl (by decide) rfl (fun ls hl => ?_)
          refine lv_iinc (v := nI (i + 1)) (lv' := [(3, .int (nI (i + 1))), (2, .int (nI (i + 1))), (0, .ref (ad 1000020)), (1, .int (nI (a)))]) S.1 S.2.1 dX5_heightNow_27 hl (k := 3) rfl (mi_inc _) (by decide) rfl (fun ls hl => ?_)
          refine lv_goto (tgt := 4) S.1 S.2.1 dX5_heightNow_30 (by decide) ?_
          exact ih4 (i + 1) (i + 1) _ (by omega) (by omega) (by first | (rw [sp_h_0 (by omega)]; omega) | (rw [sp_h_1 (by omega)]))  (lv_sub hl [2, 3, 1, 0] rfl)
  exact lp4 _ 0 0 _ (Nat.lt_succ_self _) (by omega) (by rfl)  (lv_sub hl [2, 3, 1, 0] rfl)
set_option maxHeartbeats 4000000 in
set_option maxRecDepth 100000 in
theorem c_manyBlocks (l : Launch) (D : va_G) (A : Nat → Prop) {ad : Nat → Nat} {cf0 : Nat → Option va_E} {f : Nat → Int32} {g : Nat → Nat → Int32}{w : Nat} {K : Nat → Nat} (hw : w < 61) (hf2 : f 2 = nI w) (hK : ∀ a b, a < 16 → b < 8 → mo_kd (g 4 (16 * w + a)) b = nI (K (8 * a + b))) (hKb : ∀ j, j < 128 → K j < 4) : mi_Rd l yX5_manyBlocks (Cond.code yX5_manyBlocks cX5_manyBlocks 4 (some Jvm.ClassFile.FieldType.int)) (mi_rm 2) D A (mo_W D A ad cf0 f g) [.ref (ad 1000020)] (fun r => r = nI (sp_blocks K)) := by
  refine mi_start (cc := cX5_manyBlocks) (nL := 4) (ret := (some Jvm.ClassFile.FieldType.int)) rfl (by decide) (Nat.le_of_ble_eq_true rfl) ?_
  intro p e s m below meth c ls S E hM hS hr hk hn hl
  have S : CallFix p m c cX5_manyBlocks 4 s _ ((Cond.code yX5_manyBlocks cX5_manyBlocks 4 (some Jvm.ClassFile.FieldType.int)) :: mi_G) RX5 := S
  have hl : lv_has ls 4 [(0, .ref (ad 1000020))] := hl
  refine lv_iconst (v := nI 0) S.1 S.2.1 dX5_manyBlocks_0 (by decide) ?_
  refine lv_istore_n (lv' := [(1, .int (nI (0))), (0, .ref (ad 1000020))]) S.1 S.2.1 dX5_manyBlocks_1 rfl hl (by decide) rfl (fun ls hl => ?_)
  refine lv_iconst (v := nI 0) S.1 S.2.1 dX5_manyBlocks_2 (by decide) ?_
  refine lv_istore_n (lv' := [(2, .int (nI (0))), (1, .int (nI (0))), (0, .ref (ad 1000020))]) S.1 S.2.1 dX5_manyBlocks_3 rfl hl (by decide) rfl (fun ls hl => ?_)
  have lp4 : ∀ (n4 : Nat) (i : Nat) (k : Nat) (ls : Array Slot), 16 - i < n4 → i ≤ 16 → k = fb_sm (sp_bl K) (8 * i) → k ≤ 8 * i → lv_has ls 4 [(0, .ref (ad 1000020)), (1, .int (nI (k))), (2, .int (nI (i)))] → W p l e (mi_rm 2) s m ([.ref (ad 1000020)] : List Value).toArray below meth c s.heap [] 0 0 (MQ below (vp_Si (fun r => r = nI (sp_blocks K))) ([.ref (ad 1000020)] : List Value).toArray s 0 0 (fun _ => False)) (F0 m 4 ls []) := by
    intro n4
    induction n4 with
    | zero => intro i k ls hm hi hk9 hkb  hl; exact absurd hm (Nat.not_lt_zero _)
    | succ n4 ih4 =>
      intro i k ls hm hi hk9 hkb  hl
      refine lv_iload_n S.1 S.2.1 dX5_manyBlocks_4 rfl (lv_at hl 2 rfl) ?_
      refine lv_bipush (v := nI 16) S.1 S.2.1 dX5_manyBlocks_5 (by decide) ?_
      refine mi_icmp_ge (tgt := 47) S (by omega) (by omega) dX5_manyBlocks_7 (by decide) (fun c7_0 => ?_) (fun c7_0 => ?_)
      · refine lv_iload_n S.1 S.2.1 dX5_manyBlocks_47 rfl (lv_at hl 1 rfl) ?_
        exact mi_retR S hr hk dX5_manyBlocks_48 (by rw [hk9, show i = 16 by omega]; rfl)
      · refine lv_iconst (v := nI 0) S.1 S.2.1 dX5_manyBlocks_10 (by decide) ?_
        refine lv_istore_n (lv' := [(3, .int (nI (0))), (0, .ref (ad 1000020)), (1, .int (nI (k))), (2, .int (nI (i)))]) S.1 S.2.1 dX5_manyBlocks_11 rfl hl (by decide) rfl (fun ls hl => ?_)
        have lp12 : ∀ (n12 : Nat) (j : Nat) (t : Nat) (ls : Array Slot), 8 - j < n12 → j ≤ 8 → t = fb_sm (sp_bl K) (8 * i + j) → t ≤ 8 * i + j → lv_has ls 4 [(0, .ref (ad 1000020)), (1, .int (nI (t))), (2, .int (nI (i))), (3, .int (nI (j)))] → W p l e (mi_rm 2) s m ([.ref (ad 1000020)] : List Value).toArray below meth c s.heap [] 0 0 (MQ below (vp_Si (fun r => r = nI (sp_blocks K))) ([.ref (ad 1000020)] : List Value).toArray s 0 0 (fun _ => False)) (F0 m 12 ls []) := by
          intro n12
          induction n12 with
          | zero => intro j t ls hm hj hk8 htb  hl; exact absurd hm (Nat.not_lt_zero _)
          | succ n12 ih12 =>
            intro j t ls hm hj hk8 htb  hl
            refine lv_iload_n S.1 S.2.1 dX5_manyBlocks_12 rfl (lv_at hl 3 rfl) ?_
            refine lv_bipush (v := nI 8) S.1 S.2.1 dX5_manyBlocks_13 (by decide) ?_
            refine mi_icmp_ge (tgt := 41) S (by omega) (by omega) dX5_manyBlocks_15 (by decide) (fun c15_1 => ?_) (fun c15_1 => ?_)
            · refine lv_iinc (v := nI (i + 1)) (lv' := [(2, .int (nI (i + 1))), (0, .ref (ad 1000020)), (1, .int (nI (t))), (3, .int (nI (j)))]) S.1 S.2.1 dX5_manyBlocks_41 hl (k := 2) rfl (mi_inc _) (by decide) rfl (fun ls hl => ?_)
              refine lv_goto (tgt := 4) S.1 S.2.1 dX5_manyBlocks_44 (by decide) ?_
              exact ih4 (i + 1) t _ (by omega) (by omega) (by rw [hk8, show 8 * (i + 1) = 8 * i + j by omega]) (by omega)  (lv_sub hl [1, 2, 0] rfl)
            · refine lv_iload_n S.1 S.2.1 dX5_manyBlocks_18 rfl (lv_at hl 1 rfl) ?_
              refine lv_aload_n S.1 S.2.1 dX5_manyBlocks_19 rfl (lv_at hl 0 rfl) ?_
              refine lv_iload_n S.1 S.2.1 dX5_manyBlocks_20 rfl (lv_at hl 2 rfl) ?_
              refine lv_iload_n S.1 S.2.1 dX5_manyBlocks_21 rfl (lv_at hl 3 rfl) ?_
              refine mi_cR (mi_runV (P := mo_W D A ad cf0 f g) (As := [.int (nI (i)), .int (nI (j))]) (rest := [.int (nI (t))]) S E hS hM (ad 1000020) (c_mkindNow l D A hw hf2 (by omega) (by omega) (hK i j (by omega) (by omega))) (hM.recv E) mw_763 mw_760 mw_762 mw_19 mw_43 ⟨by decide, by decide, by decide +kernel⟩ ⟨rfl, rfl, Nat.le_of_ble_eq_true rfl, Nat.le_of_ble_eq_true rfl⟩ (n := 2) rfl hl.1 rfl (Nat.le_of_ble_eq_true rfl) dX5_manyBlocks_22 ⟨Nat.le_of_ble_eq_true rfl, Nat.le_of_ble_eq_true rfl⟩) (fun r9 e9 => ?_)
              subst e9
              have hb1 := hKb (8 * i + j) (by omega)
              refine mi_if_le (tgt := 32) S (by omega) dX5_manyBlocks_25 (by decide) (fun c25_2 => ?_) (fun c25_2 => ?_)
              · refine lv_iconst (v := nI 0) S.1 S.2.1 dX5_manyBlocks_32 (by decide) ?_
                refine mi_iadd S dX5_manyBlocks_33 ?_
                refine lv_istore_n (lv' := [(1, .int (nI (t + 0))), (0, .ref (ad 1000020)), (2, .int (nI (i))), (3, .int (nI (j)))]) S.1 S.2.1 dX5_manyBlocks_34 rfl hl (by decide) rfl (fun ls hl => ?_)
                refine lv_iinc (v := nI (j + 1)) (lv' := [(3, .int (nI (j + 1))), (1, .int (nI (t + 0))), (0, .ref (ad 1000020)), (2, .int (nI (i)))]) S.1 S.2.1 dX5_manyBlocks_35 hl (k := 3) rfl (mi_inc _) (by decide) rfl (fun ls hl => ?_)
                refine lv_goto (tgt := 12) S.1 S.2.1 dX5_manyBlocks_38 (by decide) ?_
                exact ih12 (j + 1) (t + 0) _ (by omega) (by omega) (by rw [show 8 * i + (j + 1) = (8 * i + j) + 1 by omega, fb_sm_succ]; first | (rw [sp_bl_0 (by omega)]; omega) | (rw [sp_bl_1 (by omega)]; omega)) (by omega)  (lv_sub hl [2, 1, 3, 0] rfl)
              · refine lv_iconst (v := nI 1) S.1 S.2.1 dX5_manyBlocks_28 (by decide) ?_
                refine lv_goto (tgt := 33) S.1 S.2.1 dX5_manyBlocks_29 (by decide) ?_
                refine mi_iadd S dX5_manyBlocks_33 ?_
                refine lv_istore_n (lv' := [(1, .int (nI (t + 1))), (0, .ref (ad 1000020)), (2, .int (nI (i))), (3, .int (nI (j)))]) S.1 S.2.1 dX5_manyBlocks_34 rfl hl (by decide) rfl (fun ls hl => ?_)
                refine lv_iinc (v := nI (j + 1)) (lv' := [(3, .int (nI (j + 1))), (1, .int (nI (t + 1))), (0, .ref (ad 1000020)), (2, .int (nI (i)))]) S.1 S.2.1 dX5_manyBlocks_35 hl (k := 3) rfl (mi_inc _) (by decide) rfl (fun ls hl => ?_)
                refine lv_goto (tgt := 12) S.1 S.2.1 dX5_manyBlocks_38 (by decide) ?_
                exact ih12 (j + 1) (t + 1) _ (by omega) (by omega) (by rw [show 8 * i + (j + 1) = (8 * i + j) + 1 by omega, fb_sm_succ]; first | (rw [sp_bl_0 (by omega)]; omega) | (rw [sp_bl_1 (by omega)]; omega)) (by omega)  (lv_sub hl [2, 1, 3, 0] rfl)
        exact lp12 _ 0 k _ (Nat.lt_succ_self _) (by omega) (by rw [hk9]; rfl) (by omega)  (lv_sub hl [1, 2, 3, 0] rfl)
  exact lp4 _ 0 0 _ (Nat.lt_succ_self _) (by omega) (by rfl) (by omega)  (lv_sub hl [2, 1, 0] rfl)
set_option maxHeartbeats 4000000 in
set_option maxRecDepth 100000 in
theorem c_far (l : Launch) (D : va_G) (A : Nat → Prop) (P : Heap → Prop) {a b : Nat} (ha : a < 2 ^ 30) (hb : b < 2 ^ 30) : mi_Rd l yX5_far (Cond.code yX5_far cX5_far 2 (some Jvm.ClassFile.FieldType.int)) (mi_rm 0) D A (P) [.int (nI (a)), .int (nI (b))] (fun r => r = nI (if a < b then b - a else a - b)) := by
  refine mi_start (cc := cX5_far) (nL := 2) (ret := (some Jvm.ClassFile.FieldType.int)) rfl (by decide) (Nat.le_of_ble_eq_true rfl) ?_
  intro p e s m below meth c ls S E hM hS hr hk hn hl
  have S : CallFix p m c cX5_far 2 s _ ((Cond.code yX5_far cX5_far 2 (some Jvm.ClassFile.FieldType.int)) :: mi_G) RX5 := S
  have hl : lv_has ls 2 [(0, .int (nI (a))), (1, .int (nI (b)))] := hl
  refine lv_iload_n S.1 S.2.1 dX5_far_0 rfl (lv_at hl 0 rfl) ?_
  refine lv_iload_n S.1 S.2.1 dX5_far_1 rfl (lv_at hl 1 rfl) ?_
  refine mi_icmp_le (tgt := 11) S (by omega) (by omega) dX5_far_2 (by decide) (fun c2_0 => ?_) (fun c2_0 => ?_)
  · refine lv_iload_n S.1 S.2.1 dX5_far_11 rfl (lv_at hl 1 rfl) ?_
    refine lv_iload_n S.1 S.2.1 dX5_far_12 rfl (lv_at hl 0 rfl) ?_
    refine mi_isub S (by omega) dX5_far_13 ?_
    exact mi_retR S hr hk dX5_far_14 (by congr 1; split <;> omega)
  · refine lv_iload_n S.1 S.2.1 dX5_far_5 rfl (lv_at hl 0 rfl) ?_
    refine lv_iload_n S.1 S.2.1 dX5_far_6 rfl (lv_at hl 1 rfl) ?_
    refine mi_isub S (by omega) dX5_far_7 ?_
    refine lv_goto (tgt := 14) S.1 S.2.1 dX5_far_8 (by decide) ?_
    exact mi_retR S hr hk dX5_far_14 (by congr 1; split <;> omega)
