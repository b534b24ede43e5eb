/-! the class State and the host's two checks: readers -/
set_option maxHeartbeats 4000000 in
set_option maxRecDepth 100000 in
theorem c_X4_isColumn_in (l : Launch) (D : va_G) (A : Nat → Prop) (P : Heap → Prop) {a : Nat} (ha : a < 16) : mi_Rd l yX4_isColumn (Cond.code yX4_isColumn cX4_isColumn 1 (some Jvm.ClassFile.FieldType.boolean)) (mi_rm 0) D A (P) [.int (nI (a))] (fun r => r = nI 1) := by
  refine mi_start (cc := cX4_isColumn) (nL := 1) (ret := (some Jvm.ClassFile.FieldType.boolean)) rfl (by decide) (Nat.le_of_ble_eq_true rfl) ?_
  intro p e s m below meth c ls S E hW hS hr hk hn hl
  have S : CallFix p m c cX4_isColumn 1 s _ ((Cond.code yX4_isColumn cX4_isColumn 1 (some Jvm.ClassFile.FieldType.boolean)) :: mi_G) RX4 := S
  have hl : lv_has ls 1 [(0, .int (nI (a)))] := hl
  refine lv_iload_n S.1 S.2.1 dX4_isColumn_0 rfl (lv_at hl 0 rfl) ?_
  refine mi_if_lt (tgt := 14) S (by omega) dX4_isColumn_1 (by decide) ?_
  refine lv_iload_n S.1 S.2.1 dX4_isColumn_4 rfl (lv_at hl 0 rfl) ?_
  refine lv_bipush (v := nI 16) S.1 S.2.1 dX4_isColumn_5 (by decide) ?_
  refine mi_icmp_ge (tgt := 14) S (by omega) (by omega) dX4_isColumn_7 (by decide) (fun c7_1 => by exfalso; omega) (fun c7_1 => ?_)
  refine lv_iconst (v := nI 1) S.1 S.2.1 dX4_isColumn_10 (by decide) ?_
  refine lv_goto (tgt := 15) S.1 S.2.1 dX4_isColumn_11 (by decide) ?_
  exact mi_retZ S hr hk dX4_isColumn_15 rfl (rfl)
set_option maxHeartbeats 4000000 in
set_option maxRecDepth 100000 in
theorem c_X4_isColumn_no (l : Launch) (D : va_G) (A : Nat → Prop) (P : Heap → Prop) {x : Int32} (hx : ¬ (0 ≤ x.toInt ∧ x.toInt < 16)) : mi_Rd l yX4_isColumn (Cond.code yX4_isColumn cX4_isColumn 1 (some Jvm.ClassFile.FieldType.boolean)) (mi_rm 0) D A (P) [.int (x)] (fun r => r = nI 0) := by
  refine mi_start (cc := cX4_isColumn) (nL := 1) (ret := (some Jvm.ClassFile.FieldType.boolean)) rfl (by decide) (Nat.le_of_ble_eq_true rfl) ?_
  intro p e s m below meth c ls S E hW hS hr hk hn hl
  have S : CallFix p m c cX4_isColumn 1 s _ ((Cond.code yX4_isColumn cX4_isColumn 1 (some Jvm.ClassFile.FieldType.boolean)) :: mi_G) RX4 := S
  have hl : lv_has ls 1 [(0, .int (x))] := hl
  refine lv_iload_n S.1 S.2.1 dX4_isColumn_0 rfl (lv_at hl 0 rfl) ?_
  refine mi_xif_lt (tgt := 14) S (rfl : (x).toInt = _) dX4_isColumn_1 (by decide) (fun c1_0 => ?_) (fun c1_0 => ?_)
  · refine lv_iconst (v := nI 0) S.1 S.2.1 dX4_isColumn_14 (by decide) ?_
    exact mi_retZ S hr hk dX4_isColumn_15 rfl (rfl)
  · refine lv_iload_n S.1 S.2.1 dX4_isColumn_4 rfl (lv_at hl 0 rfl) ?_
    refine lv_bipush (v := nI 16) S.1 S.2.1 dX4_isColumn_5 (by decide) ?_
    refine mi_xcmp_ge (tgt := 14) S (rfl : (x).toInt = _) (nI_toInt (n := 16) (by omega)) dX4_isColumn_7 (by decide) (fun c7_1 => ?_) (fun c7_1 => by exfalso; omega)
    refine lv_iconst (v := nI 0) S.1 S.2.1 dX4_isColumn_14 (by decide) ?_
    exact mi_retZ S hr hk dX4_isColumn_15 rfl (rfl)
set_option maxHeartbeats 4000000 in
set_option maxRecDepth 100000 in
theorem c_X4_isLevel_in (l : Launch) (D : va_G) (A : Nat → Prop) (P : Heap → Prop) {a : Nat} (ha : a < 8) : mi_Rd l yX4_isLevel (Cond.code yX4_isLevel cX4_isLevel 1 (some Jvm.ClassFile.FieldType.boolean)) (mi_rm 0) D A (P) [.int (nI (a))] (fun r => r = nI 1) := by
  refine mi_start (cc := cX4_isLevel) (nL := 1) (ret := (some Jvm.ClassFile.FieldType.boolean)) rfl (by decide) (Nat.le_of_ble_eq_true rfl) ?_
  intro p e s m below meth c ls S E hW hS hr hk hn hl
  have S : CallFix p m c cX4_isLevel 1 s _ ((Cond.code yX4_isLevel cX4_isLevel 1 (some Jvm.ClassFile.FieldType.boolean)) :: mi_G) RX4 := S
  have hl : lv_has ls 1 [(0, .int (nI (a)))] := hl
  refine lv_iload_n S.1 S.2.1 dX4_isLevel_0 rfl (lv_at hl 0 rfl) ?_
  refine mi_if_lt (tgt := 14) S (by omega) dX4_isLevel_1 (by decide) ?_
  refine lv_iload_n S.1 S.2.1 dX4_isLevel_4 rfl (lv_at hl 0 rfl) ?_
  refine lv_bipush (v := nI 8) S.1 S.2.1 dX4_isLevel_5 (by decide) ?_
  refine mi_icmp_ge (tgt := 14) S (by omega) (by omega) dX4_isLevel_7 (by decide) (fun c7_1 => by exfalso; omega) (fun c7_1 => ?_)
  refine lv_iconst (v := nI 1) S.1 S.2.1 dX4_isLevel_10 (by decide) ?_
  refine lv_goto (tgt := 15) S.1 S.2.1 dX4_isLevel_11 (by decide) ?_
  exact mi_retZ S hr hk dX4_isLevel_15 rfl (rfl)
set_option maxHeartbeats 4000000 in
set_option maxRecDepth 100000 in
theorem c_X4_isLevel_no (l : Launch) (D : va_G) (A : Nat → Prop) (P : Heap → Prop) {x : Int32} (hx : ¬ (0 ≤ x.toInt ∧ x.toInt < 8)) : mi_Rd l yX4_isLevel (Cond.code yX4_isLevel cX4_isLevel 1 (some Jvm.ClassFile.FieldType.boolean)) (mi_rm 0) D A (P) [.int (x)] (fun r => r = nI 0) := by
  refine mi_start (cc := cX4_isLevel) (nL := 1) (ret := (some Jvm.ClassFile.FieldType.boolean)) rfl (by decide) (Nat.le_of_ble_eq_true rfl) ?_
  intro p e s m below meth c ls S E hW hS hr hk hn hl
  have S : CallFix p m c cX4_isLevel 1 s _ ((Cond.code yX4_isLevel cX4_isLevel 1 (some Jvm.ClassFile.FieldType.boolean)) :: mi_G) RX4 := S
  have hl : lv_has ls 1 [(0, .int (x))] := hl
  refine lv_iload_n S.1 S.2.1 dX4_isLevel_0 rfl (lv_at hl 0 rfl) ?_
  refine mi_xif_lt (tgt := 14) S (rfl : (x).toInt = _) dX4_isLevel_1 (by decide) (fun c1_0 => ?_) (fun c1_0 => ?_)
  · refine lv_iconst (v := nI 0) S.1 S.2.1 dX4_isLevel_14 (by decide) ?_
    exact mi_retZ S hr hk dX4_isLevel_15 rfl (rfl)
  · refine lv_iload_n S.1 S.2.1 dX4_isLevel_4 rfl (lv_at hl 0 rfl) ?_
    refine lv_bipush (v := nI 8) S.1 S.2.1 dX4_isLevel_5 (by decide) ?_
    refine mi_xcmp_ge (tgt := 14) S (rfl : (x).toInt = _) (nI_toInt (n := 8) (by omega)) dX4_isLevel_7 (by decide) (fun c7_1 => ?_) (fun c7_1 => by exfalso; omega)
    refine lv_iconst (v := nI 0) S.1 S.2.1 dX4_isLevel_14 (by decide) ?_
    exact mi_retZ S hr hk dX4_isLevel_15 rfl (rfl)
set_option maxHeartbeats 4000000 in
set_option maxRecDepth 100000 in
theorem c_X3_kindAt (l : Launch) (D : va_G) (A : Nat → Prop) {ad : Nat → Nat} {cf : Nat → Option va_E} {rS rK : Nat} {num : Int32} {par : Value} {K : Nat → Nat} (hS0 : cf rS = some (.inr (4, [.int num, par, .ref (ad rK)]))) (hK0 : cf rK = some (mi_ai D 128 (fun j => nI (K j)))) {a b : Nat} (ha : a < 16) (hb : b < 8) : mi_Rd l yX3_kindAt (Cond.code yX3_kindAt cX3_kindAt 3 (some Jvm.ClassFile.FieldType.int)) (mi_rm 1) D A (mi_W D A ad cf) [.ref (ad rS), .int (nI (a)), .int (nI (b))] (fun r => r = nI (K (8 * a + b))) := by
  refine mi_start (cc := cX3_kindAt) (nL := 3) (ret := (some Jvm.ClassFile.FieldType.int)) rfl (by decide) (Nat.le_of_ble_eq_true rfl) ?_
  intro p e s m below meth c ls S E hW hS hr hk hn hl
  have S : CallFix p m c cX3_kindAt 3 s _ ((Cond.code yX3_kindAt cX3_kindAt 3 (some Jvm.ClassFile.FieldType.int)) :: mi_G) RX3 := S
  have hl : lv_has ls 3 [(0, .ref (ad rS)), (1, .int (nI (a))), (2, .int (nI (b)))] := hl
  refine lv_iload_n S.1 S.2.1 dX3_kindAt_0 rfl (lv_at hl 1 rfl) ?_
  refine mi_cR (mi_runN (P := mi_W D A ad cf) (As := [.int (nI (a))]) (rest := []) S E hS hW (c_X4_isColumn_in l D A (mi_W D A ad cf) (by omega)) (by decide) mw_205 mw_204 mw_18 ⟨by decide, by decide, by decide +kernel⟩ ⟨rfl, rfl, Nat.le_of_ble_eq_true rfl, Nat.le_of_ble_eq_true rfl⟩ (n := 1) rfl hl.1 rfl (Nat.le_of_ble_eq_true rfl) dX3_kindAt_1 ⟨Nat.le_of_ble_eq_true rfl, Nat.le_of_ble_eq_true rfl⟩) (fun r9 e9 => ?_)
  subst e9
  refine mi_if_eq (tgt := 14) S (by omega) dX3_kindAt_4 (by decide) (fun c4_0 => by exfalso; omega) (fun c4_0 => ?_)
  refine lv_iload_n S.1 S.2.1 dX3_kindAt_7 rfl (lv_at hl 2 rfl) ?_
  refine mi_cR (mi_runN (P := mi_W D A ad cf) (As := [.int (nI (b))]) (rest := []) S E hS hW (c_X4_isLevel_in l D A (mi_W D A ad cf) (by omega)) (by decide) mw_279 mw_278 mw_18 ⟨by decide, by decide, by decide +kernel⟩ ⟨rfl, rfl, Nat.le_of_ble_eq_true rfl, Nat.le_of_ble_eq_true rfl⟩ (n := 1) rfl hl.1 rfl (Nat.le_of_ble_eq_true rfl) dX3_kindAt_8 ⟨Nat.le_of_ble_eq_true rfl, Nat.le_of_ble_eq_true rfl⟩) (fun r9 e9 => ?_)
  subst e9
  refine mi_if_ne (tgt := 16) S (by omega) dX3_kindAt_11 (by decide) (fun c11_1 => ?_) (fun c11_1 => by exfalso; omega)
  refine lv_aload_n S.1 S.2.1 dX3_kindAt_16 rfl (lv_at hl 0 rfl) ?_
  refine fg_X3_19 S E hW rS rfl hS0 rfl dX3_kindAt_17 ?_
  refine lv_iload_n S.1 S.2.1 dX3_kindAt_20 rfl (lv_at hl 1 rfl) ?_
  refine lv_bipush (v := nI 8) S.1 S.2.1 dX3_kindAt_21 (by decide) ?_
  refine mi_imul S dX3_kindAt_23 ?_
  refine lv_iload_n S.1 S.2.1 dX3_kindAt_24 rfl (lv_at hl 2 rfl) ?_
  refine mi_iadd S dX3_kindAt_25 ?_
  refine mi_top (v' := .int (nI (8 * a + b))) (by rw [Nat.mul_comm _ 8]) ?_
  refine mi_iald S E hW rK rfl hK0 (by omega) (by omega) dX3_kindAt_26 ?_
  exact mi_retR S hr hk dX3_kindAt_27 (rfl)
set_option maxHeartbeats 4000000 in
set_option maxRecDepth 100000 in
theorem c_X3_endsRun (l : Launch) (D : va_G) (A : Nat → Prop) {ad : Nat → Nat} {cf : Nat → Option va_E} {rS rK : Nat} {num : Int32} {par : Value} {K : Nat → Nat} (hS0 : cf rS = some (.inr (4, [.int num, par, .ref (ad rK)]))) (hK0 : cf rK = some (mi_ai D 128 (fun j => nI (K j)))) (hKb : ∀ j, j < 128 → K j < 4) {a b : Nat} (ha : a < 16) (hb : b < 8) : mi_Rd l yX3_endsRun (Cond.code yX3_endsRun cX3_endsRun 3 (some Jvm.ClassFile.FieldType.boolean)) (mi_rm 2) D A (mi_W D A ad cf) [.ref (ad rS), .int (nI (a)), .int (nI (b))] (fun r => r = nI (sp_er K a b)) := by
  refine mi_start (cc := cX3_endsRun) (nL := 3) (ret := (some Jvm.ClassFile.FieldType.boolean)) rfl (by decide) (Nat.le_of_ble_eq_true rfl) ?_
  intro p e s m below meth c ls S E hW hS hr hk hn hl
  have S : CallFix p m c cX3_endsRun 3 s _ ((Cond.code yX3_endsRun cX3_endsRun 3 (some Jvm.ClassFile.FieldType.boolean)) :: mi_G) RX3 := S
  have hl : lv_has ls 3 [(0, .ref (ad rS)), (1, .int (nI (a))), (2, .int (nI (b)))] := hl
  refine lv_iload_n S.1 S.2.1 dX3_endsRun_0 rfl (lv_at hl 2 rfl) ?_
  refine lv_bipush (v := nI 7) S.1 S.2.1 dX3_endsRun_1 (by decide) ?_
  refine mi_icmp_eq (tgt := 23) S (by omega) (by omega) dX3_endsRun_3 (by decide) (fun c3_0 => ?_) (fun c3_0 => ?_)
  · refine lv_iconst (v := nI 1) S.1 S.2.1 dX3_endsRun_23 (by decide) ?_
    refine lv_goto (tgt := 28) S.1 S.2.1 dX3_endsRun_24 (by decide) ?_
    exact mi_retZ S hr hk dX3_endsRun_28 rfl (by unfold sp_er; first | rw [if_pos (by omega)] | (rw [if_neg (by omega)]; unfold sp_ne; first | rw [if_pos (by assumption)] | rw [if_neg (by assumption)]))
  · refine lv_aload_n S.1 S.2.1 dX3_endsRun_6 rfl (lv_at hl 0 rfl) ?_
    refine lv_iload_n S.1 S.2.1 dX3_endsRun_7 rfl (lv_at hl 1 rfl) ?_
    refine lv_iload_n S.1 S.2.1 dX3_endsRun_8 rfl (lv_at hl 2 rfl) ?_
    refine mi_cR (mi_runV (P := mi_W D A ad cf) (As := [.int (nI (a)), .int (nI (b))]) (rest := []) S E hS hW (ad rS) (c_X3_kindAt l D A hS0 hK0 (by omega) (by omega)) (hW.recv E hS0 rfl) mw_460 mw_480 mw_458 mw_459 mw_23 ⟨by decide, by decide, by decide +kernel⟩ ⟨rfl, rfl, Nat.le_of_ble_eq_true rfl, Nat.le_of_ble_eq_true rfl⟩ (n := 2) rfl hl.1 rfl (Nat.le_of_ble_eq_true rfl) dX3_endsRun_9 ⟨Nat.le_of_ble_eq_true rfl, Nat.le_of_ble_eq_true rfl⟩) (fun r9 e9 => ?_)
    subst e9
    refine lv_aload_n S.1 S.2.1 dX3_endsRun_12 rfl (lv_at hl 0 rfl) ?_
    refine lv_iload_n S.1 S.2.1 dX3_endsRun_13 rfl (lv_at hl 1 rfl) ?_
    refine lv_iload_n S.1 S.2.1 dX3_endsRun_14 rfl (lv_at hl 2 rfl) ?_
    refine lv_iconst (v := nI 1) S.1 S.2.1 dX3_endsRun_15 (by decide) ?_
    refine mi_iadd S dX3_endsRun_16 ?_
    refine mi_cR (mi_runV (P := mi_W D A ad cf) (As := [.int (nI (a)), .int (nI (b + 1))]) (rest := [.int (nI (K (8 * a + b)))]) S E hS hW (ad rS) (c_X3_kindAt l D A hS0 hK0 (by omega) (by omega)) (hW.recv E hS0 rfl) mw_460 mw_480 mw_458 mw_459 mw_23 ⟨by decide, by decide, by decide +kernel⟩ ⟨rfl, rfl, Nat.le_of_ble_eq_true rfl, Nat.le_of_ble_eq_true rfl⟩ (n := 2) rfl hl.1 rfl (Nat.le_of_ble_eq_true rfl) dX3_endsRun_17 ⟨Nat.le_of_ble_eq_true rfl, Nat.le_of_ble_eq_true rfl⟩) (fun r9 e9 => ?_)
    subst e9
    have hk1 := hKb (8 * a + b) (by omega)
    have hk2 := hKb (8 * a + (b + 1)) (by omega)
    refine mi_icmp_eq (tgt := 27) S (by omega) (by omega) dX3_endsRun_20 (by decide) (fun c20_1 => ?_) (fun c20_1 => ?_)
    · refine lv_iconst (v := nI 0) S.1 S.2.1 dX3_endsRun_27 (by decide) ?_
      exact mi_retZ S hr hk dX3_endsRun_28 rfl (by unfold sp_er; first | rw [if_pos (by omega)] | (rw [if_neg (by omega)]; unfold sp_ne; first | rw [if_pos (by assumption)] | rw [if_neg (by assumption)]))
    · refine lv_iconst (v := nI 1) S.1 S.2.1 dX3_endsRun_23 (by decide) ?_
      refine lv_goto (tgt := 28) S.1 S.2.1 dX3_endsRun_24 (by decide) ?_
      exact mi_retZ S hr hk dX3_endsRun_28 rfl (by unfold sp_er; first | rw [if_pos (by omega)] | (rw [if_neg (by omega)]; unfold sp_ne; first | rw [if_pos (by assumption)] | rw [if_neg (by assumption)]))
set_option maxHeartbeats 4000000 in
set_option maxRecDepth 100000 in
theorem c_X3_countRuns (l : Launch) (D : va_G) (A : Nat → Prop) {ad : Nat → Nat} {cf : Nat → Option va_E} {rS rK : Nat} {num : Int32} {par : Value} {K : Nat → Nat} (hS0 : cf rS = some (.inr (4, [.int num, par, .ref (ad rK)]))) (hK0 : cf rK = some (mi_ai D 128 (fun j => nI (K j)))) (hKb : ∀ j, j < 128 → K j < 4) {a : Nat} (ha : a < 16) : mi_Rd l yX3_countRuns (Cond.code yX3_countRuns cX3_countRuns 4 (some Jvm.ClassFile.FieldType.int)) (mi_rm 3) D A (mi_W D A ad cf) [.ref (ad rS), .int (nI (a))] (fun r => r = nI (sp_runs K a)) := by
  refine mi_start (cc := cX3_countRuns) (nL := 4) (ret := (some Jvm.ClassFile.FieldType.int)) rfl (by decide) (Nat.le_of_ble_eq_true rfl) ?_
  intro p e s m below meth c ls S E hW hS hr hk hn hl
  have S : CallFix p m c cX3_countRuns 4 s _ ((Cond.code yX3_countRuns cX3_countRuns 4 (some Jvm.ClassFile.FieldType.int)) :: mi_G) RX3 := S
  have hl : lv_has ls 4 [(0, .ref (ad rS)), (1, .int (nI (a)))] := hl
  refine lv_iconst (v := nI 0) S.1 S.2.1 dX3_countRuns_0 (by decide) ?_
  refine lv_istore_n (lv' := [(2, .int (nI (0))), (0, .ref (ad rS)), (1, .int (nI (a)))]) S.1 S.2.1 dX3_countRuns_1 rfl hl (by decide) rfl (fun ls hl => ?_)
  refine lv_iconst (v := nI 0) S.1 S.2.1 dX3_countRuns_2 (by decide) ?_
  refine lv_istore_n (lv' := [(3, .int (nI (0))), (2, .int (nI (0))), (0, .ref (ad rS)), (1, .int (nI (a)))]) S.1 S.2.1 dX3_countRuns_3 rfl hl (by decide) rfl (fun ls hl => ?_)
  have lp4 : ∀ (n4 : Nat) (i : Nat) (k : Nat) (ls : Array Slot), 8 - i < n4 → i ≤ 8 → k = fb_sm (sp_er K a) i → lv_has ls 4 [(0, .ref (ad rS)), (1, .int (nI (a))), (2, .int (nI (k))), (3, .int (nI (i)))] → W p l e (mi_rm 3) s m ([.ref (ad rS), .int (nI (a))] : List Value).toArray below meth c s.heap [] 0 0 (MQ below (vp_Si (fun r => r = nI (sp_runs K a))) ([.ref (ad rS), .int (nI (a))] : List Value).toArray s 0 0 (fun _ => False)) (F0 m 4 ls []) := by
    intro n4
    induction n4 with
    | zero => intro i k ls hm hi hk9  hl; exact absurd hm (Nat.not_lt_zero _)
    | succ n4 ih4 =>
      intro i k ls hm hi hk9  hl
      refine lv_iload_n S.1 S.2.1 dX3_countRuns_4 rfl (lv_at hl 3 rfl) ?_
      refine lv_bipush (v := nI 8) S.1 S.2.1 dX3_countRuns_5 (by decide) ?_
      refine mi_icmp_ge (tgt := 28) S (by omega) (by omega) dX3_countRuns_7 (by decide) (fun c7_0 => ?_) (fun c7_0 => ?_)
      · refine lv_iload_n S.1 S.2.1 dX3_countRuns_28 rfl (lv_at hl 2 rfl) ?_
        exact mi_retR S hr hk dX3_countRuns_29 (by rw [hk9, show i = 8 by omega, sp_er_all])
      · refine lv_aload_n S.1 S.2.1 dX3_countRuns_10 rfl (lv_at hl 0 rfl) ?_
        refine lv_iload_n S.1 S.2.1 dX3_countRuns_11 rfl (lv_at hl 1 rfl) ?_
        refine lv_iload_n S.1 S.2.1 dX3_countRuns_12 rfl (lv_at hl 3 rfl) ?_
        refine mi_cR (mi_runV (P := mi_W D A ad cf) (As := [.int (nI (a)), .int (nI (i))]) (rest := []) S E hS hW (ad rS) (c_X3_endsRun l D A hS0 hK0 hKb (by omega) (by omega)) (hW.recv E hS0 rfl) mw_603 mw_600 mw_602 mw_16 mw_23 ⟨by decide, by decide, by decide +kernel⟩ ⟨rfl, rfl, Nat.le_of_ble_eq_true rfl, Nat.le_of_ble_eq_true rfl⟩ (n := 2) rfl hl.1 rfl (Nat.le_of_ble_eq_true rfl) dX3_countRuns_13 ⟨Nat.le_of_ble_eq_true rfl, Nat.le_of_ble_eq_true rfl⟩) (fun r9 e9 => ?_)
        subst e9
        have he1 := sp_er_le K a i
        refine mi_if_eq (tgt := 22) S (by omega) dX3_countRuns_16 (by decide) (fun c16_1 => ?_) (fun c16_1 => ?_)
        · refine lv_iinc (v := nI (i + 1)) (lv' := [(3, .int (nI (i + 1))), (0, .ref (ad rS)), (1, .int (nI (a))), (2, .int (nI (k)))]) S.1 S.2.1 dX3_countRuns_22 hl (k := 3) rfl (mi_inc _) (by decide) rfl (fun ls hl => ?_)
          refine lv_goto (tgt := 4) S.1 S.2.1 dX3_countRuns_25 (by decide) ?_
          exact ih4 (i + 1) k _ (by omega) (by omega) (by rw [fb_sm_succ]; omega)  (lv_sub hl [1, 2, 3, 0] rfl)
        · refine lv_iinc (v := nI (k + 1)) (lv' := [(2, .int (nI (k + 1))), (0, .ref (ad rS)), (1, .int (nI (a))), (3, .int (nI (i)))]) S.1 S.2.1 dX3_countRuns_19 hl (k := 2) rfl (mi_inc _) (by decide) rfl (fun ls hl => ?_)
          refine lv_iinc (v := nI (i + 1)) (lv' := [(3, .int (nI (i + 1))), (2, .int (nI (k + 1))), (0, .ref (ad rS)), (1, .int (nI (a)))]) S.1 S.2.1 dX3_countRuns_22 hl (k := 3) rfl (mi_inc _) (by decide) rfl (fun ls hl => ?_)
          refine lv_goto (tgt := 4) S.1 S.2.1 dX3_countRuns_25 (by decide) ?_
          exact ih4 (i + 1) (k + 1) _ (by omega) (by omega) (by rw [fb_sm_succ]; omega)  (lv_sub hl [2, 3, 1, 0] rfl)
  exact lp4 _ 0 0 _ (Nat.lt_succ_self _) (by omega) (rfl)  (lv_sub hl [2, 3, 1, 0] rfl)
set_option maxHeartbeats 4000000 in
set_option maxRecDepth 100000 in
theorem c_X3_lengthOfRun (l : Launch) (D : va_G) (A : Nat → Prop) {ad : Nat → Nat} {cf : Nat → Option va_E} {rS rK : Nat} {num : Int32} {par : Value} {K : Nat → Nat} (hS0 : cf rS = some (.inr (4, [.int num, par, .ref (ad rK)]))) (hK0 : cf rK = some (mi_ai D 128 (fun j => nI (K j)))) (hKb : ∀ j, j < 128 → K j < 4) {a q : Nat} (ha : a < 16) (hq : q < 8) : mi_Rd l yX3_lengthOfRun (Cond.code yX3_lengthOfRun cX3_lengthOfRun 6 (some Jvm.ClassFile.FieldType.int)) (mi_rm 3) D A (mi_W D A ad cf) [.ref (ad rS), .int (nI (a)), .int (nI (q))] (fun r => r = nI (sp_rl K a q)) := by
  refine mi_start (cc := cX3_lengthOfRun) (nL := 6) (ret := (some Jvm.ClassFile.FieldType.int)) rfl (by decide) (Nat.le_of_ble_eq_true rfl) ?_
  intro p e s m below meth c ls S E hW hS hr hk hn hl
  have S : CallFix p m c cX3_lengthOfRun 6 s _ ((Cond.code yX3_lengthOfRun cX3_lengthOfRun 6 (some Jvm.ClassFile.FieldType.int)) :: mi_G) RX3 := S
  have hl : lv_has ls 6 [(0, .ref (ad rS)), (1, .int (nI (a))), (2, .int (nI (q)))] := hl
  refine lv_iconst (v := nI 0) S.1 S.2.1 dX3_lengthOfRun_0 (by decide) ?_
  refine lv_istore_n (lv' := [(3, .int (nI (0))), (0, .ref (ad rS)), (1, .int (nI (a))), (2, .int (nI (q)))]) S.1 S.2.1 dX3_lengthOfRun_1 rfl hl (by decide) rfl (fun ls hl => ?_)
  refine lv_iconst (v := nI 0) S.1 S.2.1 dX3_lengthOfRun_2 (by decide) ?_
  refine lv_istore (lv' := [(4, .int (nI (0))), (3, .int (nI (0))), (0, .ref (ad rS)), (1, .int (nI (a))), (2, .int (nI (q)))]) S.1 S.2.1 dX3_lengthOfRun_3 hl (by decide) rfl (fun ls hl => ?_)
  refine lv_iconst (v := nI 0) S.1 S.2.1 dX3_lengthOfRun_5 (by decide) ?_
  refine lv_istore (lv' := [(5, .int (nI (0))), (4, .int (nI (0))), (3, .int (nI (0))), (0, .ref (ad rS)), (1, .int (nI (a))), (2, .int (nI (q)))]) S.1 S.2.1 dX3_lengthOfRun_6 hl (by decide) rfl (fun ls hl => ?_)
  have lp8 : ∀ (n8 : Nat) (i : Nat) (t : Nat) (k : Nat) (ls : Array Slot), 8 - i < n8 → i ≤ 8 → t = fb_sm (sp_er K a) i → k = fb_sm (fun j => if sp_ri K a j = q then 1 else 0) i → lv_has ls 6 [(0, .ref (ad rS)), (1, .int (nI (a))), (2, .int (nI (q))), (3, .int (nI (t))), (4, .int (nI (k))), (5, .int (nI (i)))] → W p l e (mi_rm 3) s m ([.ref (ad rS), .int (nI (a)), .int (nI (q))] : List Value).toArray below meth c s.heap [] 0 0 (MQ below (vp_Si (fun r => r = nI (sp_rl K a q))) ([.ref (ad rS), .int (nI (a)), .int (nI (q))] : List Value).toArray s 0 0 (fun _ => False)) (F0 m 8 ls []) := by
    intro n8
    induction n8 with
    | zero => intro i t k ls hm hi ht hk9  hl; exact absurd hm (Nat.not_lt_zero _)
    | succ n8 ih8 =>
      intro i t k ls hm hi ht hk9  hl
      refine lv_iload S.1 S.2.1 dX3_lengthOfRun_8 (lv_at hl 5 rfl) ?_
      refine lv_bipush (v := nI 8) S.1 S.2.1 dX3_lengthOfRun_10 (by decide) ?_
      refine mi_icmp_ge (tgt := 42) S (by omega) (by omega) dX3_lengthOfRun_12 (by decide) (fun c12_0 => ?_) (fun c12_0 => ?_)
      · refine lv_iload S.1 S.2.1 dX3_lengthOfRun_42 (lv_at hl 4 rfl) ?_
        exact mi_retR S hr hk dX3_lengthOfRun_44 (by rw [hk9, show i = 8 by omega]; rfl)
      · refine lv_iload_n S.1 S.2.1 dX3_lengthOfRun_15 rfl (lv_at hl 3 rfl) ?_
        refine lv_iload_n S.1 S.2.1 dX3_lengthOfRun_16 rfl (lv_at hl 2 rfl) ?_
        have hr1 := sp_ri_le K a i
        have hz1 := sp_er_sum K a (l := i) (by omega)
        refine mi_icmp_ne (tgt := 23) S (by omega) (by omega) dX3_lengthOfRun_17 (by decide) (fun c17_1 => ?_) (fun c17_1 => ?_)
        · refine lv_aload_n S.1 S.2.1 dX3_lengthOfRun_23 rfl (lv_at hl 0 rfl) ?_
          refine lv_iload_n S.1 S.2.1 dX3_lengthOfRun_24 rfl (lv_at hl 1 rfl) ?_
          refine lv_iload S.1 S.2.1 dX3_lengthOfRun_25 (lv_at hl 5 rfl) ?_
          refine mi_cR (mi_runV (P := mi_W D A ad cf) (As := [.int (nI (a)), .int (nI (i))]) (rest := []) S E hS hW (ad rS) (c_X3_endsRun l D A hS0 hK0 hKb (by omega) (by omega)) (hW.recv E hS0 rfl) mw_603 mw_600 mw_602 mw_16 mw_23 ⟨by decide, by decide, by decide +kernel⟩ ⟨rfl, rfl, Nat.le_of_ble_eq_true rfl, Nat.le_of_ble_eq_true rfl⟩ (n := 2) rfl hl.1 rfl (Nat.le_of_ble_eq_true rfl) dX3_lengthOfRun_27 ⟨Nat.le_of_ble_eq_true rfl, Nat.le_of_ble_eq_true rfl⟩) (fun r9 e9 => ?_)
          subst e9
          have he1 := sp_er_le K a i
          refine mi_if_eq (tgt := 36) S (by omega) dX3_lengthOfRun_30 (by decide) (fun c30_2 => ?_) (fun c30_2 => ?_)
          · refine lv_iinc (v := nI (i + 1)) (lv' := [(5, .int (nI (i + 1))), (0, .ref (ad rS)), (1, .int (nI (a))), (2, .int (nI (q))), (3, .int (nI (t))), (4, .int (nI (k)))]) S.1 S.2.1 dX3_lengthOfRun_36 hl (k := 5) rfl (mi_inc _) (by decide) rfl (fun ls hl => ?_)
            refine lv_goto (tgt := 8) S.1 S.2.1 dX3_lengthOfRun_39 (by decide) ?_
            exact ih8 (i + 1) t k _ (by omega) (by omega) (by rw [fb_sm_succ]; omega) (by have hz := sp_er_sum K a (l := i) (by omega); rw [fb_sm_succ, ← hz, ← ht]; first | rw [if_pos (by omega)]; omega | rw [if_neg (by omega)]; omega)  (lv_sub hl [1, 2, 3, 4, 5, 0] rfl)
          · refine lv_iinc (v := nI (t + 1)) (lv' := [(3, .int (nI (t + 1))), (0, .ref (ad rS)), (1, .int (nI (a))), (2, .int (nI (q))), (4, .int (nI (k))), (5, .int (nI (i)))]) S.1 S.2.1 dX3_lengthOfRun_33 hl (k := 3) rfl (mi_inc _) (by decide) rfl (fun ls hl => ?_)
            refine lv_iinc (v := nI (i + 1)) (lv' := [(5, .int (nI (i + 1))), (3, .int (nI (t + 1))), (0, .ref (ad rS)), (1, .int (nI (a))), (2, .int (nI (q))), (4, .int (nI (k)))]) S.1 S.2.1 dX3_lengthOfRun_36 hl (k := 5) rfl (mi_inc _) (by decide) rfl (fun ls hl => ?_)
            refine lv_goto (tgt := 8) S.1 S.2.1 dX3_lengthOfRun_39 (by decide) ?_
            exact ih8 (i + 1) (t + 1) k _ (by omega) (by omega) (by rw [fb_sm_succ]; omega) (by have hz := sp_er_sum K a (l := i) (by omega); rw [fb_sm_succ, ← hz, ← ht]; first | rw [if_pos (by omega)]; omega | rw [if_neg (by omega)]; omega)  (lv_sub hl [2, 3, 4, 1, 5, 0] rfl)
        · refine lv_iinc (v := nI (k + 1)) (lv' := [(4, .int (nI (k + 1))), (0, .ref (ad rS)), (1, .int (nI (a))), (2, .int (nI (q))), (3, .int (nI (t))), (5, .int (nI (i)))]) S.1 S.2.1 dX3_lengthOfRun_20 hl (k := 4) rfl (mi_inc _) (by decide) rfl (fun ls hl => ?_)
          refine lv_aload_n S.1 S.2.1 dX3_lengthOfRun_23 rfl (lv_at hl 1 rfl) ?_
          refine lv_iload_n S.1 S.2.1 dX3_lengthOfRun_24 rfl (lv_at hl 2 rfl) ?_
          refine lv_iload S.1 S.2.1 dX3_lengthOfRun_25 (lv_at hl 5 rfl) ?_
          refine mi_cR (mi_runV (P := mi_W D A ad cf) (As := [.int (nI (a)), .int (nI (i))]) (rest := []) S E hS hW (ad rS) (c_X3_endsRun l D A hS0 hK0 hKb (by omega) (by omega)) (hW.recv E hS0 rfl) mw_603 mw_600 mw_602 mw_16 mw_23 ⟨by decide, by decide, by decide +kernel⟩ ⟨rfl, rfl, Nat.le_of_ble_eq_true rfl, Nat.le_of_ble_eq_true rfl⟩ (n := 2) rfl hl.1 rfl (Nat.le_of_ble_eq_true rfl) dX3_lengthOfRun_27 ⟨Nat.le_of_ble_eq_true rfl, Nat.le_of_ble_eq_true rfl⟩) (fun r9 e9 => ?_)
          subst e9
          have he1 := sp_er_le K a i
          refine mi_if_eq (tgt := 36) S (by omega) dX3_lengthOfRun_30 (by decide) (fun c30_3 => ?_) (fun c30_3 => ?_)
          · refine lv_iinc (v := nI (i + 1)) (lv' := [(5, .int (nI (i + 1))), (4, .int (nI (k + 1))), (0, .ref (ad rS)), (1, .int (nI (a))), (2, .int (nI (q))), (3, .int (nI (t)))]) S.1 S.2.1 dX3_lengthOfRun_36 hl (k := 5) rfl (mi_inc _) (by decide) rfl (fun ls hl => ?_)
            refine lv_goto (tgt := 8) S.1 S.2.1 dX3_lengthOfRun_39 (by decide) ?_
            exact ih8 (i + 1) t (k + 1) _ (by omega) (by omega) (by rw [fb_sm_succ]; omega) (by have hz := sp_er_sum K a (l := i) (by omega); rw [fb_sm_succ, ← hz, ← ht]; first | rw [if_pos (by omega)]; omega | rw [if_neg (by omega)]; omega)  (lv_sub hl [2, 3, 4, 5, 1, 0] rfl)
          · refine lv_iinc (v := nI (t + 1)) (lv' := [(3, .int (nI (t + 1))), (4, .int (nI (k + 1))), (0, .ref (ad rS)), (1, .int (nI (a))), (2, .int (nI (q))), (5, .int (nI (i)))]) S.1 S.2.1 dX3_lengthOfRun_33 hl (k := 4) rfl (mi_inc _) (by decide) rfl (fun ls hl => ?_)
            refine lv_iinc (v := nI (i + 1)) (lv' := [(5, .int (nI (i + 1))), (3, .int (nI (t + 1))), (4, .int (nI (k + 1))), (0, .ref (ad rS)), (1, .int (nI (a))), (2, .int (nI (q)))]) S.1 S.2.1 dX3_lengthOfRun_36 hl (k := 5) rfl (mi_inc _) (by decide) rfl (fun ls hl => ?_)
            refine lv_goto (tgt := 8) S.1 S.2.1 dX3_lengthOfRun_39 (by decide) ?_
            exact ih8 (i + 1) (t + 1) (k + 1) _ (by omega) (by omega) (by rw [fb_sm_succ]; omega) (by have hz := sp_er_sum K a (l := i) (by omega); rw [fb_sm_succ, ← hz, ← ht]; first | rw [if_pos (by omega)]; omega | rw [if_neg (by omega)]; omega)  (lv_sub hl [3, 4, 5, 1, 2, 0] rfl)
  exact lp8 _ 0 0 0 _ (Nat.lt_succ_self _) (by omega) (rfl) (rfl)  (lv_sub hl [3, 4, 5, 2, 1, 0] rfl)
set_option maxHeartbeats 4000000 in
set_option maxRecDepth 100000 in
theorem c_X3_heightOf (l : Launch) (D : va_G) (A : Nat → Prop) {ad : Nat → Nat} {cf : Nat → Option va_E} {rS rK : Nat} {num : Int32} {par : Value} {K : Nat → Nat} (hS0 : cf rS = some (.inr (4, [.int num, par, .ref (ad rK)]))) (hK0 : cf rK = some (mi_ai D 128 (fun j => nI (K j)))) (hKb : ∀ j, j < 128 → K j < 4) {a : Nat} (ha : a < 16) : mi_Rd l yX3_heightOf (Cond.code yX3_heightOf cX3_heightOf 3 (some Jvm.ClassFile.FieldType.int)) (mi_rm 2) D A (mi_W D A ad cf) [.ref (ad rS), .int (nI (a))] (fun r => r = nI (sp_h K a 8)) := by
  refine mi_start (cc := cX3_heightOf) (nL := 3) (ret := (some Jvm.ClassFile.FieldType.int)) rfl (by decide) (Nat.le_of_ble_eq_true rfl) ?_
  intro p e s m below meth c ls S E hW hS hr hk hn hl
  have S : CallFix p m c cX3_heightOf 3 s _ ((Cond.code yX3_heightOf cX3_heightOf 3 (some Jvm.ClassFile.FieldType.int)) :: mi_G) RX3 := S
  have hl : lv_has ls 3 [(0, .ref (ad rS)), (1, .int (nI (a)))] := hl
  refine lv_bipush (v := nI 7) S.1 S.2.1 dX3_heightOf_0 (by decide) ?_
  refine lv_istore_n (lv' := [(2, .int (nI (7))), (0, .ref (ad rS)), (1, .int (nI (a)))]) S.1 S.2.1 dX3_heightOf_2 rfl hl (by decide) rfl (fun ls hl => ?_)
  have lp3 : ∀ (n3 : Nat) (i : Nat) (ls : Array Slot), i < n3 → i ≤ 8 → sp_h K a 8 = sp_h K a i → lv_has ls 3 [(0, .ref (ad rS)), (1, .int (nI (a))), (2, .int (mi_dn i))] → W p l e (mi_rm 2) s m ([.ref (ad rS), .int (nI (a))] : List Value).toArray below meth c s.heap [] 0 0 (MQ below (vp_Si (fun r => r = nI (sp_h K a 8))) ([.ref (ad rS), .int (nI (a))] : List Value).toArray s 0 0 (fun _ => False)) (F0 m 3 ls []) := by
    intro n3
    induction n3 with
    | zero => intro i ls hm hi hh  hl; exact absurd hm (Nat.not_lt_zero _)
    | succ n3 ih3 =>
      intro i ls hm hi hh  hl
      refine lv_iload_n S.1 S.2.1 dX3_heightOf_3 rfl (lv_at hl 2 rfl) ?_
      refine mi_xif_lt (tgt := 26) S (mi_dn_toInt (n := i) (by omega)) dX3_heightOf_4 (by decide) (fun c4_0 => ?_) (fun c4_0 => ?_)
      · refine lv_iconst (v := nI 0) S.1 S.2.1 dX3_heightOf_26 (by decide) ?_
        exact mi_retR S hr hk dX3_heightOf_27 (by rw [hh, show i = 0 by omega]; rfl)
      · obtain ⟨i, rfl⟩ : ∃ z, i = z + 1 := ⟨i - 1, by omega⟩
        have hl : lv_has ls 3 [(0, .ref (ad rS)), (1, .int (nI (a))), (2, .int (nI (i)))] := hl
        refine lv_aload_n S.1 S.2.1 dX3_heightOf_7 rfl (lv_at hl 0 rfl) ?_
        refine lv_iload_n S.1 S.2.1 dX3_heightOf_8 rfl (lv_at hl 1 rfl) ?_
        refine lv_iload_n S.1 S.2.1 dX3_heightOf_9 rfl (lv_at hl 2 rfl) ?_
        refine mi_cR (mi_runV (P := mi_W D A ad cf) (As := [.int (nI (a)), .int (nI (i))]) (rest := []) S E hS hW (ad rS) (c_X3_kindAt l D A hS0 hK0 (by omega) (by omega)) (hW.recv E hS0 rfl) mw_460 mw_480 mw_458 mw_459 mw_23 ⟨by decide, by decide, by decide +kernel⟩ ⟨rfl, rfl, Nat.le_of_ble_eq_true rfl, Nat.le_of_ble_eq_true rfl⟩ (n := 2) rfl hl.1 rfl (Nat.le_of_ble_eq_true rfl) dX3_heightOf_10 ⟨Nat.le_of_ble_eq_true rfl, Nat.le_of_ble_eq_true rfl⟩) (fun r9 e9 => ?_)
        subst e9
        have hkb := hKb (8 * a + i) (by omega)
        refine mi_if_eq (tgt := 20) S (by omega) dX3_heightOf_13 (by decide) (fun c13_1 => ?_) (fun c13_1 => ?_)
        · refine lv_iinc (v := mi_dn i) (lv' := [(2, .int (mi_dn i)), (0, .ref (ad rS)), (1, .int (nI (a)))]) S.1 S.2.1 dX3_heightOf_20 hl (k := 2) rfl (mi_dn_dec i) (by decide) rfl (fun ls hl => ?_)
          refine lv_goto (tgt := 3) S.1 S.2.1 dX3_heightOf_23 (by decide) ?_
          exact ih3 i _ (by omega) (by omega) (by rw [hh, sp_h_0 (by assumption)])  (lv_sub hl [1, 2, 0] rfl)
        · refine lv_iload_n S.1 S.2.1 dX3_heightOf_16 rfl (lv_at hl 2 rfl) ?_
          refine lv_iconst (v := nI 1) S.1 S.2.1 dX3_heightOf_17 (by decide) ?_
          refine mi_iadd S dX3_heightOf_18 ?_
          exact mi_retR S hr hk dX3_heightOf_19 (by rw [hh, sp_h_1 (by assumption)])
  exact lp3 _ 8 _ (Nat.lt_succ_self _) (by omega) (rfl)  (lv_sub hl [1, 2, 0] rfl)
