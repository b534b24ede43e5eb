/-! the class's checks: they come back, or throw -/
set_option maxHeartbeats 4000000 in
set_option maxRecDepth 100000 in
theorem c_checkColumn (l : Launch) (D : va_G) (A : Nat → Prop) (P : Heap → Prop) {a : Nat} (ha : a < 16) : mi_Rv l yX4_checkColumn (Cond.code yX4_checkColumn cX4_checkColumn 1 none) (mi_rm 1) D A (P) [.int (nI (a))] := by
  refine mi_start (cc := cX4_checkColumn) (nL := 1) (ret := none) rfl (by decide) (Nat.le_of_ble_eq_true rfl) ?_
  intro p e s m below meth c ls S E hW hS hr hk hn hl
  have S : CallFix p m c cX4_checkColumn 1 s _ ((Cond.code yX4_checkColumn cX4_checkColumn 1 none) :: mi_G) RX4 := S
  have hl : lv_has ls 1 [(0, .int (nI (a)))] := hl
  refine lv_iload_n S.1 S.2.1 dX4_checkColumn_0 rfl (lv_at hl 0 rfl) ?_
  refine mi_cR (mi_runS (P := P) (As := [.int (nI (a))]) (rest := []) S E hS hW (c_X4_isColumn_in l D A P ha) mw_205 mw_203 mw_204 mw_18 ⟨by decide, by decide, by decide +kernel⟩ ⟨rfl, rfl, Nat.le_of_ble_eq_true rfl, Nat.le_of_ble_eq_true rfl⟩ (n := 1) rfl hl.1 rfl (Nat.le_of_ble_eq_true rfl) dX4_checkColumn_1 ⟨Nat.le_of_ble_eq_true rfl, Nat.le_of_ble_eq_true rfl⟩) (fun r9 e9 => ?_)
  subst e9
  refine mi_if_ne (tgt := 17) S (by omega) dX4_checkColumn_4 (by decide) (fun c4_0 => ?_) (fun c4_0 => by exfalso; omega)
  exact mi_retV S hr hk dX4_checkColumn_17
set_option maxHeartbeats 4000000 in
set_option maxRecDepth 100000 in
theorem c_checkColumn_x (l : Launch) (D : va_G) (A : Nat → Prop) (hst : l.stackTraces = false) {ad : Nat → Nat} {cf : Nat → Option va_E} {x : Int32} (hx : ¬ (0 ≤ x.toInt ∧ x.toInt < 16)) : mi_Th l yX4_checkColumn (Cond.code yX4_checkColumn cX4_checkColumn 1 none) (mi_rq 6 1 6) D A (mi_W D A ad cf) [.int (x)] mi_IO 1 6 := by
  refine mi_startX (cc := cX4_checkColumn) (nL := 1) (ret := none) rfl (by decide) (Nat.le_of_ble_eq_true rfl) ?_
  intro p e s m below meth c ls S E hW hS hr hk hno hl
  have S : CallFix p m c cX4_checkColumn 1 s _ ((Cond.code yX4_checkColumn cX4_checkColumn 1 none) :: mi_G) RX4 := S
  have hl : lv_has ls 1 [(0, .int (x))] := hl
  refine lv_iload_n S.1 S.2.1 dX4_checkColumn_0 rfl (lv_at hl 0 rfl) ?_
  refine mi_cR (mi_runS (P := mi_W D A ad cf) (As := [.int (x)]) (rest := []) S E hS hW (c_X4_isColumn_no l D A (mi_W D A ad cf) hx) mw_205 mw_203 mw_204 mw_18 ⟨by decide, by decide, by decide +kernel⟩ ⟨rfl, rfl, Nat.le_of_ble_eq_true rfl, Nat.le_of_ble_eq_true rfl⟩ (n := 1) rfl hl.1 rfl (Nat.le_of_ble_eq_true rfl) dX4_checkColumn_1 ⟨Nat.le_of_ble_eq_true rfl, Nat.le_of_ble_eq_true rfl⟩) (fun r9 e9 => ?_)
  subst e9
  refine mi_if_ne (tgt := 17) S (by omega) dX4_checkColumn_4 (by decide) (fun c4_0 => by exfalso; omega) (fun c4_0 => ?_)
  exact mi_throw (cls := mi_IO) (text := "no such column") (ik := 80) (is := 213) (ic := 84) S E hst hS hW (by decide) mw_206 mw_31 (by decide) mt_g_IO mt_b_IO (by decide) mt_o_IO hl.1 dX4_checkColumn_7 dX4_checkColumn_10 dX4_checkColumn_11 dX4_checkColumn_13 dX4_checkColumn_16 hno (Nat.le_of_ble_eq_true rfl) (Nat.le_of_ble_eq_true rfl) (by show _ ≤ (1 : Nat); omega) (by show _ ≤ (6 : Nat); omega) hk (by show _ ≤ (1 : Nat); omega) (by show _ ≤ (6 : Nat); omega)
set_option maxHeartbeats 4000000 in
set_option maxRecDepth 100000 in
theorem c_checkLevel (l : Launch) (D : va_G) (A : Nat → Prop) (P : Heap → Prop) {a : Nat} (ha : a < 8) : mi_Rv l yX4_checkLevel (Cond.code yX4_checkLevel cX4_checkLevel 1 none) (mi_rm 1) D A (P) [.int (nI (a))] := by
  refine mi_start (cc := cX4_checkLevel) (nL := 1) (ret := none) rfl (by decide) (Nat.le_of_ble_eq_true rfl) ?_
  intro p e s m below meth c ls S E hW hS hr hk hn hl
  have S : CallFix p m c cX4_checkLevel 1 s _ ((Cond.code yX4_checkLevel cX4_checkLevel 1 none) :: mi_G) RX4 := S
  have hl : lv_has ls 1 [(0, .int (nI (a)))] := hl
  refine lv_iload_n S.1 S.2.1 dX4_checkLevel_0 rfl (lv_at hl 0 rfl) ?_
  refine mi_cR (mi_runS (P := P) (As := [.int (nI (a))]) (rest := []) S E hS hW (c_X4_isLevel_in l D A P ha) mw_279 mw_277 mw_278 mw_18 ⟨by decide, by decide, by decide +kernel⟩ ⟨rfl, rfl, Nat.le_of_ble_eq_true rfl, Nat.le_of_ble_eq_true rfl⟩ (n := 1) rfl hl.1 rfl (Nat.le_of_ble_eq_true rfl) dX4_checkLevel_1 ⟨Nat.le_of_ble_eq_true rfl, Nat.le_of_ble_eq_true rfl⟩) (fun r9 e9 => ?_)
  subst e9
  refine mi_if_ne (tgt := 17) S (by omega) dX4_checkLevel_4 (by decide) (fun c4_0 => ?_) (fun c4_0 => by exfalso; omega)
  exact mi_retV S hr hk dX4_checkLevel_17
set_option maxHeartbeats 4000000 in
set_option maxRecDepth 100000 in
theorem c_checkLevel_x (l : Launch) (D : va_G) (A : Nat → Prop) (hst : l.stackTraces = false) {ad : Nat → Nat} {cf : Nat → Option va_E} {x : Int32} (hx : ¬ (0 ≤ x.toInt ∧ x.toInt < 8)) : mi_Th l yX4_checkLevel (Cond.code yX4_checkLevel cX4_checkLevel 1 none) (mi_rq 6 1 6) D A (mi_W D A ad cf) [.int (x)] mi_IO 1 6 := by
  refine mi_startX (cc := cX4_checkLevel) (nL := 1) (ret := none) rfl (by decide) (Nat.le_of_ble_eq_true rfl) ?_
  intro p e s m below meth c ls S E hW hS hr hk hno hl
  have S : CallFix p m c cX4_checkLevel 1 s _ ((Cond.code yX4_checkLevel cX4_checkLevel 1 none) :: mi_G) RX4 := S
  have hl : lv_has ls 1 [(0, .int (x))] := hl
  refine lv_iload_n S.1 S.2.1 dX4_checkLevel_0 rfl (lv_at hl 0 rfl) ?_
  refine mi_cR (mi_runS (P := mi_W D A ad cf) (As := [.int (x)]) (rest := []) S E hS hW (c_X4_isLevel_no l D A (mi_W D A ad cf) hx) mw_279 mw_277 mw_278 mw_18 ⟨by decide, by decide, by decide +kernel⟩ ⟨rfl, rfl, Nat.le_of_ble_eq_true rfl, Nat.le_of_ble_eq_true rfl⟩ (n := 1) rfl hl.1 rfl (Nat.le_of_ble_eq_true rfl) dX4_checkLevel_1 ⟨Nat.le_of_ble_eq_true rfl, Nat.le_of_ble_eq_true rfl⟩) (fun r9 e9 => ?_)
  subst e9
  refine mi_if_ne (tgt := 17) S (by omega) dX4_checkLevel_4 (by decide) (fun c4_0 => by exfalso; omega) (fun c4_0 => ?_)
  exact mi_throw (cls := mi_IO) (text := "no such level") (ik := 80) (is := 218) (ic := 84) S E hst hS hW (by decide) mw_206 mw_31 (by decide) mt_g_IO mt_b_IO (by decide) mt_o_IO hl.1 dX4_checkLevel_7 dX4_checkLevel_10 dX4_checkLevel_11 dX4_checkLevel_13 dX4_checkLevel_16 hno (Nat.le_of_ble_eq_true rfl) (Nat.le_of_ble_eq_true rfl) (by show _ ≤ (1 : Nat); omega) (by show _ ≤ (6 : Nat); omega) hk (by show _ ≤ (1 : Nat); omega) (by show _ ≤ (6 : Nat); omega)
set_option maxHeartbeats 4000000 in
set_option maxRecDepth 100000 in
theorem c_checkHeight (l : Launch) (D : va_G) (A : Nat → Prop) (P : Heap → Prop) {a : Nat} (h1 : 0 ≤ a) (ha : a ≤ 8) : mi_Rv l yX4_checkHeight (Cond.code yX4_checkHeight cX4_checkHeight 1 none) (mi_rm 0) D A (P) [.int (nI (a))] := by
  refine mi_start (cc := cX4_checkHeight) (nL := 1) (ret := none) rfl (by decide) (Nat.le_of_ble_eq_true rfl) ?_
  intro p e s m below meth c ls S E hW hS hr hk hn hl
  have S : CallFix p m c cX4_checkHeight 1 s _ ((Cond.code yX4_checkHeight cX4_checkHeight 1 none) :: mi_G) RX4 := S
  have hl : lv_has ls 1 [(0, .int (nI (a)))] := hl
  refine lv_iload_n S.1 S.2.1 dX4_checkHeight_0 rfl (lv_at hl 0 rfl) ?_
  refine mi_if_lt (tgt := 10) S (by omega) dX4_checkHeight_1 (by decide) ?_
  refine lv_iload_n S.1 S.2.1 dX4_checkHeight_4 rfl (lv_at hl 0 rfl) ?_
  refine lv_bipush (v := nI 8) S.1 S.2.1 dX4_checkHeight_5 (by decide) ?_
  refine mi_icmp_le (tgt := 20) S (by omega) (by omega) dX4_checkHeight_7 (by decide) (fun c7_1 => ?_) (fun c7_1 => by exfalso; omega)
  exact mi_retV S hr hk dX4_checkHeight_20
set_option maxHeartbeats 4000000 in
set_option maxRecDepth 100000 in
theorem c_checkHeight_x (l : Launch) (D : va_G) (A : Nat → Prop) (hst : l.stackTraces = false) {ad : Nat → Nat} {cf : Nat → Option va_E} {x : Int32} (hx : ¬ (0 ≤ x.toInt ∧ x.toInt ≤ 8)) : mi_Th l yX4_checkHeight (Cond.code yX4_checkHeight cX4_checkHeight 1 none) (mi_rq 6 1 6) D A (mi_W D A ad cf) [.int (x)] mi_IA 1 6 := by
  refine mi_startX (cc := cX4_checkHeight) (nL := 1) (ret := none) rfl (by decide) (Nat.le_of_ble_eq_true rfl) ?_
  intro p e s m below meth c ls S E hW hS hr hk hno hl
  have S : CallFix p m c cX4_checkHeight 1 s _ ((Cond.code yX4_checkHeight cX4_checkHeight 1 none) :: mi_G) RX4 := S
  have hl : lv_has ls 1 [(0, .int (x))] := hl
  refine lv_iload_n S.1 S.2.1 dX4_checkHeight_0 rfl (lv_at hl 0 rfl) ?_
  refine mi_xif_lt (tgt := 10) S (rfl) dX4_checkHeight_1 (by decide) (fun c1_0 => ?_) (fun c1_0 => ?_)
  · exact mi_throw (cls := mi_IA) (text := "height is out of range") (ik := 159) (is := 220) (ic := 163) S E hst hS hW (by decide) mw_284 mw_34 (by decide) mt_g_IA mt_b_IA (by decide) mt_o_IA hl.1 dX4_checkHeight_10 dX4_checkHeight_13 dX4_checkHeight_14 dX4_checkHeight_16 dX4_checkHeight_19 hno (Nat.le_of_ble_eq_true rfl) (Nat.le_of_ble_eq_true rfl) (by show _ ≤ (1 : Nat); omega) (by show _ ≤ (6 : Nat); omega) hk (by show _ ≤ (1 : Nat); omega) (by show _ ≤ (6 : Nat); omega)
  · refine lv_iload_n S.1 S.2.1 dX4_checkHeight_4 rfl (lv_at hl 0 rfl) ?_
    refine lv_bipush (v := nI 8) S.1 S.2.1 dX4_checkHeight_5 (by decide) ?_
    refine mi_xcmp_le (tgt := 20) S (rfl) (nI_toInt (n := 8) (by omega)) dX4_checkHeight_7 (by decide) (fun c7_1 => by exfalso; omega) (fun c7_1 => ?_)
    exact mi_throw (cls := mi_IA) (text := "height is out of range") (ik := 159) (is := 220) (ic := 163) S E hst hS hW (by decide) mw_284 mw_34 (by decide) mt_g_IA mt_b_IA (by decide) mt_o_IA hl.1 dX4_checkHeight_10 dX4_checkHeight_13 dX4_checkHeight_14 dX4_checkHeight_16 dX4_checkHeight_19 hno (Nat.le_of_ble_eq_true rfl) (Nat.le_of_ble_eq_true rfl) (by show _ ≤ (1 : Nat); omega) (by show _ ≤ (6 : Nat); omega) hk (by show _ ≤ (1 : Nat); omega) (by show _ ≤ (6 : Nat); omega)
set_option maxHeartbeats 4000000 in
set_option maxRecDepth 100000 in
theorem c_checkKindOrAir (l : Launch) (D : va_G) (A : Nat → Prop) (P : Heap → Prop) {a : Nat} (h1 : 0 ≤ a) (ha : a ≤ 3) : mi_Rv l yX4_checkKindOrAir (Cond.code yX4_checkKindOrAir cX4_checkKindOrAir 1 none) (mi_rm 0) D A (P) [.int (nI (a))] := by
  refine mi_start (cc := cX4_checkKindOrAir) (nL := 1) (ret := none) rfl (by decide) (Nat.le_of_ble_eq_true rfl) ?_
  intro p e s m below meth c ls S E hW hS hr hk hn hl
  have S : CallFix p m c cX4_checkKindOrAir 1 s _ ((Cond.code yX4_checkKindOrAir cX4_checkKindOrAir 1 none) :: mi_G) RX4 := S
  have hl : lv_has ls 1 [(0, .int (nI (a)))] := hl
  refine lv_iload_n S.1 S.2.1 dX4_checkKindOrAir_0 rfl (lv_at hl 0 rfl) ?_
  refine mi_if_lt (tgt := 9) S (by omega) dX4_checkKindOrAir_1 (by decide) ?_
  refine lv_iload_n S.1 S.2.1 dX4_checkKindOrAir_4 rfl (lv_at hl 0 rfl) ?_
  refine lv_iconst (v := nI 3) S.1 S.2.1 dX4_checkKindOrAir_5 (by decide) ?_
  refine mi_icmp_le (tgt := 19) S (by omega) (by omega) dX4_checkKindOrAir_6 (by decide) (fun c6_1 => ?_) (fun c6_1 => by exfalso; omega)
  exact mi_retV S hr hk dX4_checkKindOrAir_19
set_option maxHeartbeats 4000000 in
set_option maxRecDepth 100000 in
theorem c_checkKindOrAir_x (l : Launch) (D : va_G) (A : Nat → Prop) (hst : l.stackTraces = false) {ad : Nat → Nat} {cf : Nat → Option va_E} {x : Int32} (hx : ¬ (0 ≤ x.toInt ∧ x.toInt ≤ 3)) : mi_Th l yX4_checkKindOrAir (Cond.code yX4_checkKindOrAir cX4_checkKindOrAir 1 none) (mi_rq 6 1 6) D A (mi_W D A ad cf) [.int (x)] mi_IA 1 6 := by
  refine mi_startX (cc := cX4_checkKindOrAir) (nL := 1) (ret := none) rfl (by decide) (Nat.le_of_ble_eq_true rfl) ?_
  intro p e s m below meth c ls S E hW hS hr hk hno hl
  have S : CallFix p m c cX4_checkKindOrAir 1 s _ ((Cond.code yX4_checkKindOrAir cX4_checkKindOrAir 1 none) :: mi_G) RX4 := S
  have hl : lv_has ls 1 [(0, .int (x))] := hl
  refine lv_iload_n S.1 S.2.1 dX4_checkKindOrAir_0 rfl (lv_at hl 0 rfl) ?_
  refine mi_xif_lt (tgt := 9) S (rfl) dX4_checkKindOrAir_1 (by decide) (fun c1_0 => ?_) (fun c1_0 => ?_)
  · exact mi_throw (cls := mi_IA) (text := "kind is out of range") (ik := 159) (is := 222) (ic := 163) S E hst hS hW (by decide) mw_284 mw_34 (by decide) mt_g_IA mt_b_IA (by decide) mt_o_IA hl.1 dX4_checkKindOrAir_9 dX4_checkKindOrAir_12 dX4_checkKindOrAir_13 dX4_checkKindOrAir_15 dX4_checkKindOrAir_18 hno (Nat.le_of_ble_eq_true rfl) (Nat.le_of_ble_eq_true rfl) (by show _ ≤ (1 : Nat); omega) (by show _ ≤ (6 : Nat); omega) hk (by show _ ≤ (1 : Nat); omega) (by show _ ≤ (6 : Nat); omega)
  · refine lv_iload_n S.1 S.2.1 dX4_checkKindOrAir_4 rfl (lv_at hl 0 rfl) ?_
    refine lv_iconst (v := nI 3) S.1 S.2.1 dX4_checkKindOrAir_5 (by decide) ?_
    refine mi_xcmp_le (tgt := 19) S (rfl) (nI_toInt (n := 3) (by omega)) dX4_checkKindOrAir_6 (by decide) (fun c6_1 => by exfalso; omega) (fun c6_1 => ?_)
    exact mi_throw (cls := mi_IA) (text := "kind is out of range") (ik := 159) (is := 222) (ic := 163) S E hst hS hW (by decide) mw_284 mw_34 (by decide) mt_g_IA mt_b_IA (by decide) mt_o_IA hl.1 dX4_checkKindOrAir_9 dX4_checkKindOrAir_12 dX4_checkKindOrAir_13 dX4_checkKindOrAir_15 dX4_checkKindOrAir_18 hno (Nat.le_of_ble_eq_true rfl) (Nat.le_of_ble_eq_true rfl) (by show _ ≤ (1 : Nat); omega) (by show _ ≤ (6 : Nat); omega) hk (by show _ ≤ (1 : Nat); omega) (by show _ ≤ (6 : Nat); omega)
set_option maxHeartbeats 4000000 in
set_option maxRecDepth 100000 in
theorem c_checkKindOfBlock (l : Launch) (D : va_G) (A : Nat → Prop) (P : Heap → Prop) {a : Nat} (h1 : 1 ≤ a) (ha : a ≤ 3) : mi_Rv l yX4_checkKindOfBlock (Cond.code yX4_checkKindOfBlock cX4_checkKindOfBlock 1 none) (mi_rm 0) D A (P) [.int (nI (a))] := by
  refine mi_start (cc := cX4_checkKindOfBlock) (nL := 1) (ret := none) rfl (by decide) (Nat.le_of_ble_eq_true rfl) ?_
  intro p e s m below meth c ls S E hW hS hr hk hn hl
  have S : CallFix p m c cX4_checkKindOfBlock 1 s _ ((Cond.code yX4_checkKindOfBlock cX4_checkKindOfBlock 1 none) :: mi_G) RX4 := S
  have hl : lv_has ls 1 [(0, .int (nI (a)))] := hl
  refine lv_iload_n S.1 S.2.1 dX4_checkKindOfBlock_0 rfl (lv_at hl 0 rfl) ?_
  refine mi_if_le (tgt := 9) S (by omega) dX4_checkKindOfBlock_1 (by decide) (fun c1_0 => by exfalso; omega) (fun c1_0 => ?_)
  refine lv_iload_n S.1 S.2.1 dX4_checkKindOfBlock_4 rfl (lv_at hl 0 rfl) ?_
  refine lv_iconst (v := nI 3) S.1 S.2.1 dX4_checkKindOfBlock_5 (by decide) ?_
  refine mi_icmp_le (tgt := 19) S (by omega) (by omega) dX4_checkKindOfBlock_6 (by decide) (fun c6_1 => ?_) (fun c6_1 => by exfalso; omega)
  exact mi_retV S hr hk dX4_checkKindOfBlock_19
set_option maxHeartbeats 4000000 in
set_option maxRecDepth 100000 in
theorem c_checkKindOfBlock_x (l : Launch) (D : va_G) (A : Nat → Prop) (hst : l.stackTraces = false) {ad : Nat → Nat} {cf : Nat → Option va_E} {x : Int32} (hx : ¬ (1 ≤ x.toInt ∧ x.toInt ≤ 3)) : mi_Th l yX4_checkKindOfBlock (Cond.code yX4_checkKindOfBlock cX4_checkKindOfBlock 1 none) (mi_rq 6 1 6) D A (mi_W D A ad cf) [.int (x)] mi_IA 1 6 := by
  refine mi_startX (cc := cX4_checkKindOfBlock) (nL := 1) (ret := none) rfl (by decide) (Nat.le_of_ble_eq_true rfl) ?_
  intro p e s m below meth c ls S E hW hS hr hk hno hl
  have S : CallFix p m c cX4_checkKindOfBlock 1 s _ ((Cond.code yX4_checkKindOfBlock cX4_checkKindOfBlock 1 none) :: mi_G) RX4 := S
  have hl : lv_has ls 1 [(0, .int (x))] := hl
  refine lv_iload_n S.1 S.2.1 dX4_checkKindOfBlock_0 rfl (lv_at hl 0 rfl) ?_
  refine mi_xif_le (tgt := 9) S (rfl) dX4_checkKindOfBlock_1 (by decide) (fun c1_0 => ?_) (fun c1_0 => ?_)
  · exact mi_throw (cls := mi_IA) (text := "kind is out of range") (ik := 159) (is := 222) (ic := 163) S E hst hS hW (by decide) mw_284 mw_34 (by decide) mt_g_IA mt_b_IA (by decide) mt_o_IA hl.1 dX4_checkKindOfBlock_9 dX4_checkKindOfBlock_12 dX4_checkKindOfBlock_13 dX4_checkKindOfBlock_15 dX4_checkKindOfBlock_18 hno (Nat.le_of_ble_eq_true rfl) (Nat.le_of_ble_eq_true rfl) (by show _ ≤ (1 : Nat); omega) (by show _ ≤ (6 : Nat); omega) hk (by show _ ≤ (1 : Nat); omega) (by show _ ≤ (6 : Nat); omega)
  · refine lv_iload_n S.1 S.2.1 dX4_checkKindOfBlock_4 rfl (lv_at hl 0 rfl) ?_
    refine lv_iconst (v := nI 3) S.1 S.2.1 dX4_checkKindOfBlock_5 (by decide) ?_
    refine mi_xcmp_le (tgt := 19) S (rfl) (nI_toInt (n := 3) (by omega)) dX4_checkKindOfBlock_6 (by decide) (fun c6_1 => by exfalso; omega) (fun c6_1 => ?_)
    exact mi_throw (cls := mi_IA) (text := "kind is out of range") (ik := 159) (is := 222) (ic := 163) S E hst hS hW (by decide) mw_284 mw_34 (by decide) mt_g_IA mt_b_IA (by decide) mt_o_IA hl.1 dX4_checkKindOfBlock_9 dX4_checkKindOfBlock_12 dX4_checkKindOfBlock_13 dX4_checkKindOfBlock_15 dX4_checkKindOfBlock_18 hno (Nat.le_of_ble_eq_true rfl) (Nat.le_of_ble_eq_true rfl) (by show _ ≤ (1 : Nat); omega) (by show _ ≤ (6 : Nat); omega) hk (by show _ ≤ (1 : Nat); omega) (by show _ ≤ (6 : Nat); omega)
set_option maxHeartbeats 4000000 in
set_option maxRecDepth 100000 in
theorem c_checkState (l : Launch) (D : va_G) (A : Nat → Prop) {ad : Nat → Nat} {cf : Nat → Option va_E} {S0 : sT} (hX : RepX D S0 ad cf) (hO : st_ok S0) {a : Nat} (ha : a < sN S0) : mi_Rv l yX4_checkState (Cond.code yX4_checkState cX4_checkState 2 none) (mi_rm 1) D A (mi_W D A ad cf) [.ref (ad 0), .int (nI (a))] := by
  refine mi_start (cc := cX4_checkState) (nL := 2) (ret := none) rfl (by decide) (Nat.le_of_ble_eq_true rfl) ?_
  intro p e s m below meth c ls S E hW hS hr hk hn hl
  have S : CallFix p m c cX4_checkState 2 s _ ((Cond.code yX4_checkState cX4_checkState 2 none) :: mi_G) RX4 := S
  have hl : lv_has ls 2 [(0, .ref (ad 0)), (1, .int (nI (a)))] := hl
  obtain ⟨⟨o1, o2, o3, o4, o5⟩, oP, oK, oD, oX, oC, oI⟩ := id hO
  obtain ⟨x0, x1, x2, x3, ⟨pm, pq, pn, xp⟩, xs, ⟨co, hrr, grr, xd, xc⟩, x9⟩ := id hX
  have hx0 := x0
  unfold rx_ob at hx0
  obtain ⟨mc1, ea1, hs1⟩ := x1.size
  refine lv_iload_n S.1 S.2.1 dX4_checkState_0 rfl (lv_at hl 1 rfl) ?_
  refine mi_if_lt (tgt := 15) S (by omega) dX4_checkState_1 (by decide) ?_
  refine lv_iload_n S.1 S.2.1 dX4_checkState_4 rfl (lv_at hl 1 rfl) ?_
  refine lv_aload_n S.1 S.2.1 dX4_checkState_5 rfl (lv_at hl 0 rfl) ?_
  refine fg_X4_12 S E hW 0 rfl hx0 rfl dX4_checkState_6 ?_
  refine mi_cR (mi_runV (P := mi_W D A ad cf) (As := []) (rest := [.int (nI (a))]) S E hS hW (ad 1) (c_AL_size l D A hs1) (hW.recv E hs1 rfl) mw_307 mw_304 mw_305 mw_306 mw_21 ⟨by decide, by decide, by decide +kernel⟩ ⟨rfl, rfl, Nat.le_of_ble_eq_true rfl, Nat.le_of_ble_eq_true rfl⟩ (n := 0) rfl hl.1 rfl (Nat.le_of_ble_eq_true rfl) dX4_checkState_9 ⟨Nat.le_of_ble_eq_true rfl, Nat.le_of_ble_eq_true rfl⟩) (fun r9 e9 => ?_)
  subst e9
  refine mi_icmp_lt (tgt := 25) S (by omega) (by omega) dX4_checkState_12 (by decide) (fun c12_1 => ?_) (fun c12_1 => by exfalso; omega)
  exact mi_retV S hr hk dX4_checkState_25
set_option maxHeartbeats 4000000 in
set_option maxRecDepth 100000 in
theorem c_checkState_x (l : Launch) (D : va_G) (A : Nat → Prop) (hst : l.stackTraces = false) {ad : Nat → Nat} {cf : Nat → Option va_E} {S0 : sT} (hX : RepX D S0 ad cf) (hO : st_ok S0) {x : Int32} (hx : ¬ (0 ≤ x.toInt ∧ x.toInt < sN S0)) : mi_Th l yX4_checkState (Cond.code yX4_checkState cX4_checkState 2 none) (mi_rq 6 1 6) D A (mi_W D A ad cf) [.ref (ad 0), .int (x)] mi_IO 1 6 := by
  refine mi_startX (cc := cX4_checkState) (nL := 2) (ret := none) rfl (by decide) (Nat.le_of_ble_eq_true rfl) ?_
  intro p e s m below meth c ls S E hW hS hr hk hno hl
  have S : CallFix p m c cX4_checkState 2 s _ ((Cond.code yX4_checkState cX4_checkState 2 none) :: mi_G) RX4 := S
  have hl : lv_has ls 2 [(0, .ref (ad 0)), (1, .int (x))] := hl
  obtain ⟨⟨o1, o2, o3, o4, o5⟩, oP, oK, oD, oX, oC, oI⟩ := id hO
  obtain ⟨x0, x1, x2, x3, ⟨pm, pq, pn, xp⟩, xs, ⟨co, hrr, grr, xd, xc⟩, x9⟩ := id hX
  have hx0 := x0
  unfold rx_ob at hx0
  obtain ⟨mc1, ea1, hs1⟩ := x1.size
  refine lv_iload_n S.1 S.2.1 dX4_checkState_0 rfl (lv_at hl 1 rfl) ?_
  refine mi_xif_lt (tgt := 15) S (rfl) dX4_checkState_1 (by decide) (fun c1_0 => ?_) (fun c1_0 => ?_)
  · exact mi_throw (cls := mi_IO) (text := "no such state") (ik := 80) (is := 224) (ic := 84) S E hst hS hW (by decide) mw_206 mw_31 (by decide) mt_g_IO mt_b_IO (by decide) mt_o_IO hl.1 dX4_checkState_15 dX4_checkState_18 dX4_checkState_19 dX4_checkState_21 dX4_checkState_24 hno (Nat.le_of_ble_eq_true rfl) (Nat.le_of_ble_eq_true rfl) (by show _ ≤ (1 : Nat); omega) (by show _ ≤ (6 : Nat); omega) hk (by show _ ≤ (1 : Nat); omega) (by show _ ≤ (6 : Nat); omega)
  · refine lv_iload_n S.1 S.2.1 dX4_checkState_4 rfl (lv_at hl 1 rfl) ?_
    refine lv_aload_n S.1 S.2.1 dX4_checkState_5 rfl (lv_at hl 0 rfl) ?_
    refine fg_X4_12 S E hW 0 rfl hx0 rfl dX4_checkState_6 ?_
    refine mi_cR (mi_runV (P := mi_W D A ad cf) (As := []) (rest := [.int (x)]) S E hS hW (ad 1) (c_AL_size l D A hs1) (hW.recv E hs1 rfl) mw_307 mw_304 mw_305 mw_306 mw_21 ⟨by decide, by decide, by decide +kernel⟩ ⟨rfl, rfl, Nat.le_of_ble_eq_true rfl, Nat.le_of_ble_eq_true rfl⟩ (n := 0) rfl hl.1 rfl (Nat.le_of_ble_eq_true rfl) dX4_checkState_9 ⟨Nat.le_of_ble_eq_true rfl, Nat.le_of_ble_eq_true rfl⟩) (fun r9 e9 => ?_)
    subst e9
    refine mi_xcmp_lt (tgt := 25) S (rfl) (nI_toInt (n := sN S0) (by omega)) dX4_checkState_12 (by decide) (fun c12_1 => by exfalso; omega) (fun c12_1 => ?_)
    exact mi_throw (cls := mi_IO) (text := "no such state") (ik := 80) (is := 224) (ic := 84) S E hst hS hW (by decide) mw_206 mw_31 (by decide) mt_g_IO mt_b_IO (by decide) mt_o_IO hl.1 dX4_checkState_15 dX4_checkState_18 dX4_checkState_19 dX4_checkState_21 dX4_checkState_24 hno (Nat.le_of_ble_eq_true rfl) (Nat.le_of_ble_eq_true rfl) (by show _ ≤ (1 : Nat); omega) (by show _ ≤ (6 : Nat); omega) hk (by show _ ≤ (1 : Nat); omega) (by show _ ≤ (6 : Nat); omega)
set_option maxHeartbeats 4000000 in
set_option maxRecDepth 100000 in
theorem c_checkDie (l : Launch) (D : va_G) (A : Nat → Prop) {ad : Nat → Nat} {cf : Nat → Option va_E} {S0 : sT} (hX : RepX D S0 ad cf) (hO : st_ok S0) {a : Nat} (ha : a < sD S0) : mi_Rv l yX4_checkDie (Cond.code yX4_checkDie cX4_checkDie 2 none) (mi_rm 1) D A (mi_W D A ad cf) [.ref (ad 0), .int (nI (a))] := by
  refine mi_start (cc := cX4_checkDie) (nL := 2) (ret := none) rfl (by decide) (Nat.le_of_ble_eq_true rfl) ?_
  intro p e s m below meth c ls S E hW hS hr hk hn hl
  have S : CallFix p m c cX4_checkDie 2 s _ ((Cond.code yX4_checkDie cX4_checkDie 2 none) :: mi_G) RX4 := S
  have hl : lv_has ls 2 [(0, .ref (ad 0)), (1, .int (nI (a)))] := hl
  obtain ⟨⟨o1, o2, o3, o4, o5⟩, oP, oK, oD, oX, oC, oI⟩ := id hO
  obtain ⟨x0, x1, x2, x3, ⟨pm, pq, pn, xp⟩, xs, ⟨co, hrr, grr, xd, xc⟩, x9⟩ := id hX
  have hx0 := x0
  unfold rx_ob at hx0
  obtain ⟨mc2, ea2, hs2⟩ := x2.size
  refine lv_iload_n S.1 S.2.1 dX4_checkDie_0 rfl (lv_at hl 1 rfl) ?_
  refine mi_if_lt (tgt := 15) S (by omega) dX4_checkDie_1 (by decide) ?_
  refine lv_iload_n S.1 S.2.1 dX4_checkDie_4 rfl (lv_at hl 1 rfl) ?_
  refine lv_aload_n S.1 S.2.1 dX4_checkDie_5 rfl (lv_at hl 0 rfl) ?_
  refine fg_X4_16 S E hW 0 rfl hx0 rfl dX4_checkDie_6 ?_
  refine mi_cR (mi_runV (P := mi_W D A ad cf) (As := []) (rest := [.int (nI (a))]) S E hS hW (ad 2) (c_AL_size l D A hs2) (hW.recv E hs2 rfl) mw_307 mw_304 mw_305 mw_306 mw_21 ⟨by decide, by decide, by decide +kernel⟩ ⟨rfl, rfl, Nat.le_of_ble_eq_true rfl, Nat.le_of_ble_eq_true rfl⟩ (n := 0) rfl hl.1 rfl (Nat.le_of_ble_eq_true rfl) dX4_checkDie_9 ⟨Nat.le_of_ble_eq_true rfl, Nat.le_of_ble_eq_true rfl⟩) (fun r9 e9 => ?_)
  subst e9
  refine mi_icmp_lt (tgt := 25) S (by omega) (by omega) dX4_checkDie_12 (by decide) (fun c12_1 => ?_) (fun c12_1 => by exfalso; omega)
  exact mi_retV S hr hk dX4_checkDie_25
set_option maxHeartbeats 4000000 in
set_option maxRecDepth 100000 in
theorem c_checkDie_x (l : Launch) (D : va_G) (A : Nat → Prop) (hst : l.stackTraces = false) {ad : Nat → Nat} {cf : Nat → Option va_E} {S0 : sT} (hX : RepX D S0 ad cf) (hO : st_ok S0) {x : Int32} (hx : ¬ (0 ≤ x.toInt ∧ x.toInt < sD S0)) : mi_Th l yX4_checkDie (Cond.code yX4_checkDie cX4_checkDie 2 none) (mi_rq 6 1 6) D A (mi_W D A ad cf) [.ref (ad 0), .int (x)] mi_IO 1 6 := by
  refine mi_startX (cc := cX4_checkDie) (nL := 2) (ret := none) rfl (by decide) (Nat.le_of_ble_eq_true rfl) ?_
  intro p e s m below meth c ls S E hW hS hr hk hno hl
  have S : CallFix p m c cX4_checkDie 2 s _ ((Cond.code yX4_checkDie cX4_checkDie 2 none) :: mi_G) RX4 := S
  have hl : lv_has ls 2 [(0, .ref (ad 0)), (1, .int (x))] := hl
  obtain ⟨⟨o1, o2, o3, o4, o5⟩, oP, oK, oD, oX, oC, oI⟩ := id hO
  obtain ⟨x0, x1, x2, x3, ⟨pm, pq, pn, xp⟩, xs, ⟨co, hrr, grr, xd, xc⟩, x9⟩ := id hX
  have hx0 := x0
  unfold rx_ob at hx0
  obtain ⟨mc2, ea2, hs2⟩ := x2.size
  refine lv_iload_n S.1 S.2.1 dX4_checkDie_0 rfl (lv_at hl 1 rfl) ?_
  refine mi_xif_lt (tgt := 15) S (rfl) dX4_checkDie_1 (by decide) (fun c1_0 => ?_) (fun c1_0 => ?_)
  · exact mi_throw (cls := mi_IO) (text := "no such die") (ik := 80) (is := 226) (ic := 84) S E hst hS hW (by decide) mw_206 mw_31 (by decide) mt_g_IO mt_b_IO (by decide) mt_o_IO hl.1 dX4_checkDie_15 dX4_checkDie_18 dX4_checkDie_19 dX4_checkDie_21 dX4_checkDie_24 hno (Nat.le_of_ble_eq_true rfl) (Nat.le_of_ble_eq_true rfl) (by show _ ≤ (1 : Nat); omega) (by show _ ≤ (6 : Nat); omega) hk (by show _ ≤ (1 : Nat); omega) (by show _ ≤ (6 : Nat); omega)
  · refine lv_iload_n S.1 S.2.1 dX4_checkDie_4 rfl (lv_at hl 1 rfl) ?_
    refine lv_aload_n S.1 S.2.1 dX4_checkDie_5 rfl (lv_at hl 0 rfl) ?_
    refine fg_X4_16 S E hW 0 rfl hx0 rfl dX4_checkDie_6 ?_
    refine mi_cR (mi_runV (P := mi_W D A ad cf) (As := []) (rest := [.int (x)]) S E hS hW (ad 2) (c_AL_size l D A hs2) (hW.recv E hs2 rfl) mw_307 mw_304 mw_305 mw_306 mw_21 ⟨by decide, by decide, by decide +kernel⟩ ⟨rfl, rfl, Nat.le_of_ble_eq_true rfl, Nat.le_of_ble_eq_true rfl⟩ (n := 0) rfl hl.1 rfl (Nat.le_of_ble_eq_true rfl) dX4_checkDie_9 ⟨Nat.le_of_ble_eq_true rfl, Nat.le_of_ble_eq_true rfl⟩) (fun r9 e9 => ?_)
    subst e9
    refine mi_xcmp_lt (tgt := 25) S (rfl) (nI_toInt (n := sD S0) (by omega)) dX4_checkDie_12 (by decide) (fun c12_1 => by exfalso; omega) (fun c12_1 => ?_)
    exact mi_throw (cls := mi_IO) (text := "no such die") (ik := 80) (is := 226) (ic := 84) S E hst hS hW (by decide) mw_206 mw_31 (by decide) mt_g_IO mt_b_IO (by decide) mt_o_IO hl.1 dX4_checkDie_15 dX4_checkDie_18 dX4_checkDie_19 dX4_checkDie_21 dX4_checkDie_24 hno (Nat.le_of_ble_eq_true rfl) (Nat.le_of_ble_eq_true rfl) (by show _ ≤ (1 : Nat); omega) (by show _ ≤ (6 : Nat); omega) hk (by show _ ≤ (1 : Nat); omega) (by show _ ≤ (6 : Nat); omega)
set_option maxHeartbeats 4000000 in
set_option maxRecDepth 100000 in
theorem c_checkCoin (l : Launch) (D : va_G) (A : Nat → Prop) {ad : Nat → Nat} {cf : Nat → Option va_E} {S0 : sT} (hX : RepX D S0 ad cf) (hO : st_ok S0) {a : Nat} (ha : a < sC S0) : mi_Rv l yX4_checkCoin (Cond.code yX4_checkCoin cX4_checkCoin 2 none) (mi_rm 1) D A (mi_W D A ad cf) [.ref (ad 0), .int (nI (a))] := by
  refine mi_start (cc := cX4_checkCoin) (nL := 2) (ret := none) rfl (by decide) (Nat.le_of_ble_eq_true rfl) ?_
  intro p e s m below meth c ls S E hW hS hr hk hn hl
  have S : CallFix p m c cX4_checkCoin 2 s _ ((Cond.code yX4_checkCoin cX4_checkCoin 2 none) :: mi_G) RX4 := S
  have hl : lv_has ls 2 [(0, .ref (ad 0)), (1, .int (nI (a)))] := hl
  obtain ⟨⟨o1, o2, o3, o4, o5⟩, oP, oK, oD, oX, oC, oI⟩ := id hO
  obtain ⟨x0, x1, x2, x3, ⟨pm, pq, pn, xp⟩, xs, ⟨co, hrr, grr, xd, xc⟩, x9⟩ := id hX
  have hx0 := x0
  unfold rx_ob at hx0
  obtain ⟨mc3, ea3, hs3⟩ := x3.size
  refine lv_iload_n S.1 S.2.1 dX4_checkCoin_0 rfl (lv_at hl 1 rfl) ?_
  refine mi_if_lt (tgt := 15) S (by omega) dX4_checkCoin_1 (by decide) ?_
  refine lv_iload_n S.1 S.2.1 dX4_checkCoin_4 rfl (lv_at hl 1 rfl) ?_
  refine lv_aload_n S.1 S.2.1 dX4_checkCoin_5 rfl (lv_at hl 0 rfl) ?_
  refine fg_X4_19 S E hW 0 rfl hx0 rfl dX4_checkCoin_6 ?_
  refine mi_cR (mi_runV (P := mi_W D A ad cf) (As := []) (rest := [.int (nI (a))]) S E hS hW (ad 3) (c_AL_size l D A hs3) (hW.recv E hs3 rfl) mw_307 mw_304 mw_305 mw_306 mw_21 ⟨by decide, by decide, by decide +kernel⟩ ⟨rfl, rfl, Nat.le_of_ble_eq_true rfl, Nat.le_of_ble_eq_true rfl⟩ (n := 0) rfl hl.1 rfl (Nat.le_of_ble_eq_true rfl) dX4_checkCoin_9 ⟨Nat.le_of_ble_eq_true rfl, Nat.le_of_ble_eq_true rfl⟩) (fun r9 e9 => ?_)
  subst e9
  refine mi_icmp_lt (tgt := 25) S (by omega) (by omega) dX4_checkCoin_12 (by decide) (fun c12_1 => ?_) (fun c12_1 => by exfalso; omega)
  exact mi_retV S hr hk dX4_checkCoin_25
set_option maxHeartbeats 4000000 in
set_option maxRecDepth 100000 in
theorem c_checkCoin_x (l : Launch) (D : va_G) (A : Nat → Prop) (hst : l.stackTraces = false) {ad : Nat → Nat} {cf : Nat → Option va_E} {S0 : sT} (hX : RepX D S0 ad cf) (hO : st_ok S0) {x : Int32} (hx : ¬ (0 ≤ x.toInt ∧ x.toInt < sC S0)) : mi_Th l yX4_checkCoin (Cond.code yX4_checkCoin cX4_checkCoin 2 none) (mi_rq 6 1 6) D A (mi_W D A ad cf) [.ref (ad 0), .int (x)] mi_IO 1 6 := by
  refine mi_startX (cc := cX4_checkCoin) (nL := 2) (ret := none) rfl (by decide) (Nat.le_of_ble_eq_true rfl) ?_
  intro p e s m below meth c ls S E hW hS hr hk hno hl
  have S : CallFix p m c cX4_checkCoin 2 s _ ((Cond.code yX4_checkCoin cX4_checkCoin 2 none) :: mi_G) RX4 := S
  have hl : lv_has ls 2 [(0, .ref (ad 0)), (1, .int (x))] := hl
  obtain ⟨⟨o1, o2, o3, o4, o5⟩, oP, oK, oD, oX, oC, oI⟩ := id hO
  obtain ⟨x0, x1, x2, x3, ⟨pm, pq, pn, xp⟩, xs, ⟨co, hrr, grr, xd, xc⟩, x9⟩ := id hX
  have hx0 := x0
  unfold rx_ob at hx0
  obtain ⟨mc3, ea3, hs3⟩ := x3.size
  refine lv_iload_n S.1 S.2.1 dX4_checkCoin_0 rfl (lv_at hl 1 rfl) ?_
  refine mi_xif_lt (tgt := 15) S (rfl) dX4_checkCoin_1 (by decide) (fun c1_0 => ?_) (fun c1_0 => ?_)
  · exact mi_throw (cls := mi_IO) (text := "no such coin") (ik := 80) (is := 228) (ic := 84) S E hst hS hW (by decide) mw_206 mw_31 (by decide) mt_g_IO mt_b_IO (by decide) mt_o_IO hl.1 dX4_checkCoin_15 dX4_checkCoin_18 dX4_checkCoin_19 dX4_checkCoin_21 dX4_checkCoin_24 hno (Nat.le_of_ble_eq_true rfl) (Nat.le_of_ble_eq_true rfl) (by show _ ≤ (1 : Nat); omega) (by show _ ≤ (6 : Nat); omega) hk (by show _ ≤ (1 : Nat); omega) (by show _ ≤ (6 : Nat); omega)
  · refine lv_iload_n S.1 S.2.1 dX4_checkCoin_4 rfl (lv_at hl 1 rfl) ?_
    refine lv_aload_n S.1 S.2.1 dX4_checkCoin_5 rfl (lv_at hl 0 rfl) ?_
    refine fg_X4_19 S E hW 0 rfl hx0 rfl dX4_checkCoin_6 ?_
    refine mi_cR (mi_runV (P := mi_W D A ad cf) (As := []) (rest := [.int (x)]) S E hS hW (ad 3) (c_AL_size l D A hs3) (hW.recv E hs3 rfl) mw_307 mw_304 mw_305 mw_306 mw_21 ⟨by decide, by decide, by decide +kernel⟩ ⟨rfl, rfl, Nat.le_of_ble_eq_true rfl, Nat.le_of_ble_eq_true rfl⟩ (n := 0) rfl hl.1 rfl (Nat.le_of_ble_eq_true rfl) dX4_checkCoin_9 ⟨Nat.le_of_ble_eq_true rfl, Nat.le_of_ble_eq_true rfl⟩) (fun r9 e9 => ?_)
    subst e9
    refine mi_xcmp_lt (tgt := 25) S (rfl) (nI_toInt (n := sC S0) (by omega)) dX4_checkCoin_12 (by decide) (fun c12_1 => by exfalso; omega) (fun c12_1 => ?_)
    exact mi_throw (cls := mi_IO) (text := "no such coin") (ik := 80) (is := 228) (ic := 84) S E hst hS hW (by decide) mw_206 mw_31 (by decide) mt_g_IO mt_b_IO (by decide) mt_o_IO hl.1 dX4_checkCoin_15 dX4_checkCoin_18 dX4_checkCoin_19 dX4_checkCoin_21 dX4_checkCoin_24 hno (Nat.le_of_ble_eq_true rfl) (Nat.le_of_ble_eq_true rfl) (by show _ ≤ (1 : Nat); omega) (by show _ ≤ (6 : Nat); omega) hk (by show _ ≤ (1 : Nat); omega) (by show _ ≤ (6 : Nat); omega)
set_option maxHeartbeats 4000000 in
set_option maxRecDepth 100000 in
theorem c_checkRoomForState (l : Launch) (D : va_G) (A : Nat → Prop) {ad : Nat → Nat} {cf : Nat → Option va_E} {S0 : sT} (hX : RepX D S0 ad cf) (hO : st_ok S0) (hr9 : sN S0 < 61) : mi_Rv l yX4_checkRoomForState (Cond.code yX4_checkRoomForState cX4_checkRoomForState 1 none) (mi_rm 1) D A (mi_W D A ad cf) [.ref (ad 0)] := by
  refine mi_start (cc := cX4_checkRoomForState) (nL := 1) (ret := none) rfl (by decide) (Nat.le_of_ble_eq_true rfl) ?_
  intro p e s m below meth c ls S E hW hS hr hk hn hl
  have S : CallFix p m c cX4_checkRoomForState 1 s _ ((Cond.code yX4_checkRoomForState cX4_checkRoomForState 1 none) :: mi_G) RX4 := S
  have hl : lv_has ls 1 [(0, .ref (ad 0))] := hl
  obtain ⟨⟨o1, o2, o3, o4, o5⟩, oP, oK, oD, oX, oC, oI⟩ := id hO
  obtain ⟨x0, x1, x2, x3, ⟨pm, pq, pn, xp⟩, xs, ⟨co, hrr, grr, xd, xc⟩, x9⟩ := id hX
  have hx0 := x0
  unfold rx_ob at hx0
  obtain ⟨mc1, ea1, hs1⟩ := x1.size
  refine lv_aload_n S.1 S.2.1 dX4_checkRoomForState_0 rfl (lv_at hl 0 rfl) ?_
  refine fg_X4_12 S E hW 0 rfl hx0 rfl dX4_checkRoomForState_1 ?_
  refine mi_cR (mi_runV (P := mi_W D A ad cf) (As := []) (rest := []) S E hS hW (ad 1) (c_AL_size l D A hs1) (hW.recv E hs1 rfl) mw_307 mw_304 mw_305 mw_306 mw_21 ⟨by decide, by decide, by decide +kernel⟩ ⟨rfl, rfl, Nat.le_of_ble_eq_true rfl, Nat.le_of_ble_eq_true rfl⟩ (n := 0) rfl hl.1 rfl (Nat.le_of_ble_eq_true rfl) dX4_checkRoomForState_4 ⟨Nat.le_of_ble_eq_true rfl, Nat.le_of_ble_eq_true rfl⟩) (fun r9 e9 => ?_)
  subst e9
  refine lv_bipush (v := nI 61) S.1 S.2.1 dX4_checkRoomForState_7 (by decide) ?_
  refine mi_icmp_lt (tgt := 22) S (by omega) (by omega) dX4_checkRoomForState_9 (by decide) (fun c9_0 => ?_) (fun c9_0 => by exfalso; omega)
  exact mi_retV S hr hk dX4_checkRoomForState_22
set_option maxHeartbeats 4000000 in
set_option maxRecDepth 100000 in
theorem c_checkRoomForState_x (l : Launch) (D : va_G) (A : Nat → Prop) (hst : l.stackTraces = false) {ad : Nat → Nat} {cf : Nat → Option va_E} {S0 : sT} (hX : RepX D S0 ad cf) (hO : st_ok S0) (hr9 : sN S0 = 61) : mi_Th l yX4_checkRoomForState (Cond.code yX4_checkRoomForState cX4_checkRoomForState 1 none) (mi_rq 6 1 6) D A (mi_W D A ad cf) [.ref (ad 0)] mi_IS 1 6 := by
  refine mi_startX (cc := cX4_checkRoomForState) (nL := 1) (ret := none) rfl (by decide) (Nat.le_of_ble_eq_true rfl) ?_
  intro p e s m below meth c ls S E hW hS hr hk hno hl
  have S : CallFix p m c cX4_checkRoomForState 1 s _ ((Cond.code yX4_checkRoomForState cX4_checkRoomForState 1 none) :: mi_G) RX4 := S
  have hl : lv_has ls 1 [(0, .ref (ad 0))] := hl
  obtain ⟨⟨o1, o2, o3, o4, o5⟩, oP, oK, oD, oX, oC, oI⟩ := id hO
  obtain ⟨x0, x1, x2, x3, ⟨pm, pq, pn, xp⟩, xs, ⟨co, hrr, grr, xd, xc⟩, x9⟩ := id hX
  have hx0 := x0
  unfold rx_ob at hx0
  obtain ⟨mc1, ea1, hs1⟩ := x1.size
  refine lv_aload_n S.1 S.2.1 dX4_checkRoomForState_0 rfl (lv_at hl 0 rfl) ?_
  refine fg_X4_12 S E hW 0 rfl hx0 rfl dX4_checkRoomForState_1 ?_
  refine mi_cR (mi_runV (P := mi_W D A ad cf) (As := []) (rest := []) S E hS hW (ad 1) (c_AL_size l D A hs1) (hW.recv E hs1 rfl) mw_307 mw_304 mw_305 mw_306 mw_21 ⟨by decide, by decide, by decide +kernel⟩ ⟨rfl, rfl, Nat.le_of_ble_eq_true rfl, Nat.le_of_ble_eq_true rfl⟩ (n := 0) rfl hl.1 rfl (Nat.le_of_ble_eq_true rfl) dX4_checkRoomForState_4 ⟨Nat.le_of_ble_eq_true rfl, Nat.le_of_ble_eq_true rfl⟩) (fun r9 e9 => ?_)
  subst e9
  refine lv_bipush (v := nI 61) S.1 S.2.1 dX4_checkRoomForState_7 (by decide) ?_
  refine mi_icmp_lt (tgt := 22) S (by omega) (by omega) dX4_checkRoomForState_9 (by decide) (fun c9_0 => by exfalso; omega) (fun c9_0 => ?_)
  exact mi_throw (cls := mi_IS) (text := "no room for another state") (ik := 114) (is := 230) (ic := 118) S E hst hS hW (by decide) mw_308 mw_35 (by decide) mt_g_IS mt_b_IS (by decide) mt_o_IS hl.1 dX4_checkRoomForState_12 dX4_checkRoomForState_15 dX4_checkRoomForState_16 dX4_checkRoomForState_18 dX4_checkRoomForState_21 hno (Nat.le_of_ble_eq_true rfl) (Nat.le_of_ble_eq_true rfl) (by show _ ≤ (1 : Nat); omega) (by show _ ≤ (6 : Nat); omega) hk (by show _ ≤ (1 : Nat); omega) (by show _ ≤ (6 : Nat); omega)
set_option maxHeartbeats 4000000 in
set_option maxRecDepth 100000 in
theorem c_checkRoomForCoin (l : Launch) (D : va_G) (A : Nat → Prop) {ad : Nat → Nat} {cf : Nat → Option va_E} {S0 : sT} (hX : RepX D S0 ad cf) (hO : st_ok S0) (hr9 : sC S0 < 60) : mi_Rv l yX4_checkRoomForCoin (Cond.code yX4_checkRoomForCoin cX4_checkRoomForCoin 1 none) (mi_rm 1) D A (mi_W D A ad cf) [.ref (ad 0)] := by
  refine mi_start (cc := cX4_checkRoomForCoin) (nL := 1) (ret := none) rfl (by decide) (Nat.le_of_ble_eq_true rfl) ?_
  intro p e s m below meth c ls S E hW hS hr hk hn hl
  have S : CallFix p m c cX4_checkRoomForCoin 1 s _ ((Cond.code yX4_checkRoomForCoin cX4_checkRoomForCoin 1 none) :: mi_G) RX4 := S
  have hl : lv_has ls 1 [(0, .ref (ad 0))] := hl
  obtain ⟨⟨o1, o2, o3, o4, o5⟩, oP, oK, oD, oX, oC, oI⟩ := id hO
  obtain ⟨x0, x1, x2, x3, ⟨pm, pq, pn, xp⟩, xs, ⟨co, hrr, grr, xd, xc⟩, x9⟩ := id hX
  have hx0 := x0
  unfold rx_ob at hx0
  obtain ⟨mc3, ea3, hs3⟩ := x3.size
  refine lv_aload_n S.1 S.2.1 dX4_checkRoomForCoin_0 rfl (lv_at hl 0 rfl) ?_
  refine fg_X4_19 S E hW 0 rfl hx0 rfl dX4_checkRoomForCoin_1 ?_
  refine mi_cR (mi_runV (P := mi_W D A ad cf) (As := []) (rest := []) S E hS hW (ad 3) (c_AL_size l D A hs3) (hW.recv E hs3 rfl) mw_307 mw_304 mw_305 mw_306 mw_21 ⟨by decide, by decide, by decide +kernel⟩ ⟨rfl, rfl, Nat.le_of_ble_eq_true rfl, Nat.le_of_ble_eq_true rfl⟩ (n := 0) rfl hl.1 rfl (Nat.le_of_ble_eq_true rfl) dX4_checkRoomForCoin_4 ⟨Nat.le_of_ble_eq_true rfl, Nat.le_of_ble_eq_true rfl⟩) (fun r9 e9 => ?_)
  subst e9
  refine lv_bipush (v := nI 60) S.1 S.2.1 dX4_checkRoomForCoin_7 (by decide) ?_
  refine mi_icmp_lt (tgt := 22) S (by omega) (by omega) dX4_checkRoomForCoin_9 (by decide) (fun c9_0 => ?_) (fun c9_0 => by exfalso; omega)
  exact mi_retV S hr hk dX4_checkRoomForCoin_22
set_option maxHeartbeats 4000000 in
set_option maxRecDepth 100000 in
theorem c_checkRoomForCoin_x (l : Launch) (D : va_G) (A : Nat → Prop) (hst : l.stackTraces = false) {ad : Nat → Nat} {cf : Nat → Option va_E} {S0 : sT} (hX : RepX D S0 ad cf) (hO : st_ok S0) (hr9 : sC S0 = 60) : mi_Th l yX4_checkRoomForCoin (Cond.code yX4_checkRoomForCoin cX4_checkRoomForCoin 1 none) (mi_rq 6 1 6) D A (mi_W D A ad cf) [.ref (ad 0)] mi_IS 1 6 := by
  refine mi_startX (cc := cX4_checkRoomForCoin) (nL := 1) (ret := none) rfl (by decide) (Nat.le_of_ble_eq_true rfl) ?_
  intro p e s m below meth c ls S E hW hS hr hk hno hl
  have S : CallFix p m c cX4_checkRoomForCoin 1 s _ ((Cond.code yX4_checkRoomForCoin cX4_checkRoomForCoin 1 none) :: mi_G) RX4 := S
  have hl : lv_has ls 1 [(0, .ref (ad 0))] := hl
  obtain ⟨⟨o1, o2, o3, o4, o5⟩, oP, oK, oD, oX, oC, oI⟩ := id hO
  obtain ⟨x0, x1, x2, x3, ⟨pm, pq, pn, xp⟩, xs, ⟨co, hrr, grr, xd, xc⟩, x9⟩ := id hX
  have hx0 := x0
  unfold rx_ob at hx0
  obtain ⟨mc3, ea3, hs3⟩ := x3.size
  refine lv_aload_n S.1 S.2.1 dX4_checkRoomForCoin_0 rfl (lv_at hl 0 rfl) ?_
  refine fg_X4_19 S E hW 0 rfl hx0 rfl dX4_checkRoomForCoin_1 ?_
  refine mi_cR (mi_runV (P := mi_W D A ad cf) (As := []) (rest := []) S E hS hW (ad 3) (c_AL_size l D A hs3) (hW.recv E hs3 rfl) mw_307 mw_304 mw_305 mw_306 mw_21 ⟨by decide, by decide, by decide +kernel⟩ ⟨rfl, rfl, Nat.le_of_ble_eq_true rfl, Nat.le_of_ble_eq_true rfl⟩ (n := 0) rfl hl.1 rfl (Nat.le_of_ble_eq_true rfl) dX4_checkRoomForCoin_4 ⟨Nat.le_of_ble_eq_true rfl, Nat.le_of_ble_eq_true rfl⟩) (fun r9 e9 => ?_)
  subst e9
  refine lv_bipush (v := nI 60) S.1 S.2.1 dX4_checkRoomForCoin_7 (by decide) ?_
  refine mi_icmp_lt (tgt := 22) S (by omega) (by omega) dX4_checkRoomForCoin_9 (by decide) (fun c9_0 => by exfalso; omega) (fun c9_0 => ?_)
  exact mi_throw (cls := mi_IS) (text := "no room for another coin") (ik := 114) (is := 232) (ic := 118) S E hst hS hW (by decide) mw_308 mw_35 (by decide) mt_g_IS mt_b_IS (by decide) mt_o_IS hl.1 dX4_checkRoomForCoin_12 dX4_checkRoomForCoin_15 dX4_checkRoomForCoin_16 dX4_checkRoomForCoin_18 dX4_checkRoomForCoin_21 hno (Nat.le_of_ble_eq_true rfl) (Nat.le_of_ble_eq_true rfl) (by show _ ≤ (1 : Nat); omega) (by show _ ≤ (6 : Nat); omega) hk (by show _ ≤ (1 : Nat); omega) (by show _ ≤ (6 : Nat); omega)
