/-! set, raise, layer -/
theorem c_putX (l : Launch) (D : va_G) (A : Nat → Prop) {ad : Nat → Nat} {cf : Nat → Option va_E} {S0 : sT} (hX : RepX D S0 ad cf) (hO : st_ok S0) {a b k : Nat} (ha : a < 16) (hb : b < 8) : mi_Mv l yX3_put (Cond.code yX3_put cX3_put 4 none) (mi_rm 1) D A (mi_W D A ad cf) [.ref (ad (100 + 2 * sW S0)), .int (nI a), .int (nI b), .int (nI k)] 0 0 (fun H => ∃ cf1, mi_W D A ad cf1 H ∧ RepX D (st_put S0 (8 * a + b) k) ad cf1 ∧ ∀ k, 1000 ≤ k → cf1 k = cf k) := by
  have o2 := hO.1.2.1
  have o3 := hO.1.2.2.1
  obtain ⟨hs, hk⟩ := hX.2.2.2.2.2.1 (sW S0) o3
  exact mi_lessV (c_X3_put l D A hs hk ha hb) (fun H hW => ⟨_, hW, hX.put hO, fun k hk => mi_up_n (by omega)⟩)
theorem sp_ra_lt {K : Nat → Nat} {a b k i : Nat} (hK : ∀ j, j < 128 → K j < 4) (hk : k < 4) : ∀ j, j < 128 → sp_ra K a b k i j < 4 := by
  intro j hj
  have := hK j hj
  unfold sp_ra
  split
  · split <;> omega
  · omega
theorem sp_la_lt {K : Nat → Nat} {b k i : Nat} (hK : ∀ j, j < 128 → K j < 4) (hk : k < 4) : ∀ j, j < 128 → sp_la K b k i j < 4 := by
  intro j hj
  have := hK j hj
  unfold sp_la
  split <;> omega
theorem mi_un_lt {K : Nat → Nat} {p k : Nat} (hK : ∀ j, j < 128 → K j < 4) (hk : k < 4) : ∀ j, j < 128 → mi_un K p k j < 4 := by
  intro j hj
  have := hK j hj
  unfold mi_un
  split <;> omega
set_option maxHeartbeats 4000000 in
set_option maxRecDepth 100000 in
theorem c_set (l : Launch) (D : va_G) (A : Nat → Prop) {ad : Nat → Nat} {cf : Nat → Option va_E} {S0 : sT} (hX : RepX D S0 ad cf) (hO : st_ok S0) (hAu : ∀ a b, A a → a ≤ b → A b) {a : Nat} (ha : a < 16) {b : Nat} (hb : b < 8) {k : Nat} (hk4 : k < 4) (h61 : sN S0 < 61) : mi_Mi l yX4_set (Cond.code yX4_set cX4_set 4 (some Jvm.ClassFile.FieldType.int)) (mi_rq 8 3 1131) D A (mi_W D A ad cf) [.ref (ad 0), .int (nI (a)), .int (nI (b)), .int (nI (k))] 3 1131 (fun r H => r = nI (sN S0) ∧ rx_P D A (st_new S0 (mi_un (sK S0 (sW S0)) (8 * a + b) k)) ad cf H) := by
  refine mi_start (cc := cX4_set) (nL := 4) (ret := (some Jvm.ClassFile.FieldType.int)) rfl (by decide) (Nat.le_of_ble_eq_true rfl) ?_
  intro p e s m below meth c ls S E hW hS hr hk hn hl
  have S : CallFix p m c cX4_set 4 s _ ((Cond.code yX4_set cX4_set 4 (some Jvm.ClassFile.FieldType.int)) :: mi_G) RX4 := S
  have hl : lv_has ls 4 [(0, .ref (ad 0)), (1, .int (nI (a))), (2, .int (nI (b))), (3, .int (nI (k)))] := hl
  obtain ⟨⟨o1, o2, o3, o4, o5⟩, oP, oK, oD, oX, oC, oI⟩ := id hO
  obtain ⟨x0, x1, x2, x3, ⟨pm, pq, pn, xp⟩, xs, ⟨co, hrr, grr, xd, xc⟩, x9⟩ := id hX
  have hx0 := x0
  unfold rx_ob at hx0
  obtain ⟨hsn, hkn⟩ := xs (sW S0) o3
  have hKb : ∀ j, j < 128 → sK S0 (sW S0) j < 4 := fun j hj => oK _ _ o3 hj
  have hA : ∀ q, s.heap.size ≤ q → A q := hW.up hAu hx0
  refine lv_iload_n S.1 S.2.1 dX4_set_0 rfl (lv_at hl 1 rfl) ?_
  refine mi_cV (mi_runS (P := mi_W D A ad cf) (As := [.int (nI (a))]) (rest := []) S E hS hW (c_checkColumn l D A (mi_W D A ad cf) (by omega)) mw_202 mw_200 mw_201 mw_18 ⟨by decide, by decide, by decide +kernel⟩ ⟨rfl, rfl, Nat.le_of_ble_eq_true rfl, Nat.le_of_ble_eq_true rfl⟩ (n := 1) rfl hl.1 rfl (Nat.le_of_ble_eq_true rfl) dX4_set_1 ⟨Nat.le_of_ble_eq_true rfl, Nat.le_of_ble_eq_true rfl⟩) ?_
  refine lv_iload_n S.1 S.2.1 dX4_set_4 rfl (lv_at hl 2 rfl) ?_
  refine mi_cV (mi_runS (P := mi_W D A ad cf) (As := [.int (nI (b))]) (rest := []) S E hS hW (c_checkLevel l D A (mi_W D A ad cf) (by omega)) mw_276 mw_274 mw_275 mw_18 ⟨by decide, by decide, by decide +kernel⟩ ⟨rfl, rfl, Nat.le_of_ble_eq_true rfl, Nat.le_of_ble_eq_true rfl⟩ (n := 1) rfl hl.1 rfl (Nat.le_of_ble_eq_true rfl) dX4_set_5 ⟨Nat.le_of_ble_eq_true rfl, Nat.le_of_ble_eq_true rfl⟩) ?_
  refine lv_iload_n S.1 S.2.1 dX4_set_8 rfl (lv_at hl 3 rfl) ?_
  refine mi_cV (mi_runS (P := mi_W D A ad cf) (As := [.int (nI (k))]) (rest := []) S E hS hW (c_checkKindOrAir l D A (mi_W D A ad cf) (by omega) (by omega)) mw_283 mw_281 mw_282 mw_18 ⟨by decide, by decide, by decide +kernel⟩ ⟨rfl, rfl, Nat.le_of_ble_eq_true rfl, Nat.le_of_ble_eq_true rfl⟩ (n := 1) rfl hl.1 rfl (Nat.le_of_ble_eq_true rfl) dX4_set_9 ⟨Nat.le_of_ble_eq_true rfl, Nat.le_of_ble_eq_true rfl⟩) ?_
  refine lv_aload_n S.1 S.2.1 dX4_set_12 rfl (lv_at hl 0 rfl) ?_
  refine mi_cV (mi_runV (P := mi_W D A ad cf) (As := []) (rest := []) S E hS hW (ad 0) (c_checkRoomForState l D A hX hO h61) (hW.recv E hx0 rfl) mw_303 mw_300 mw_302 mw_4 mw_18 ⟨by decide, by decide, by decide +kernel⟩ ⟨rfl, rfl, Nat.le_of_ble_eq_true rfl, Nat.le_of_ble_eq_true rfl⟩ (n := 0) rfl hl.1 rfl (Nat.le_of_ble_eq_true rfl) dX4_set_13 ⟨Nat.le_of_ble_eq_true rfl, Nat.le_of_ble_eq_true rfl⟩) ?_
  refine lv_aload_n S.1 S.2.1 dX4_set_16 rfl (lv_at hl 0 rfl) ?_
  refine mi_cMv (mi_runV (P := mi_W D A ad cf) (As := []) (rest := []) S E hS hW (ad 0) (c_beginState l D A hX hO hAu h61) (hW.recv E hx0 rfl) mw_327 mw_324 mw_326 mw_5 mw_18 ⟨by decide, by decide, by decide +kernel⟩ ⟨rfl, rfl, Nat.le_of_ble_eq_true rfl, Nat.le_of_ble_eq_true rfl⟩ (n := 0) rfl hl.1 rfl (Nat.le_of_ble_eq_true rfl) dX4_set_17 ⟨(by show _ ≤ (3 : Nat); omega), (by show _ ≤ (1131 : Nat); omega)⟩) hS (fun H locs hp9 hS hz => ?_)
  obtain ⟨ad1, cf1, hW, hX1, hfr1, ha1⟩ := hp9
  have hx1 : cf1 0 = some (.inr (5, [.ref (ad1 1), .ref (ad1 2), .ref (ad1 3), .ref (ad1 4), .ref (ad1 (100 + 2 * sN S0))])) := hX1.1
  have hs1 := (hX1.2.2.2.2.2.1 (sN S0) (Nat.lt_succ_self _)).1
  refine lv_aload_n S.1 S.2.1 dX4_set_20 rfl (lv_at hl 0 rfl) ?_
  refine fg_X4_34 S E hW 0 ha1 hx1 rfl dX4_set_21 ?_
  refine lv_iload_n S.1 S.2.1 dX4_set_24 rfl (lv_at hl 1 rfl) ?_
  refine lv_iload_n S.1 S.2.1 dX4_set_25 rfl (lv_at hl 2 rfl) ?_
  refine lv_iload_n S.1 S.2.1 dX4_set_26 rfl (lv_at hl 3 rfl) ?_
  refine mi_cMv (mi_runV (P := mi_W D A ad1 cf1) (As := [.int (nI (a)), .int (nI (b)), .int (nI (k))]) (rest := []) S E hS hW (ad1 (100 + 2 * sN S0)) (c_putX l D A (S0 := st_new S0 ((sK S0 (sW S0)))) hX1 (st_ok_new hO h61 hKb) (by omega) (by omega)) (hW.recv E hs1 rfl) mw_338 mw_335 mw_336 mw_337 mw_23 ⟨by decide, by decide, by decide +kernel⟩ ⟨rfl, rfl, Nat.le_of_ble_eq_true rfl, Nat.le_of_ble_eq_true rfl⟩ (n := 3) rfl hl.1 rfl (Nat.le_of_ble_eq_true rfl) dX4_set_27 ⟨(by show _ ≤ (3 : Nat); omega), (by show _ ≤ (1131 : Nat); omega)⟩) hS (fun H locs hp9 hS hz => ?_)
  obtain ⟨cf2, hW, hX2, hfp2⟩ := hp9
  rw [st_put_new] at hX2
  have hx3 : cf2 0 = some (.inr (5, [.ref (ad1 1), .ref (ad1 2), .ref (ad1 3), .ref (ad1 4), .ref (ad1 (100 + 2 * sN S0))])) := hX2.1
  have hs3 := (hX2.2.2.2.2.2.1 (sN S0) (Nat.lt_succ_self _)).1
  refine lv_aload_n S.1 S.2.1 dX4_set_30 rfl (lv_at hl 0 rfl) ?_
  refine fg_X4_34 S E hW 0 ha1 hx3 rfl dX4_set_31 ?_
  refine fg_X4_62 S E hW ((100 + 2 * sN S0)) rfl hs3 rfl dX4_set_34 ?_
  exact mi_retMi S hr hk hS dX4_set_37 (by show _ ≤ (3 : Nat); omega) (by show _ ≤ (1131 : Nat); omega) ⟨rfl, ad1, cf2, hW, hX2, fun k hk => ⟨((hfp2 k hk).trans (hfr1 k hk).1), (hfr1 k hk).2⟩, ha1⟩
set_option maxHeartbeats 4000000 in
set_option maxRecDepth 100000 in
theorem c_set_x1 (l : Launch) (D : va_G) (A : Nat → Prop) (hst : l.stackTraces = false) {ad : Nat → Nat} {cf : Nat → Option va_E} {S0 : sT} (hX : RepX D S0 ad cf) (hO : st_ok S0) {x : Int32} (hx : ¬ (0 ≤ x.toInt ∧ x.toInt < 16)) {y z : Int32} : mi_Th l yX4_set (Cond.code yX4_set cX4_set 4 (some Jvm.ClassFile.FieldType.int)) (mi_rq 7 1 6) D A (mi_W D A ad cf) [.ref (ad 0), .int (x), .int (y), .int (z)] mi_IO 1 6 := by
  refine mi_startX (cc := cX4_set) (nL := 4) (ret := (some Jvm.ClassFile.FieldType.int)) rfl (by decide) (Nat.le_of_ble_eq_true rfl) ?_
  intro p e s m below meth c ls S E hW hS hr hk hno hl
  have S : CallFix p m c cX4_set 4 s _ ((Cond.code yX4_set cX4_set 4 (some Jvm.ClassFile.FieldType.int)) :: mi_G) RX4 := S
  have hl : lv_has ls 4 [(0, .ref (ad 0)), (1, .int (x)), (2, .int (y)), (3, .int (z))] := hl
  refine lv_iload_n S.1 S.2.1 dX4_set_0 rfl (lv_at hl 1 rfl) ?_
  refine mi_cTh (mi_runSX (P := mi_W D A ad cf) (As := [.int (x)]) (rest := []) S E hS hW (c_checkColumn_x l D A hst hx) mw_202 mw_200 mw_201 mw_18 ⟨by decide, by decide, by decide +kernel⟩ ⟨rfl, rfl, Nat.le_of_ble_eq_true rfl, Nat.le_of_ble_eq_true rfl⟩ (n := 1) rfl hl.1 rfl (Nat.le_of_ble_eq_true rfl) dX4_set_1 ⟨(by show _ ≤ (1 : Nat); omega), (by show _ ≤ (6 : Nat); omega)⟩) hS (fun ce q9 H locs hW hS h1 h2 h3 => ?_)
  exact mi_out hno hk hW hS h1 h2 h3 (by show _ ≤ (1 : Nat); omega) (by show _ ≤ (6 : Nat); omega)
set_option maxHeartbeats 4000000 in
set_option maxRecDepth 100000 in
theorem c_set_x2 (l : Launch) (D : va_G) (A : Nat → Prop) (hst : l.stackTraces = false) {ad : Nat → Nat} {cf : Nat → Option va_E} {S0 : sT} (hX : RepX D S0 ad cf) (hO : st_ok S0) {a : Nat} (ha : a < 16) {x : Int32} (hx : ¬ (0 ≤ x.toInt ∧ x.toInt < 8)) {z : Int32} : mi_Th l yX4_set (Cond.code yX4_set cX4_set 4 (some Jvm.ClassFile.FieldType.int)) (mi_rq 7 1 6) D A (mi_W D A ad cf) [.ref (ad 0), .int (nI (a)), .int (x), .int (z)] mi_IO 1 6 := by
  refine mi_startX (cc := cX4_set) (nL := 4) (ret := (some Jvm.ClassFile.FieldType.int)) rfl (by decide) (Nat.le_of_ble_eq_true rfl) ?_
  intro p e s m below meth c ls S E hW hS hr hk hno hl
  have S : CallFix p m c cX4_set 4 s _ ((Cond.code yX4_set cX4_set 4 (some Jvm.ClassFile.FieldType.int)) :: mi_G) RX4 := S
  have hl : lv_has ls 4 [(0, .ref (ad 0)), (1, .int (nI (a))), (2, .int (x)), (3, .int (z))] := hl
  refine lv_iload_n S.1 S.2.1 dX4_set_0 rfl (lv_at hl 1 rfl) ?_
  refine mi_cV (mi_runS (P := mi_W D A ad cf) (As := [.int (nI (a))]) (rest := []) S E hS hW (c_checkColumn l D A (mi_W D A ad cf) (by omega)) mw_202 mw_200 mw_201 mw_18 ⟨by decide, by decide, by decide +kernel⟩ ⟨rfl, rfl, Nat.le_of_ble_eq_true rfl, Nat.le_of_ble_eq_true rfl⟩ (n := 1) rfl hl.1 rfl (Nat.le_of_ble_eq_true rfl) dX4_set_1 ⟨Nat.le_of_ble_eq_true rfl, Nat.le_of_ble_eq_true rfl⟩) ?_
  refine lv_iload_n S.1 S.2.1 dX4_set_4 rfl (lv_at hl 2 rfl) ?_
  refine mi_cTh (mi_runSX (P := mi_W D A ad cf) (As := [.int (x)]) (rest := []) S E hS hW (c_checkLevel_x l D A hst hx) mw_276 mw_274 mw_275 mw_18 ⟨by decide, by decide, by decide +kernel⟩ ⟨rfl, rfl, Nat.le_of_ble_eq_true rfl, Nat.le_of_ble_eq_true rfl⟩ (n := 1) rfl hl.1 rfl (Nat.le_of_ble_eq_true rfl) dX4_set_5 ⟨(by show _ ≤ (1 : Nat); omega), (by show _ ≤ (6 : Nat); omega)⟩) hS (fun ce q9 H locs hW hS h1 h2 h3 => ?_)
  exact mi_out hno hk hW hS h1 h2 h3 (by show _ ≤ (1 : Nat); omega) (by show _ ≤ (6 : Nat); omega)
set_option maxHeartbeats 4000000 in
set_option maxRecDepth 100000 in
theorem c_set_x3 (l : Launch) (D : va_G) (A : Nat → Prop) (hst : l.stackTraces = false) {ad : Nat → Nat} {cf : Nat → Option va_E} {S0 : sT} (hX : RepX D S0 ad cf) (hO : st_ok S0) {a : Nat} (ha : a < 16) {b : Nat} (hb : b < 8) {x : Int32} (hx : ¬ (0 ≤ x.toInt ∧ x.toInt ≤ 3)) : mi_Th l yX4_set (Cond.code yX4_set cX4_set 4 (some Jvm.ClassFile.FieldType.int)) (mi_rq 7 1 6) D A (mi_W D A ad cf) [.ref (ad 0), .int (nI (a)), .int (nI (b)), .int (x)] mi_IA 1 6 := by
  refine mi_startX (cc := cX4_set) (nL := 4) (ret := (some Jvm.ClassFile.FieldType.int)) rfl (by decide) (Nat.le_of_ble_eq_true rfl) ?_
  intro p e s m below meth c ls S E hW hS hr hk hno hl
  have S : CallFix p m c cX4_set 4 s _ ((Cond.code yX4_set cX4_set 4 (some Jvm.ClassFile.FieldType.int)) :: mi_G) RX4 := S
  have hl : lv_has ls 4 [(0, .ref (ad 0)), (1, .int (nI (a))), (2, .int (nI (b))), (3, .int (x))] := hl
  refine lv_iload_n S.1 S.2.1 dX4_set_0 rfl (lv_at hl 1 rfl) ?_
  refine mi_cV (mi_runS (P := mi_W D A ad cf) (As := [.int (nI (a))]) (rest := []) S E hS hW (c_checkColumn l D A (mi_W D A ad cf) (by omega)) mw_202 mw_200 mw_201 mw_18 ⟨by decide, by decide, by decide +kernel⟩ ⟨rfl, rfl, Nat.le_of_ble_eq_true rfl, Nat.le_of_ble_eq_true rfl⟩ (n := 1) rfl hl.1 rfl (Nat.le_of_ble_eq_true rfl) dX4_set_1 ⟨Nat.le_of_ble_eq_true rfl, Nat.le_of_ble_eq_true rfl⟩) ?_
  refine lv_iload_n S.1 S.2.1 dX4_set_4 rfl (lv_at hl 2 rfl) ?_
  refine mi_cV (mi_runS (P := mi_W D A ad cf) (As := [.int (nI (b))]) (rest := []) S E hS hW (c_checkLevel l D A (mi_W D A ad cf) (by omega)) mw_276 mw_274 mw_275 mw_18 ⟨by decide, by decide, by decide +kernel⟩ ⟨rfl, rfl, Nat.le_of_ble_eq_true rfl, Nat.le_of_ble_eq_true rfl⟩ (n := 1) rfl hl.1 rfl (Nat.le_of_ble_eq_true rfl) dX4_set_5 ⟨Nat.le_of_ble_eq_true rfl, Nat.le_of_ble_eq_true rfl⟩) ?_
  refine lv_iload_n S.1 S.2.1 dX4_set_8 rfl (lv_at hl 3 rfl) ?_
  refine mi_cTh (mi_runSX (P := mi_W D A ad cf) (As := [.int (x)]) (rest := []) S E hS hW (c_checkKindOrAir_x l D A hst hx) mw_283 mw_281 mw_282 mw_18 ⟨by decide, by decide, by decide +kernel⟩ ⟨rfl, rfl, Nat.le_of_ble_eq_true rfl, Nat.le_of_ble_eq_true rfl⟩ (n := 1) rfl hl.1 rfl (Nat.le_of_ble_eq_true rfl) dX4_set_9 ⟨(by show _ ≤ (1 : Nat); omega), (by show _ ≤ (6 : Nat); omega)⟩) hS (fun ce q9 H locs hW hS h1 h2 h3 => ?_)
  exact mi_out hno hk hW hS h1 h2 h3 (by show _ ≤ (1 : Nat); omega) (by show _ ≤ (6 : Nat); omega)
set_option maxHeartbeats 4000000 in
set_option maxRecDepth 100000 in
theorem c_set_x4 (l : Launch) (D : va_G) (A : Nat → Prop) (hst : l.stackTraces = false) {ad : Nat → Nat} {cf : Nat → Option va_E} {S0 : sT} (hX : RepX D S0 ad cf) (hO : st_ok S0) {a : Nat} (ha : a < 16) {b : Nat} (hb : b < 8) {k : Nat} (hk4 : k < 4) (h61 : sN S0 = 61) : mi_Th l yX4_set (Cond.code yX4_set cX4_set 4 (some Jvm.ClassFile.FieldType.int)) (mi_rq 7 1 6) D A (mi_W D A ad cf) [.ref (ad 0), .int (nI (a)), .int (nI (b)), .int (nI (k))] mi_IS 1 6 := by
  refine mi_startX (cc := cX4_set) (nL := 4) (ret := (some Jvm.ClassFile.FieldType.int)) rfl (by decide) (Nat.le_of_ble_eq_true rfl) ?_
  intro p e s m below meth c ls S E hW hS hr hk hno hl
  have S : CallFix p m c cX4_set 4 s _ ((Cond.code yX4_set cX4_set 4 (some Jvm.ClassFile.FieldType.int)) :: mi_G) RX4 := S
  have hl : lv_has ls 4 [(0, .ref (ad 0)), (1, .int (nI (a))), (2, .int (nI (b))), (3, .int (nI (k)))] := hl
  obtain ⟨⟨o1, o2, o3, o4, o5⟩, oP, oK, oD, oX, oC, oI⟩ := id hO
  obtain ⟨x0, x1, x2, x3, ⟨pm, pq, pn, xp⟩, xs, ⟨co, hrr, grr, xd, xc⟩, x9⟩ := id hX
  have hx0 := x0
  unfold rx_ob at hx0
  refine lv_iload_n S.1 S.2.1 dX4_set_0 rfl (lv_at hl 1 rfl) ?_
  refine mi_cV (mi_runS (P := mi_W D A ad cf) (As := [.int (nI (a))]) (rest := []) S E hS hW (c_checkColumn l D A (mi_W D A ad cf) (by omega)) mw_202 mw_200 mw_201 mw_18 ⟨by decide, by decide, by decide +kernel⟩ ⟨rfl, rfl, Nat.le_of_ble_eq_true rfl, Nat.le_of_ble_eq_true rfl⟩ (n := 1) rfl hl.1 rfl (Nat.le_of_ble_eq_true rfl) dX4_set_1 ⟨Nat.le_of_ble_eq_true rfl, Nat.le_of_ble_eq_true rfl⟩) ?_
  refine lv_iload_n S.1 S.2.1 dX4_set_4 rfl (lv_at hl 2 rfl) ?_
  refine mi_cV (mi_runS (P := mi_W D A ad cf) (As := [.int (nI (b))]) (rest := []) S E hS hW (c_checkLevel l D A (mi_W D A ad cf) (by omega)) mw_276 mw_274 mw_275 mw_18 ⟨by decide, by decide, by decide +kernel⟩ ⟨rfl, rfl, Nat.le_of_ble_eq_true rfl, Nat.le_of_ble_eq_true rfl⟩ (n := 1) rfl hl.1 rfl (Nat.le_of_ble_eq_true rfl) dX4_set_5 ⟨Nat.le_of_ble_eq_true rfl, Nat.le_of_ble_eq_true rfl⟩) ?_
  refine lv_iload_n S.1 S.2.1 dX4_set_8 rfl (lv_at hl 3 rfl) ?_
  refine mi_cV (mi_runS (P := mi_W D A ad cf) (As := [.int (nI (k))]) (rest := []) S E hS hW (c_checkKindOrAir l D A (mi_W D A ad cf) (by omega) (by omega)) mw_283 mw_281 mw_282 mw_18 ⟨by decide, by decide, by decide +kernel⟩ ⟨rfl, rfl, Nat.le_of_ble_eq_true rfl, Nat.le_of_ble_eq_true rfl⟩ (n := 1) rfl hl.1 rfl (Nat.le_of_ble_eq_true rfl) dX4_set_9 ⟨Nat.le_of_ble_eq_true rfl, Nat.le_of_ble_eq_true rfl⟩) ?_
  refine lv_aload_n S.1 S.2.1 dX4_set_12 rfl (lv_at hl 0 rfl) ?_
  refine mi_cTh (mi_runVX (P := mi_W D A ad cf) (As := []) (rest := []) S E hS hW (ad 0) (c_checkRoomForState_x l D A hst hX hO h61) (hW.recv E hx0 rfl) mw_303 mw_300 mw_302 mw_4 mw_18 ⟨by decide, by decide, by decide +kernel⟩ ⟨rfl, rfl, Nat.le_of_ble_eq_true rfl, Nat.le_of_ble_eq_true rfl⟩ (n := 0) rfl hl.1 rfl (Nat.le_of_ble_eq_true rfl) dX4_set_13 ⟨(by show _ ≤ (1 : Nat); omega), (by show _ ≤ (6 : Nat); omega)⟩) hS (fun ce q9 H locs hW hS h1 h2 h3 => ?_)
  exact mi_out hno hk hW hS h1 h2 h3 (by show _ ≤ (1 : Nat); omega) (by show _ ≤ (6 : Nat); omega)
set_option maxHeartbeats 4000000 in
set_option maxRecDepth 100000 in
theorem c_raise (l : Launch) (D : va_G) (A : Nat → Prop) {ad : Nat → Nat} {cf : Nat → Option va_E} {S0 : sT} (hX : RepX D S0 ad cf) (hO : st_ok S0) (hAu : ∀ a b, A a → a ≤ b → A b) {a : Nat} (ha : a < 16) {b : Nat} (hb : b ≤ 8) {k : Nat} (hk1 : 1 ≤ k) (hk4 : k < 4) (h61 : sN S0 < 61) : mi_Mi l yX4_raise (Cond.code yX4_raise cX4_raise 5 (some Jvm.ClassFile.FieldType.int)) (mi_rq 8 3 1131) D A (mi_W D A ad cf) [.ref (ad 0), .int (nI (a)), .int (nI (b)), .int (nI (k))] 3 1131 (fun r H => r = nI (sN S0) ∧ rx_P D A (st_new S0 (sp_ra (sK S0 (sW S0)) a b k 8)) ad cf H) := by
  refine mi_start (cc := cX4_raise) (nL := 5) (ret := (some Jvm.ClassFile.FieldType.int)) rfl (by decide) (Nat.le_of_ble_eq_true rfl) ?_
  intro p e s m below meth c ls S E hW hS hr hk hn hl
  have S : CallFix p m c cX4_raise 5 s _ ((Cond.code yX4_raise cX4_raise 5 (some Jvm.ClassFile.FieldType.int)) :: mi_G) RX4 := S
  have hl : lv_has ls 5 [(0, .ref (ad 0)), (1, .int (nI (a))), (2, .int (nI (b))), (3, .int (nI (k)))] := hl
  obtain ⟨⟨o1, o2, o3, o4, o5⟩, oP, oK, oD, oX, oC, oI⟩ := id hO
  obtain ⟨x0, x1, x2, x3, ⟨pm, pq, pn, xp⟩, xs, ⟨co, hrr, grr, xd, xc⟩, x9⟩ := id hX
  have hx0 := x0
  unfold rx_ob at hx0
  obtain ⟨hsn, hkn⟩ := xs (sW S0) o3
  have hKb : ∀ j, j < 128 → sK S0 (sW S0) j < 4 := fun j hj => oK _ _ o3 hj
  have hA : ∀ q, s.heap.size ≤ q → A q := hW.up hAu hx0
  refine lv_iload_n S.1 S.2.1 dX4_raise_0 rfl (lv_at hl 1 rfl) ?_
  refine mi_cV (mi_runS (P := mi_W D A ad cf) (As := [.int (nI (a))]) (rest := []) S E hS hW (c_checkColumn l D A (mi_W D A ad cf) (by omega)) mw_202 mw_200 mw_201 mw_18 ⟨by decide, by decide, by decide +kernel⟩ ⟨rfl, rfl, Nat.le_of_ble_eq_true rfl, Nat.le_of_ble_eq_true rfl⟩ (n := 1) rfl hl.1 rfl (Nat.le_of_ble_eq_true rfl) dX4_raise_1 ⟨Nat.le_of_ble_eq_true rfl, Nat.le_of_ble_eq_true rfl⟩) ?_
  refine lv_iload_n S.1 S.2.1 dX4_raise_4 rfl (lv_at hl 2 rfl) ?_
  refine mi_cV (mi_runS (P := mi_W D A ad cf) (As := [.int (nI (b))]) (rest := []) S E hS hW (c_checkHeight l D A (mi_W D A ad cf) (by omega) (by omega)) mw_365 mw_363 mw_364 mw_18 ⟨by decide, by decide, by decide +kernel⟩ ⟨rfl, rfl, Nat.le_of_ble_eq_true rfl, Nat.le_of_ble_eq_true rfl⟩ (n := 1) rfl hl.1 rfl (Nat.le_of_ble_eq_true rfl) dX4_raise_5 ⟨Nat.le_of_ble_eq_true rfl, Nat.le_of_ble_eq_true rfl⟩) ?_
  refine lv_iload_n S.1 S.2.1 dX4_raise_8 rfl (lv_at hl 3 rfl) ?_
  refine mi_cV (mi_runS (P := mi_W D A ad cf) (As := [.int (nI (k))]) (rest := []) S E hS hW (c_checkKindOfBlock l D A (mi_W D A ad cf) (by omega) (by omega)) mw_369 mw_367 mw_368 mw_18 ⟨by decide, by decide, by decide +kernel⟩ ⟨rfl, rfl, Nat.le_of_ble_eq_true rfl, Nat.le_of_ble_eq_true rfl⟩ (n := 1) rfl hl.1 rfl (Nat.le_of_ble_eq_true rfl) dX4_raise_9 ⟨Nat.le_of_ble_eq_true rfl, Nat.le_of_ble_eq_true rfl⟩) ?_
  refine lv_aload_n S.1 S.2.1 dX4_raise_12 rfl (lv_at hl 0 rfl) ?_
  refine mi_cV (mi_runV (P := mi_W D A ad cf) (As := []) (rest := []) S E hS hW (ad 0) (c_checkRoomForState l D A hX hO h61) (hW.recv E hx0 rfl) mw_303 mw_300 mw_302 mw_4 mw_18 ⟨by decide, by decide, by decide +kernel⟩ ⟨rfl, rfl, Nat.le_of_ble_eq_true rfl, Nat.le_of_ble_eq_true rfl⟩ (n := 0) rfl hl.1 rfl (Nat.le_of_ble_eq_true rfl) dX4_raise_13 ⟨Nat.le_of_ble_eq_true rfl, Nat.le_of_ble_eq_true rfl⟩) ?_
  refine lv_aload_n S.1 S.2.1 dX4_raise_16 rfl (lv_at hl 0 rfl) ?_
  refine mi_cMv (mi_runV (P := mi_W D A ad cf) (As := []) (rest := []) S E hS hW (ad 0) (c_beginState l D A hX hO hAu h61) (hW.recv E hx0 rfl) mw_327 mw_324 mw_326 mw_5 mw_18 ⟨by decide, by decide, by decide +kernel⟩ ⟨rfl, rfl, Nat.le_of_ble_eq_true rfl, Nat.le_of_ble_eq_true rfl⟩ (n := 0) rfl hl.1 rfl (Nat.le_of_ble_eq_true rfl) dX4_raise_17 ⟨(by show _ ≤ (3 : Nat); omega), (by show _ ≤ (1131 : Nat); omega)⟩) hS (fun H locs hp9 hS hz => ?_)
  obtain ⟨ad1, cf1, hW, hX1, hfr1, ha1⟩ := hp9
  have hx1 : cf1 0 = some (.inr (5, [.ref (ad1 1), .ref (ad1 2), .ref (ad1 3), .ref (ad1 4), .ref (ad1 (100 + 2 * sN S0))])) := hX1.1
  have hs1 := (hX1.2.2.2.2.2.1 (sN S0) (Nat.lt_succ_self _)).1
  refine lv_iconst (v := nI 0) S.1 S.2.1 dX4_raise_20 (by decide) ?_
  refine lv_istore (lv' := [(4, .int (nI (0))), (0, .ref (ad 0)), (1, .int (nI (a))), (2, .int (nI (b))), (3, .int (nI (k)))]) S.1 S.2.1 dX4_raise_21 hl (by decide) rfl (fun ls hl => ?_)
  have lp23 : ∀ (n23 : Nat) (cfv : Nat → Option va_E) (i : Nat) (H : Heap) (locs : List Loc) (ls : Array Slot), 8 - i < n23 → i ≤ 8 → RepX D (st_new S0 (sp_ra (sK S0 (sW S0)) a b k i)) ad1 cfv → (∀ k, 1000 ≤ k → cfv k = cf1 k) → mi_W D A ad1 cfv H → va_S A s.heap H locs → lv_has ls 5 [(0, .ref (ad 0)), (1, .int (nI (a))), (2, .int (nI (b))), (3, .int (nI (k))), (4, .int (nI (i)))] → W p l e (mi_rq 8 3 1131) s m ([.ref (ad 0), .int (nI (a)), .int (nI (b)), .int (nI (k))] : List Value).toArray below meth c H locs (0 + 3) (0 + 1131) (MQ below (mi_Qi A (fun r H => r = nI (sN S0) ∧ rx_P D A (st_new S0 (sp_ra (sK S0 (sW S0)) a b k 8)) ad cf H)) ([.ref (ad 0), .int (nI (a)), .int (nI (b)), .int (nI (k))] : List Value).toArray s 3 1131 A) (F0 m 23 ls []) := by
    intro n23
    induction n23 with
    | zero => intro cfv i H locs ls hm hi hXv hfv hW hS hl; exact absurd hm (Nat.not_lt_zero _)
    | succ n23 ih23 =>
      intro cfv i H locs ls hm hi hXv hfv hW hS hl
      have hxv : cfv 0 = some (.inr (5, [.ref (ad1 1), .ref (ad1 2), .ref (ad1 3), .ref (ad1 4), .ref (ad1 (100 + 2 * sN S0))])) := hXv.1
      have hsv := (hXv.2.2.2.2.2.1 (sN S0) (Nat.lt_succ_self _)).1
      refine lv_iload S.1 S.2.1 dX4_raise_23 (lv_at hl 4 rfl) ?_
      refine lv_bipush (v := nI 8) S.1 S.2.1 dX4_raise_25 (by decide) ?_
      refine mi_icmp_ge (tgt := 57) S (by omega) (by omega) dX4_raise_27 (by decide) (fun c27_1 => ?_) (fun c27_1 => ?_)
      · refine lv_aload_n S.1 S.2.1 dX4_raise_57 rfl (lv_at hl 0 rfl) ?_
        refine fg_X4_34 S E hW 0 ha1 hxv rfl dX4_raise_58 ?_
        refine fg_X4_62 S E hW ((100 + 2 * sN S0)) rfl hsv rfl dX4_raise_61 ?_
        exact mi_retMi S hr hk hS dX4_raise_64 (by show _ ≤ (3 : Nat); omega) (by show _ ≤ (1131 : Nat); omega) ⟨rfl, ad1, cfv, hW, (by rw [show i = 8 by omega] at hXv; exact hXv), fun k hk => ⟨((hfv k hk).trans (hfr1 k hk).1), (hfr1 k hk).2⟩, ha1⟩
      · refine lv_aload_n S.1 S.2.1 dX4_raise_30 rfl (lv_at hl 0 rfl) ?_
        refine fg_X4_34 S E hW 0 ha1 hxv rfl dX4_raise_31 ?_
        refine lv_iload_n S.1 S.2.1 dX4_raise_34 rfl (lv_at hl 1 rfl) ?_
        refine lv_iload S.1 S.2.1 dX4_raise_35 (lv_at hl 4 rfl) ?_
        refine lv_iload S.1 S.2.1 dX4_raise_37 (lv_at hl 4 rfl) ?_
        refine lv_iload_n S.1 S.2.1 dX4_raise_39 rfl (lv_at hl 2 rfl) ?_
        refine mi_icmp_ge (tgt := 47) S (by omega) (by omega) dX4_raise_40 (by decide) (fun c40_2 => ?_) (fun c40_2 => ?_)
        · refine lv_iconst (v := nI 0) S.1 S.2.1 dX4_raise_47 (by decide) ?_
          refine mi_cMv (mi_runV (P := mi_W D A ad1 cfv) (As := [.int (nI (a)), .int (nI (i)), .int (nI (0))]) (rest := []) S E hS hW (ad1 (100 + 2 * sN S0)) (c_putX l D A (S0 := st_new S0 (sp_ra (sK S0 (sW S0)) a b k i)) hXv (st_ok_new hO h61 (sp_ra_lt hKb hk4)) (by omega) (by omega)) (hW.recv E hsv rfl) mw_338 mw_335 mw_336 mw_337 mw_23 ⟨by decide, by decide, by decide +kernel⟩ ⟨rfl, rfl, Nat.le_of_ble_eq_true rfl, Nat.le_of_ble_eq_true rfl⟩ (n := 3) rfl hl.1 rfl (Nat.le_of_ble_eq_true rfl) dX4_raise_48 ⟨(by show _ ≤ (3 : Nat); omega), (by show _ ≤ (1131 : Nat); omega)⟩) hS (fun H locs hp9 hS hz => ?_)
          obtain ⟨cf4, hW, hX4, hfp4⟩ := hp9
          rw [st_put_new] at hX4
          have hx5 : cf4 0 = some (.inr (5, [.ref (ad1 1), .ref (ad1 2), .ref (ad1 3), .ref (ad1 4), .ref (ad1 (100 + 2 * sN S0))])) := hX4.1
          have hs5 := (hX4.2.2.2.2.2.1 (sN S0) (Nat.lt_succ_self _)).1
          refine lv_iinc (v := nI (i + 1)) (lv' := [(4, .int (nI (i + 1))), (0, .ref (ad 0)), (1, .int (nI (a))), (2, .int (nI (b))), (3, .int (nI (k)))]) S.1 S.2.1 dX4_raise_51 hl (k := 4) rfl (mi_inc _) (by decide) rfl (fun ls hl => ?_)
          refine lv_goto (tgt := 23) S.1 S.2.1 dX4_raise_54 (by decide) ?_
          exact ih23 cf4 (i + 1) _ _ _ (by omega) (by omega) (by have h9 := hX4; rw [sp_ra_2 (by omega)] at h9; exact h9) (fun k hk => (hfp4 k hk).trans (hfv k hk)) hW hS (lv_sub hl [1, 2, 3, 4, 0] rfl)
        · refine lv_iload_n S.1 S.2.1 dX4_raise_43 rfl (lv_at hl 3 rfl) ?_
          refine lv_goto (tgt := 48) S.1 S.2.1 dX4_raise_44 (by decide) ?_
          refine mi_cMv (mi_runV (P := mi_W D A ad1 cfv) (As := [.int (nI (a)), .int (nI (i)), .int (nI (k))]) (rest := []) S E hS hW (ad1 (100 + 2 * sN S0)) (c_putX l D A (S0 := st_new S0 (sp_ra (sK S0 (sW S0)) a b k i)) hXv (st_ok_new hO h61 (sp_ra_lt hKb hk4)) (by omega) (by omega)) (hW.recv E hsv rfl) mw_338 mw_335 mw_336 mw_337 mw_23 ⟨by decide, by decide, by decide +kernel⟩ ⟨rfl, rfl, Nat.le_of_ble_eq_true rfl, Nat.le_of_ble_eq_true rfl⟩ (n := 3) rfl hl.1 rfl (Nat.le_of_ble_eq_true rfl) dX4_raise_48 ⟨(by show _ ≤ (3 : Nat); omega), (by show _ ≤ (1131 : Nat); omega)⟩) hS (fun H locs hp9 hS hz => ?_)
          obtain ⟨cf6, hW, hX6, hfp6⟩ := hp9
          rw [st_put_new] at hX6
          have hx7 : cf6 0 = some (.inr (5, [.ref (ad1 1), .ref (ad1 2), .ref (ad1 3), .ref (ad1 4), .ref (ad1 (100 + 2 * sN S0))])) := hX6.1
          have hs7 := (hX6.2.2.2.2.2.1 (sN S0) (Nat.lt_succ_self _)).1
          refine lv_iinc (v := nI (i + 1)) (lv' := [(4, .int (nI (i + 1))), (0, .ref (ad 0)), (1, .int (nI (a))), (2, .int (nI (b))), (3, .int (nI (k)))]) S.1 S.2.1 dX4_raise_51 hl (k := 4) rfl (mi_inc _) (by decide) rfl (fun ls hl => ?_)
          refine lv_goto (tgt := 23) S.1 S.2.1 dX4_raise_54 (by decide) ?_
          exact ih23 cf6 (i + 1) _ _ _ (by omega) (by omega) (by have h9 := hX6; rw [sp_ra_1 (by omega)] at h9; exact h9) (fun k hk => (hfp6 k hk).trans (hfv k hk)) hW hS (lv_sub hl [1, 2, 3, 4, 0] rfl)
  exact lp23 _ cf1 0 _ _ _ (Nat.lt_succ_self _) (by omega) (by rw [sp_ra_0]; exact hX1) (fun _ _ => rfl) hW hS (lv_sub hl [1, 2, 3, 4, 0] rfl)
set_option maxHeartbeats 4000000 in
set_option maxRecDepth 100000 in
theorem c_raise_x1 (l : Launch) (D : va_G) (A : Nat → Prop) (hst : l.stackTraces = false) {ad : Nat → Nat} {cf : Nat → Option va_E} {S0 : sT} (hX : RepX D S0 ad cf) (hO : st_ok S0) {x : Int32} (hx : ¬ (0 ≤ x.toInt ∧ x.toInt < 16)) {y z : Int32} : mi_Th l yX4_raise (Cond.code yX4_raise cX4_raise 5 (some Jvm.ClassFile.FieldType.int)) (mi_rq 7 1 6) D A (mi_W D A ad cf) [.ref (ad 0), .int (x), .int (y), .int (z)] mi_IO 1 6 := by
  refine mi_startX (cc := cX4_raise) (nL := 5) (ret := (some Jvm.ClassFile.FieldType.int)) rfl (by decide) (Nat.le_of_ble_eq_true rfl) ?_
  intro p e s m below meth c ls S E hW hS hr hk hno hl
  have S : CallFix p m c cX4_raise 5 s _ ((Cond.code yX4_raise cX4_raise 5 (some Jvm.ClassFile.FieldType.int)) :: mi_G) RX4 := S
  have hl : lv_has ls 5 [(0, .ref (ad 0)), (1, .int (x)), (2, .int (y)), (3, .int (z))] := hl
  refine lv_iload_n S.1 S.2.1 dX4_raise_0 rfl (lv_at hl 1 rfl) ?_
  refine mi_cTh (mi_runSX (P := mi_W D A ad cf) (As := [.int (x)]) (rest := []) S E hS hW (c_checkColumn_x l D A hst hx) mw_202 mw_200 mw_201 mw_18 ⟨by decide, by decide, by decide +kernel⟩ ⟨rfl, rfl, Nat.le_of_ble_eq_true rfl, Nat.le_of_ble_eq_true rfl⟩ (n := 1) rfl hl.1 rfl (Nat.le_of_ble_eq_true rfl) dX4_raise_1 ⟨(by show _ ≤ (1 : Nat); omega), (by show _ ≤ (6 : Nat); omega)⟩) hS (fun ce q9 H locs hW hS h1 h2 h3 => ?_)
  exact mi_out hno hk hW hS h1 h2 h3 (by show _ ≤ (1 : Nat); omega) (by show _ ≤ (6 : Nat); omega)
set_option maxHeartbeats 4000000 in
set_option maxRecDepth 100000 in
theorem c_raise_x2 (l : Launch) (D : va_G) (A : Nat → Prop) (hst : l.stackTraces = false) {ad : Nat → Nat} {cf : Nat → Option va_E} {S0 : sT} (hX : RepX D S0 ad cf) (hO : st_ok S0) {a : Nat} (ha : a < 16) {x : Int32} (hx : ¬ (0 ≤ x.toInt ∧ x.toInt ≤ 8)) {z : Int32} : mi_Th l yX4_raise (Cond.code yX4_raise cX4_raise 5 (some Jvm.ClassFile.FieldType.int)) (mi_rq 7 1 6) D A (mi_W D A ad cf) [.ref (ad 0), .int (nI (a)), .int (x), .int (z)] mi_IA 1 6 := by
  refine mi_startX (cc := cX4_raise) (nL := 5) (ret := (some Jvm.ClassFile.FieldType.int)) rfl (by decide) (Nat.le_of_ble_eq_true rfl) ?_
  intro p e s m below meth c ls S E hW hS hr hk hno hl
  have S : CallFix p m c cX4_raise 5 s _ ((Cond.code yX4_raise cX4_raise 5 (some Jvm.ClassFile.FieldType.int)) :: mi_G) RX4 := S
  have hl : lv_has ls 5 [(0, .ref (ad 0)), (1, .int (nI (a))), (2, .int (x)), (3, .int (z))] := hl
  refine lv_iload_n S.1 S.2.1 dX4_raise_0 rfl (lv_at hl 1 rfl) ?_
  refine mi_cV (mi_runS (P := mi_W D A ad cf) (As := [.int (nI (a))]) (rest := []) S E hS hW (c_checkColumn l D A (mi_W D A ad cf) (by omega)) mw_202 mw_200 mw_201 mw_18 ⟨by decide, by decide, by decide +kernel⟩ ⟨rfl, rfl, Nat.le_of_ble_eq_true rfl, Nat.le_of_ble_eq_true rfl⟩ (n := 1) rfl hl.1 rfl (Nat.le_of_ble_eq_true rfl) dX4_raise_1 ⟨Nat.le_of_ble_eq_true rfl, Nat.le_of_ble_eq_true rfl⟩) ?_
  refine lv_iload_n S.1 S.2.1 dX4_raise_4 rfl (lv_at hl 2 rfl) ?_
  refine mi_cTh (mi_runSX (P := mi_W D A ad cf) (As := [.int (x)]) (rest := []) S E hS hW (c_checkHeight_x l D A hst hx) mw_365 mw_363 mw_364 mw_18 ⟨by decide, by decide, by decide +kernel⟩ ⟨rfl, rfl, Nat.le_of_ble_eq_true rfl, Nat.le_of_ble_eq_true rfl⟩ (n := 1) rfl hl.1 rfl (Nat.le_of_ble_eq_true rfl) dX4_raise_5 ⟨(by show _ ≤ (1 : Nat); omega), (by show _ ≤ (6 : Nat); omega)⟩) hS (fun ce q9 H locs hW hS h1 h2 h3 => ?_)
  exact mi_out hno hk hW hS h1 h2 h3 (by show _ ≤ (1 : Nat); omega) (by show _ ≤ (6 : Nat); omega)
set_option maxHeartbeats 4000000 in
set_option maxRecDepth 100000 in
theorem c_raise_x3 (l : Launch) (D : va_G) (A : Nat → Prop) (hst : l.stackTraces = false) {ad : Nat → Nat} {cf : Nat → Option va_E} {S0 : sT} (hX : RepX D S0 ad cf) (hO : st_ok S0) {a : Nat} (ha : a < 16) {b : Nat} (hb : b ≤ 8) {x : Int32} (hx : ¬ (1 ≤ x.toInt ∧ x.toInt ≤ 3)) : mi_Th l yX4_raise (Cond.code yX4_raise cX4_raise 5 (some Jvm.ClassFile.FieldType.int)) (mi_rq 7 1 6) D A (mi_W D A ad cf) [.ref (ad 0), .int (nI (a)), .int (nI (b)), .int (x)] mi_IA 1 6 := by
  refine mi_startX (cc := cX4_raise) (nL := 5) (ret := (some Jvm.ClassFile.FieldType.int)) rfl (by decide) (Nat.le_of_ble_eq_true rfl) ?_
  intro p e s m below meth c ls S E hW hS hr hk hno hl
  have S : CallFix p m c cX4_raise 5 s _ ((Cond.code yX4_raise cX4_raise 5 (some Jvm.ClassFile.FieldType.int)) :: mi_G) RX4 := S
  have hl : lv_has ls 5 [(0, .ref (ad 0)), (1, .int (nI (a))), (2, .int (nI (b))), (3, .int (x))] := hl
  refine lv_iload_n S.1 S.2.1 dX4_raise_0 rfl (lv_at hl 1 rfl) ?_
  refine mi_cV (mi_runS (P := mi_W D A ad cf) (As := [.int (nI (a))]) (rest := []) S E hS hW (c_checkColumn l D A (mi_W D A ad cf) (by omega)) mw_202 mw_200 mw_201 mw_18 ⟨by decide, by decide, by decide +kernel⟩ ⟨rfl, rfl, Nat.le_of_ble_eq_true rfl, Nat.le_of_ble_eq_true rfl⟩ (n := 1) rfl hl.1 rfl (Nat.le_of_ble_eq_true rfl) dX4_raise_1 ⟨Nat.le_of_ble_eq_true rfl, Nat.le_of_ble_eq_true rfl⟩) ?_
  refine lv_iload_n S.1 S.2.1 dX4_raise_4 rfl (lv_at hl 2 rfl) ?_
  refine mi_cV (mi_runS (P := mi_W D A ad cf) (As := [.int (nI (b))]) (rest := []) S E hS hW (c_checkHeight l D A (mi_W D A ad cf) (by omega) (by omega)) mw_365 mw_363 mw_364 mw_18 ⟨by decide, by decide, by decide +kernel⟩ ⟨rfl, rfl, Nat.le_of_ble_eq_true rfl, Nat.le_of_ble_eq_true rfl⟩ (n := 1) rfl hl.1 rfl (Nat.le_of_ble_eq_true rfl) dX4_raise_5 ⟨Nat.le_of_ble_eq_true rfl, Nat.le_of_ble_eq_true rfl⟩) ?_
  refine lv_iload_n S.1 S.2.1 dX4_raise_8 rfl (lv_at hl 3 rfl) ?_
  refine mi_cTh (mi_runSX (P := mi_W D A ad cf) (As := [.int (x)]) (rest := []) S E hS hW (c_checkKindOfBlock_x l D A hst hx) mw_369 mw_367 mw_368 mw_18 ⟨by decide, by decide, by decide +kernel⟩ ⟨rfl, rfl, Nat.le_of_ble_eq_true rfl, Nat.le_of_ble_eq_true rfl⟩ (n := 1) rfl hl.1 rfl (Nat.le_of_ble_eq_true rfl) dX4_raise_9 ⟨(by show _ ≤ (1 : Nat); omega), (by show _ ≤ (6 : Nat); omega)⟩) hS (fun ce q9 H locs hW hS h1 h2 h3 => ?_)
  exact mi_out hno hk hW hS h1 h2 h3 (by show _ ≤ (1 : Nat); omega) (by show _ ≤ (6 : Nat); omega)
set_option maxHeartbeats 4000000 in
set_option maxRecDepth 100000 in
theorem c_raise_x4 (l : Launch) (D : va_G) (A : Nat → Prop) (hst : l.stackTraces = false) {ad : Nat → Nat} {cf : Nat → Option va_E} {S0 : sT} (hX : RepX D S0 ad cf) (hO : st_ok S0) {a : Nat} (ha : a < 16) {b : Nat} (hb : b ≤ 8) {k : Nat} (hk1 : 1 ≤ k) (hk4 : k < 4) (h61 : sN S0 = 61) : mi_Th l yX4_raise (Cond.code yX4_raise cX4_raise 5 (some Jvm.ClassFile.FieldType.int)) (mi_rq 7 1 6) D A (mi_W D A ad cf) [.ref (ad 0), .int (nI (a)), .int (nI (b)), .int (nI (k))] mi_IS 1 6 := by
  refine mi_startX (cc := cX4_raise) (nL := 5) (ret := (some Jvm.ClassFile.FieldType.int)) rfl (by decide) (Nat.le_of_ble_eq_true rfl) ?_
  intro p e s m below meth c ls S E hW hS hr hk hno hl
  have S : CallFix p m c cX4_raise 5 s _ ((Cond.code yX4_raise cX4_raise 5 (some Jvm.ClassFile.FieldType.int)) :: mi_G) RX4 := S
  have hl : lv_has ls 5 [(0, .ref (ad 0)), (1, .int (nI (a))), (2, .int (nI (b))), (3, .int (nI (k)))] := hl
  obtain ⟨⟨o1, o2, o3, o4, o5⟩, oP, oK, oD, oX, oC, oI⟩ := id hO
  obtain ⟨x0, x1, x2, x3, ⟨pm, pq, pn, xp⟩, xs, ⟨co, hrr, grr, xd, xc⟩, x9⟩ := id hX
  have hx0 := x0
  unfold rx_ob at hx0
  refine lv_iload_n S.1 S.2.1 dX4_raise_0 rfl (lv_at hl 1 rfl) ?_
  refine mi_cV (mi_runS (P := mi_W D A ad cf) (As := [.int (nI (a))]) (rest := []) S E hS hW (c_checkColumn l D A (mi_W D A ad cf) (by omega)) mw_202 mw_200 mw_201 mw_18 ⟨by decide, by decide, by decide +kernel⟩ ⟨rfl, rfl, Nat.le_of_ble_eq_true rfl, Nat.le_of_ble_eq_true rfl⟩ (n := 1) rfl hl.1 rfl (Nat.le_of_ble_eq_true rfl) dX4_raise_1 ⟨Nat.le_of_ble_eq_true rfl, Nat.le_of_ble_eq_true rfl⟩) ?_
  refine lv_iload_n S.1 S.2.1 dX4_raise_4 rfl (lv_at hl 2 rfl) ?_
  refine mi_cV (mi_runS (P := mi_W D A ad cf) (As := [.int (nI (b))]) (rest := []) S E hS hW (c_checkHeight l D A (mi_W D A ad cf) (by omega) (by omega)) mw_365 mw_363 mw_364 mw_18 ⟨by decide, by decide, by decide +kernel⟩ ⟨rfl, rfl, Nat.le_of_ble_eq_true rfl, Nat.le_of_ble_eq_true rfl⟩ (n := 1) rfl hl.1 rfl (Nat.le_of_ble_eq_true rfl) dX4_raise_5 ⟨Nat.le_of_ble_eq_true rfl, Nat.le_of_ble_eq_true rfl⟩) ?_
  refine lv_iload_n S.1 S.2.1 dX4_raise_8 rfl (lv_at hl 3 rfl) ?_
  refine mi_cV (mi_runS (P := mi_W D A ad cf) (As := [.int (nI (k))]) (rest := []) S E hS hW (c_checkKindOfBlock l D A (mi_W D A ad cf) (by omega) (by omega)) mw_369 mw_367 mw_368 mw_18 ⟨by decide, by decide, by decide +kernel⟩ ⟨rfl, rfl, Nat.le_of_ble_eq_true rfl, Nat.le_of_ble_eq_true rfl⟩ (n := 1) rfl hl.1 rfl (Nat.le_of_ble_eq_true rfl) dX4_raise_9 ⟨Nat.le_of_ble_eq_true rfl, Nat.le_of_ble_eq_true rfl⟩) ?_
  refine lv_aload_n S.1 S.2.1 dX4_raise_12 rfl (lv_at hl 0 rfl) ?_
  refine mi_cTh (mi_runVX (P := mi_W D A ad cf) (As := []) (rest := []) S E hS hW (ad 0) (c_checkRoomForState_x l D A hst hX hO h61) (hW.recv E hx0 rfl) mw_303 mw_300 mw_302 mw_4 mw_18 ⟨by decide, by decide, by decide +kernel⟩ ⟨rfl, rfl, Nat.le_of_ble_eq_true rfl, Nat.le_of_ble_eq_true rfl⟩ (n := 0) rfl hl.1 rfl (Nat.le_of_ble_eq_true rfl) dX4_raise_13 ⟨(by show _ ≤ (1 : Nat); omega), (by show _ ≤ (6 : Nat); omega)⟩) hS (fun ce q9 H locs hW hS h1 h2 h3 => ?_)
  exact mi_out hno hk hW hS h1 h2 h3 (by show _ ≤ (1 : Nat); omega) (by show _ ≤ (6 : Nat); omega)
set_option maxHeartbeats 4000000 in
set_option maxRecDepth 100000 in
theorem c_layer (l : Launch) (D : va_G) (A : Nat → Prop) {ad : Nat → Nat} {cf : Nat → Option va_E} {S0 : sT} (hX : RepX D S0 ad cf) (hO : st_ok S0) (hAu : ∀ a b, A a → a ≤ b → A b) {b : Nat} (hb : b < 8) {k : Nat} (hk4 : k < 4) (h61 : sN S0 < 61) : mi_Mi l yX4_layer (Cond.code yX4_layer cX4_layer 4 (some Jvm.ClassFile.FieldType.int)) (mi_rq 8 3 1131) D A (mi_W D A ad cf) [.ref (ad 0), .int (nI (b)), .int (nI (k))] 3 1131 (fun r H => r = nI (sN S0) ∧ rx_P D A (st_new S0 (sp_la (sK S0 (sW S0)) b k 16)) ad cf H) := by
  refine mi_start (cc := cX4_layer) (nL := 4) (ret := (some Jvm.ClassFile.FieldType.int)) rfl (by decide) (Nat.le_of_ble_eq_true rfl) ?_
  intro p e s m below meth c ls S E hW hS hr hk hn hl
  have S : CallFix p m c cX4_layer 4 s _ ((Cond.code yX4_layer cX4_layer 4 (some Jvm.ClassFile.FieldType.int)) :: mi_G) RX4 := S
  have hl : lv_has ls 4 [(0, .ref (ad 0)), (1, .int (nI (b))), (2, .int (nI (k)))] := hl
  obtain ⟨⟨o1, o2, o3, o4, o5⟩, oP, oK, oD, oX, oC, oI⟩ := id hO
  obtain ⟨x0, x1, x2, x3, ⟨pm, pq, pn, xp⟩, xs, ⟨co, hrr, grr, xd, xc⟩, x9⟩ := id hX
  have hx0 := x0
  unfold rx_ob at hx0
  obtain ⟨hsn, hkn⟩ := xs (sW S0) o3
  have hKb : ∀ j, j < 128 → sK S0 (sW S0) j < 4 := fun j hj => oK _ _ o3 hj
  have hA : ∀ q, s.heap.size ≤ q → A q := hW.up hAu hx0
  refine lv_iload_n S.1 S.2.1 dX4_layer_0 rfl (lv_at hl 1 rfl) ?_
  refine mi_cV (mi_runS (P := mi_W D A ad cf) (As := [.int (nI (b))]) (rest := []) S E hS hW (c_checkLevel l D A (mi_W D A ad cf) (by omega)) mw_276 mw_274 mw_275 mw_18 ⟨by decide, by decide, by decide +kernel⟩ ⟨rfl, rfl, Nat.le_of_ble_eq_true rfl, Nat.le_of_ble_eq_true rfl⟩ (n := 1) rfl hl.1 rfl (Nat.le_of_ble_eq_true rfl) dX4_layer_1 ⟨Nat.le_of_ble_eq_true rfl, Nat.le_of_ble_eq_true rfl⟩) ?_
  refine lv_iload_n S.1 S.2.1 dX4_layer_4 rfl (lv_at hl 2 rfl) ?_
  refine mi_cV (mi_runS (P := mi_W D A ad cf) (As := [.int (nI (k))]) (rest := []) S E hS hW (c_checkKindOrAir l D A (mi_W D A ad cf) (by omega) (by omega)) mw_283 mw_281 mw_282 mw_18 ⟨by decide, by decide, by decide +kernel⟩ ⟨rfl, rfl, Nat.le_of_ble_eq_true rfl, Nat.le_of_ble_eq_true rfl⟩ (n := 1) rfl hl.1 rfl (Nat.le_of_ble_eq_true rfl) dX4_layer_5 ⟨Nat.le_of_ble_eq_true rfl, Nat.le_of_ble_eq_true rfl⟩) ?_
  refine lv_aload_n S.1 S.2.1 dX4_layer_8 rfl (lv_at hl 0 rfl) ?_
  refine mi_cV (mi_runV (P := mi_W D A ad cf) (As := []) (rest := []) S E hS hW (ad 0) (c_checkRoomForState l D A hX hO h61) (hW.recv E hx0 rfl) mw_303 mw_300 mw_302 mw_4 mw_18 ⟨by decide, by decide, by decide +kernel⟩ ⟨rfl, rfl, Nat.le_of_ble_eq_true rfl, Nat.le_of_ble_eq_true rfl⟩ (n := 0) rfl hl.1 rfl (Nat.le_of_ble_eq_true rfl) dX4_layer_9 ⟨Nat.le_of_ble_eq_true rfl, Nat.le_of_ble_eq_true rfl⟩) ?_
  refine lv_aload_n S.1 S.2.1 dX4_layer_12 rfl (lv_at hl 0 rfl) ?_
  refine mi_cMv (mi_runV (P := mi_W D A ad cf) (As := []) (rest := []) S E hS hW (ad 0) (c_beginState l D A hX hO hAu h61) (hW.recv E hx0 rfl) mw_327 mw_324 mw_326 mw_5 mw_18 ⟨by decide, by decide, by decide +kernel⟩ ⟨rfl, rfl, Nat.le_of_ble_eq_true rfl, Nat.le_of_ble_eq_true rfl⟩ (n := 0) rfl hl.1 rfl (Nat.le_of_ble_eq_true rfl) dX4_layer_13 ⟨(by show _ ≤ (3 : Nat); omega), (by show _ ≤ (1131 : Nat); omega)⟩) hS (fun H locs hp9 hS hz => ?_)
  obtain ⟨ad1, cf1, hW, hX1, hfr1, ha1⟩ := hp9
  have hx1 : cf1 0 = some (.inr (5, [.ref (ad1 1), .ref (ad1 2), .ref (ad1 3), .ref (ad1 4), .ref (ad1 (100 + 2 * sN S0))])) := hX1.1
  have hs1 := (hX1.2.2.2.2.2.1 (sN S0) (Nat.lt_succ_self _)).1
  refine lv_iconst (v := nI 0) S.1 S.2.1 dX4_layer_16 (by decide) ?_
  refine lv_istore_n (lv' := [(3, .int (nI (0))), (0, .ref (ad 0)), (1, .int (nI (b))), (2, .int (nI (k)))]) S.1 S.2.1 dX4_layer_17 rfl hl (by decide) rfl (fun ls hl => ?_)
  have lp18 : ∀ (n18 : Nat) (cfv : Nat → Option va_E) (i : Nat) (H : Heap) (locs : List Loc) (ls : Array Slot), 16 - i < n18 → i ≤ 16 → RepX D (st_new S0 (sp_la (sK S0 (sW S0)) b k i)) ad1 cfv → (∀ k, 1000 ≤ k → cfv k = cf1 k) → mi_W D A ad1 cfv H → va_S A s.heap H locs → lv_has ls 4 [(0, .ref (ad 0)), (1, .int (nI (b))), (2, .int (nI (k))), (3, .int (nI (i)))] → W p l e (mi_rq 8 3 1131) s m ([.ref (ad 0), .int (nI (b)), .int (nI (k))] : List Value).toArray below meth c H locs (0 + 3) (0 + 1131) (MQ below (mi_Qi A (fun r H => r = nI (sN S0) ∧ rx_P D A (st_new S0 (sp_la (sK S0 (sW S0)) b k 16)) ad cf H)) ([.ref (ad 0), .int (nI (b)), .int (nI (k))] : List Value).toArray s 3 1131 A) (F0 m 18 ls []) := by
    intro n18
    induction n18 with
    | zero => intro cfv i H locs ls hm hi hXv hfv hW hS hl; exact absurd hm (Nat.not_lt_zero _)
    | succ n18 ih18 =>
      intro cfv i H locs ls hm hi hXv hfv hW hS hl
      have hxv : cfv 0 = some (.inr (5, [.ref (ad1 1), .ref (ad1 2), .ref (ad1 3), .ref (ad1 4), .ref (ad1 (100 + 2 * sN S0))])) := hXv.1
      have hsv := (hXv.2.2.2.2.2.1 (sN S0) (Nat.lt_succ_self _)).1
      refine lv_iload_n S.1 S.2.1 dX4_layer_18 rfl (lv_at hl 3 rfl) ?_
      refine lv_bipush (v := nI 16) S.1 S.2.1 dX4_layer_19 (by decide) ?_
      refine mi_icmp_ge (tgt := 40) S (by omega) (by omega) dX4_layer_21 (by decide) (fun c21_1 => ?_) (fun c21_1 => ?_)
      · refine lv_aload_n S.1 S.2.1 dX4_layer_40 rfl (lv_at hl 0 rfl) ?_
        refine fg_X4_34 S E hW 0 ha1 hxv rfl dX4_layer_41 ?_
        refine fg_X4_62 S E hW ((100 + 2 * sN S0)) rfl hsv rfl dX4_layer_44 ?_
        exact mi_retMi S hr hk hS dX4_layer_47 (by show _ ≤ (3 : Nat); omega) (by show _ ≤ (1131 : Nat); omega) ⟨rfl, ad1, cfv, hW, (by rw [show i = 16 by omega] at hXv; exact hXv), fun k hk => ⟨((hfv k hk).trans (hfr1 k hk).1), (hfr1 k hk).2⟩, ha1⟩
      · refine lv_aload_n S.1 S.2.1 dX4_layer_24 rfl (lv_at hl 0 rfl) ?_
        refine fg_X4_34 S E hW 0 ha1 hxv rfl dX4_layer_25 ?_
        refine lv_iload_n S.1 S.2.1 dX4_layer_28 rfl (lv_at hl 3 rfl) ?_
        refine lv_iload_n S.1 S.2.1 dX4_layer_29 rfl (lv_at hl 1 rfl) ?_
        refine lv_iload_n S.1 S.2.1 dX4_layer_30 rfl (lv_at hl 2 rfl) ?_
        refine mi_cMv (mi_runV (P := mi_W D A ad1 cfv) (As := [.int (nI (i)), .int (nI (b)), .int (nI (k))]) (rest := []) S E hS hW (ad1 (100 + 2 * sN S0)) (c_putX l D A (S0 := st_new S0 (sp_la (sK S0 (sW S0)) b k i)) hXv (st_ok_new hO h61 (sp_la_lt hKb hk4)) (by omega) (by omega)) (hW.recv E hsv rfl) mw_338 mw_335 mw_336 mw_337 mw_23 ⟨by decide, by decide, by decide +kernel⟩ ⟨rfl, rfl, Nat.le_of_ble_eq_true rfl, Nat.le_of_ble_eq_true rfl⟩ (n := 3) rfl hl.1 rfl (Nat.le_of_ble_eq_true rfl) dX4_layer_31 ⟨(by show _ ≤ (3 : Nat); omega), (by show _ ≤ (1131 : Nat); omega)⟩) hS (fun H locs hp9 hS hz => ?_)
        obtain ⟨cf3, hW, hX3, hfp3⟩ := hp9
        rw [st_put_new] at hX3
        have hx4 : cf3 0 = some (.inr (5, [.ref (ad1 1), .ref (ad1 2), .ref (ad1 3), .ref (ad1 4), .ref (ad1 (100 + 2 * sN S0))])) := hX3.1
        have hs4 := (hX3.2.2.2.2.2.1 (sN S0) (Nat.lt_succ_self _)).1
        refine lv_iinc (v := nI (i + 1)) (lv' := [(3, .int (nI (i + 1))), (0, .ref (ad 0)), (1, .int (nI (b))), (2, .int (nI (k)))]) S.1 S.2.1 dX4_layer_34 hl (k := 3) rfl (mi_inc _) (by decide) rfl (fun ls hl => ?_)
        refine lv_goto (tgt := 18) S.1 S.2.1 dX4_layer_37 (by decide) ?_
        exact ih18 cf3 (i + 1) _ _ _ (by omega) (by omega) (by have h9 := hX3; rw [sp_la_1 (by omega)] at h9; exact h9) (fun k hk => (hfp3 k hk).trans (hfv k hk)) hW hS (lv_sub hl [1, 2, 3, 0] rfl)
  exact lp18 _ cf1 0 _ _ _ (Nat.lt_succ_self _) (by omega) (by rw [sp_la_0]; exact hX1) (fun _ _ => rfl) hW hS (lv_sub hl [1, 2, 3, 0] rfl)
set_option maxHeartbeats 4000000 in
set_option maxRecDepth 100000 in
theorem c_layer_x1 (l : Launch) (D : va_G) (A : Nat → Prop) (hst : l.stackTraces = false) {ad : Nat → Nat} {cf : Nat → Option va_E} {S0 : sT} (hX : RepX D S0 ad cf) (hO : st_ok S0) {x : Int32} (hx : ¬ (0 ≤ x.toInt ∧ x.toInt < 8)) {y : Int32} : mi_Th l yX4_layer (Cond.code yX4_layer cX4_layer 4 (some Jvm.ClassFile.FieldType.int)) (mi_rq 7 1 6) D A (mi_W D A ad cf) [.ref (ad 0), .int (x), .int (y)] mi_IO 1 6 := by
  refine mi_startX (cc := cX4_layer) (nL := 4) (ret := (some Jvm.ClassFile.FieldType.int)) rfl (by decide) (Nat.le_of_ble_eq_true rfl) ?_
  intro p e s m below meth c ls S E hW hS hr hk hno hl
  have S : CallFix p m c cX4_layer 4 s _ ((Cond.code yX4_layer cX4_layer 4 (some Jvm.ClassFile.FieldType.int)) :: mi_G) RX4 := S
  have hl : lv_has ls 4 [(0, .ref (ad 0)), (1, .int (x)), (2, .int (y))] := hl
  refine lv_iload_n S.1 S.2.1 dX4_layer_0 rfl (lv_at hl 1 rfl) ?_
  refine mi_cTh (mi_runSX (P := mi_W D A ad cf) (As := [.int (x)]) (rest := []) S E hS hW (c_checkLevel_x l D A hst hx) mw_276 mw_274 mw_275 mw_18 ⟨by decide, by decide, by decide +kernel⟩ ⟨rfl, rfl, Nat.le_of_ble_eq_true rfl, Nat.le_of_ble_eq_true rfl⟩ (n := 1) rfl hl.1 rfl (Nat.le_of_ble_eq_true rfl) dX4_layer_1 ⟨(by show _ ≤ (1 : Nat); omega), (by show _ ≤ (6 : Nat); omega)⟩) hS (fun ce q9 H locs hW hS h1 h2 h3 => ?_)
  exact mi_out hno hk hW hS h1 h2 h3 (by show _ ≤ (1 : Nat); omega) (by show _ ≤ (6 : Nat); omega)
set_option maxHeartbeats 4000000 in
set_option maxRecDepth 100000 in
theorem c_layer_x2 (l : Launch) (D : va_G) (A : Nat → Prop) (hst : l.stackTraces = false) {ad : Nat → Nat} {cf : Nat → Option va_E} {S0 : sT} (hX : RepX D S0 ad cf) (hO : st_ok S0) {b : Nat} (hb : b < 8) {x : Int32} (hx : ¬ (0 ≤ x.toInt ∧ x.toInt ≤ 3)) : mi_Th l yX4_layer (Cond.code yX4_layer cX4_layer 4 (some Jvm.ClassFile.FieldType.int)) (mi_rq 7 1 6) D A (mi_W D A ad cf) [.ref (ad 0), .int (nI (b)), .int (x)] mi_IA 1 6 := by
  refine mi_startX (cc := cX4_layer) (nL := 4) (ret := (some Jvm.ClassFile.FieldType.int)) rfl (by decide) (Nat.le_of_ble_eq_true rfl) ?_
  intro p e s m below meth c ls S E hW hS hr hk hno hl
  have S : CallFix p m c cX4_layer 4 s _ ((Cond.code yX4_layer cX4_layer 4 (some Jvm.ClassFile.FieldType.int)) :: mi_G) RX4 := S
  have hl : lv_has ls 4 [(0, .ref (ad 0)), (1, .int (nI (b))), (2, .int (x))] := hl
  refine lv_iload_n S.1 S.2.1 dX4_layer_0 rfl (lv_at hl 1 rfl) ?_
  refine mi_cV (mi_runS (P := mi_W D A ad cf) (As := [.int (nI (b))]) (rest := []) S E hS hW (c_checkLevel l D A (mi_W D A ad cf) (by omega)) mw_276 mw_274 mw_275 mw_18 ⟨by decide, by decide, by decide +kernel⟩ ⟨rfl, rfl, Nat.le_of_ble_eq_true rfl, Nat.le_of_ble_eq_true rfl⟩ (n := 1) rfl hl.1 rfl (Nat.le_of_ble_eq_true rfl) dX4_layer_1 ⟨Nat.le_of_ble_eq_true rfl, Nat.le_of_ble_eq_true rfl⟩) ?_
  refine lv_iload_n S.1 S.2.1 dX4_layer_4 rfl (lv_at hl 2 rfl) ?_
  refine mi_cTh (mi_runSX (P := mi_W D A ad cf) (As := [.int (x)]) (rest := []) S E hS hW (c_checkKindOrAir_x l D A hst hx) mw_283 mw_281 mw_282 mw_18 ⟨by decide, by decide, by decide +kernel⟩ ⟨rfl, rfl, Nat.le_of_ble_eq_true rfl, Nat.le_of_ble_eq_true rfl⟩ (n := 1) rfl hl.1 rfl (Nat.le_of_ble_eq_true rfl) dX4_layer_5 ⟨(by show _ ≤ (1 : Nat); omega), (by show _ ≤ (6 : Nat); omega)⟩) hS (fun ce q9 H locs hW hS h1 h2 h3 => ?_)
  exact mi_out hno hk hW hS h1 h2 h3 (by show _ ≤ (1 : Nat); omega) (by show _ ≤ (6 : Nat); omega)
set_option maxHeartbeats 4000000 in
set_option maxRecDepth 100000 in
theorem c_layer_x3 (l : Launch) (D : va_G) (A : Nat → Prop) (hst : l.stackTraces = false) {ad : Nat → Nat} {cf : Nat → Option va_E} {S0 : sT} (hX : RepX D S0 ad cf) (hO : st_ok S0) {b : Nat} (hb : b < 8) {k : Nat} (hk4 : k < 4) (h61 : sN S0 = 61) : mi_Th l yX4_layer (Cond.code yX4_layer cX4_layer 4 (some Jvm.ClassFile.FieldType.int)) (mi_rq 7 1 6) D A (mi_W D A ad cf) [.ref (ad 0), .int (nI (b)), .int (nI (k))] mi_IS 1 6 := by
  refine mi_startX (cc := cX4_layer) (nL := 4) (ret := (some Jvm.ClassFile.FieldType.int)) rfl (by decide) (Nat.le_of_ble_eq_true rfl) ?_
  intro p e s m below meth c ls S E hW hS hr hk hno hl
  have S : CallFix p m c cX4_layer 4 s _ ((Cond.code yX4_layer cX4_layer 4 (some Jvm.ClassFile.FieldType.int)) :: mi_G) RX4 := S
  have hl : lv_has ls 4 [(0, .ref (ad 0)), (1, .int (nI (b))), (2, .int (nI (k)))] := hl
  obtain ⟨⟨o1, o2, o3, o4, o5⟩, oP, oK, oD, oX, oC, oI⟩ := id hO
  obtain ⟨x0, x1, x2, x3, ⟨pm, pq, pn, xp⟩, xs, ⟨co, hrr, grr, xd, xc⟩, x9⟩ := id hX
  have hx0 := x0
  unfold rx_ob at hx0
  refine lv_iload_n S.1 S.2.1 dX4_layer_0 rfl (lv_at hl 1 rfl) ?_
  refine mi_cV (mi_runS (P := mi_W D A ad cf) (As := [.int (nI (b))]) (rest := []) S E hS hW (c_checkLevel l D A (mi_W D A ad cf) (by omega)) mw_276 mw_274 mw_275 mw_18 ⟨by decide, by decide, by decide +kernel⟩ ⟨rfl, rfl, Nat.le_of_ble_eq_true rfl, Nat.le_of_ble_eq_true rfl⟩ (n := 1) rfl hl.1 rfl (Nat.le_of_ble_eq_true rfl) dX4_layer_1 ⟨Nat.le_of_ble_eq_true rfl, Nat.le_of_ble_eq_true rfl⟩) ?_
  refine lv_iload_n S.1 S.2.1 dX4_layer_4 rfl (lv_at hl 2 rfl) ?_
  refine mi_cV (mi_runS (P := mi_W D A ad cf) (As := [.int (nI (k))]) (rest := []) S E hS hW (c_checkKindOrAir l D A (mi_W D A ad cf) (by omega) (by omega)) mw_283 mw_281 mw_282 mw_18 ⟨by decide, by decide, by decide +kernel⟩ ⟨rfl, rfl, Nat.le_of_ble_eq_true rfl, Nat.le_of_ble_eq_true rfl⟩ (n := 1) rfl hl.1 rfl (Nat.le_of_ble_eq_true rfl) dX4_layer_5 ⟨Nat.le_of_ble_eq_true rfl, Nat.le_of_ble_eq_true rfl⟩) ?_
  refine lv_aload_n S.1 S.2.1 dX4_layer_8 rfl (lv_at hl 0 rfl) ?_
  refine mi_cTh (mi_runVX (P := mi_W D A ad cf) (As := []) (rest := []) S E hS hW (ad 0) (c_checkRoomForState_x l D A hst hX hO h61) (hW.recv E hx0 rfl) mw_303 mw_300 mw_302 mw_4 mw_18 ⟨by decide, by decide, by decide +kernel⟩ ⟨rfl, rfl, Nat.le_of_ble_eq_true rfl, Nat.le_of_ble_eq_true rfl⟩ (n := 0) rfl hl.1 rfl (Nat.le_of_ble_eq_true rfl) dX4_layer_9 ⟨(by show _ ≤ (1 : Nat); omega), (by show _ ≤ (6 : Nat); omega)⟩) hS (fun ce q9 H locs hW hS h1 h2 h3 => ?_)
  exact mi_out hno hk hW hS h1 h2 h3 (by show _ ≤ (1 : Nat); omega) (by show _ ≤ (6 : Nat); omega)
