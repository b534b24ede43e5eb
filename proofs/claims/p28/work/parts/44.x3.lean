/-! the class's answers -/
theorem rx_par_rf (S : sT) (ad : Nat → Nat) (i : Nat) : rx_par S ad i = va_rf (if i = 0 then none else some (ad (100 + 2 * sP S i))) := by
  unfold rx_par
  split <;> rfl
abbrev rx_po (S : sT) (ad : Nat → Nat) (i : Nat) : Option Nat := if i = 0 then none else some (ad (100 + 2 * sP S i))
/-- a state's parent is the state of now -/
theorem rx_po_iff {D : va_G} {A : Nat → Prop} {S : sT} {ad : Nat → Nat} {cf : Nat → Option va_E} {H : Heap} (hW : mi_W D A ad cf H) (hX : RepX D S ad cf) (hO : st_ok S) {i : Nat} (hi : i < sN S) : rx_po S ad i = some (ad (100 + 2 * sW S)) ↔ sp_pn S i = sW S + 1 := by
  obtain ⟨x0, x1, x2, x3, xp, xs, -⟩ := hX
  by_cases z : i = 0
  · subst z
    exact ⟨fun h => absurd h (by simp [rx_po]), fun h => absurd h (by rw [sp_pn_0]; omega)⟩
  · have hp := hO.2.1 i (by omega) hi
    rw [sp_pn_n z, show rx_po S ad i = some (ad (100 + 2 * sP S i)) from if_neg z]
    constructor
    · intro h
      have h2 := hW.2 (100 + 2 * sP S i) (100 + 2 * sW S) _ _ (xs (sP S i) (by omega)).1 (xs (sW S) hO.1.2.2.1).1 (Option.some.inj h)
      omega
    · intro h
      rw [show sP S i = sW S by omega]
section MX3
variable {p : Program} {l : Launch} {e : Env} {R : Room} {s : State} {m : MethodId} {args : Array Value} {below : List Frame} {meth : Method} {c : Code} {H : Heap} {locs : List Loc} {cells slots : Nat} {Q : State → Prop}
variable {cc : ByteArray} {pc nL : Nat} {ls : Array Slot} {rest : List Value} {Ts : List Cond} {own : String}
theorem mi_mmax0 (S : CallFix p m c cc nL s args Ts own) {a b idx : Nat} (ha : a < 2 ^ 30) (hb : b < 2 ^ 30) (hl : Cond.methodLink own idx Lib.Math.max.name ∈ Ts) (hst : Cond.static Lib.Math.max.name ∈ Ts) (hini : Cond.initialized "java/lang/Math" ∈ Ts) (hcode : Cond.code Lib.Math.max.name Lib.Math.max.code 2 (some .int) ∈ Ts) (hsize : ls.size = nL) (hf : 1 ≤ R.frames) (hlo : (rest.map fun v => v.category).sum + 13 ≤ R.locals) (hc : cells ≤ R.cells) (hs : slots ≤ R.slots) (hdg : decode cc pc = .ok (.invokestatic idx, 3))
    (kk : W p l e R s m args below meth c H locs cells slots Q (F0 m (pc + 3) ls (.int (nI (a - b)) :: rest))) : W p l e R s m args below meth c H locs cells slots Q (F0 m pc ls (.int (nI a - nI b) :: .int (nI 0) :: rest)) := by
  refine va_mmax S.1 S.2.1 (by rw [S.2.2.1]; exact hsize.symm) S.2.2.2.1 (S.2.2.2.2 _ hl) (S.2.2.2.2 _ hst) (S.2.2.2.2 _ hini) (S.2.2.2.2 _ hcode) hf hlo hc hs hdg ?_
  refine mi_top (congrArg Value.int ?_) kk
  have ht := pk_sub_toInt ha hb
  have h0 : (nI 0).toInt = 0 := by decide
  by_cases h : b < a
  · rw [if_pos (by rw [Int32.lt_iff_toInt_lt, ht, h0]; omega), pk_sub (by omega)]
  · rw [if_neg (by rw [Int32.lt_iff_toInt_lt, ht, h0]; omega), show a - b = 0 by omega]
end MX3
set_option maxHeartbeats 4000000 in
set_option maxRecDepth 100000 in
theorem c_kind (l : Launch) (D : va_G) (A : Nat → Prop) {ad : Nat → Nat} {cf : Nat → Option va_E} {S0 : sT} (hX : RepX D S0 ad cf) (hO : st_ok S0) {a : Nat} (ha : a < 16) {b : Nat} (hb : b < 8) : mi_Rd l yX4_kind (Cond.code yX4_kind cX4_kind 3 (some Jvm.ClassFile.FieldType.int)) (mi_rm 2) D A (mi_W D A ad cf) [.ref (ad 0), .int (nI (a)), .int (nI (b))] (fun r => r = nI (sK S0 (sW S0) (8 * a + b))) := by
  refine mi_start (cc := cX4_kind) (nL := 3) (ret := (some Jvm.ClassFile.FieldType.int)) rfl (by decide) (Nat.le_of_ble_eq_true rfl) ?_
  intro p e s m below meth c ls S E hW hS hr hk hn hl
  have S : CallFix p m c cX4_kind 3 s _ ((Cond.code yX4_kind cX4_kind 3 (some Jvm.ClassFile.FieldType.int)) :: mi_G) RX4 := S
  have hl : lv_has ls 3 [(0, .ref (ad 0)), (1, .int (nI (a))), (2, .int (nI (b)))] := hl
  obtain ⟨⟨o1, o2, o3, o4, o5⟩, oP, oK, oD, oX, oC, oI⟩ := id hO
  obtain ⟨x0, x1, x2, x3, ⟨pm, pq, pn, xp⟩, xs, ⟨co, hrr, grr, xd, xc⟩, x9⟩ := id hX
  have hx0 := x0
  unfold rx_ob at hx0
  obtain ⟨hsn, hkn⟩ := xs (sW S0) o3
  have hKb : ∀ j, j < 128 → sK S0 (sW S0) j < 4 := fun j hj => oK _ _ o3 hj
  refine lv_iload_n S.1 S.2.1 dX4_kind_0 rfl (lv_at hl 1 rfl) ?_
  refine mi_cV (mi_runS (P := mi_W D A ad cf) (As := [.int (nI (a))]) (rest := []) S E hS hW (c_checkColumn l D A (mi_W D A ad cf) (by omega)) mw_202 mw_200 mw_201 mw_18 ⟨by decide, by decide, by decide +kernel⟩ ⟨rfl, rfl, Nat.le_of_ble_eq_true rfl, Nat.le_of_ble_eq_true rfl⟩ (n := 1) rfl hl.1 rfl (Nat.le_of_ble_eq_true rfl) dX4_kind_1 ⟨Nat.le_of_ble_eq_true rfl, Nat.le_of_ble_eq_true rfl⟩) ?_
  refine lv_iload_n S.1 S.2.1 dX4_kind_4 rfl (lv_at hl 2 rfl) ?_
  refine mi_cV (mi_runS (P := mi_W D A ad cf) (As := [.int (nI (b))]) (rest := []) S E hS hW (c_checkLevel l D A (mi_W D A ad cf) (by omega)) mw_276 mw_274 mw_275 mw_18 ⟨by decide, by decide, by decide +kernel⟩ ⟨rfl, rfl, Nat.le_of_ble_eq_true rfl, Nat.le_of_ble_eq_true rfl⟩ (n := 1) rfl hl.1 rfl (Nat.le_of_ble_eq_true rfl) dX4_kind_5 ⟨Nat.le_of_ble_eq_true rfl, Nat.le_of_ble_eq_true rfl⟩) ?_
  refine lv_aload_n S.1 S.2.1 dX4_kind_8 rfl (lv_at hl 0 rfl) ?_
  refine fg_X4_34 S E hW 0 rfl hx0 rfl dX4_kind_9 ?_
  refine lv_iload_n S.1 S.2.1 dX4_kind_12 rfl (lv_at hl 1 rfl) ?_
  refine lv_iload_n S.1 S.2.1 dX4_kind_13 rfl (lv_at hl 2 rfl) ?_
  refine mi_cR (mi_runV (P := mi_W D A ad cf) (As := [.int (nI (a)), .int (nI (b))]) (rest := []) S E hS hW (ad (100 + 2 * sW S0)) (c_X3_kindAt l D A hsn hkn ha hb) (hW.recv E hsn rfl) mw_460 mw_588 mw_458 mw_459 mw_23 ⟨by decide, by decide, by decide +kernel⟩ ⟨rfl, rfl, Nat.le_of_ble_eq_true rfl, Nat.le_of_ble_eq_true rfl⟩ (n := 2) rfl hl.1 rfl (Nat.le_of_ble_eq_true rfl) dX4_kind_14 ⟨Nat.le_of_ble_eq_true rfl, Nat.le_of_ble_eq_true rfl⟩) (fun r9 e9 => ?_)
  subst e9
  exact mi_retR S hr hk dX4_kind_17 (rfl)
set_option maxHeartbeats 4000000 in
set_option maxRecDepth 100000 in
theorem c_kind_x1 (l : Launch) (D : va_G) (A : Nat → Prop) (hst : l.stackTraces = false) {ad : Nat → Nat} {cf : Nat → Option va_E} {S0 : sT} (hX : RepX D S0 ad cf) (hO : st_ok S0) {x : Int32} (hx : ¬ (0 ≤ x.toInt ∧ x.toInt < 16)) {y : Int32} : mi_Th l yX4_kind (Cond.code yX4_kind cX4_kind 3 (some Jvm.ClassFile.FieldType.int)) (mi_rq 7 1 6) D A (mi_W D A ad cf) [.ref (ad 0), .int (x), .int (y)] mi_IO 1 6 := by
  refine mi_startX (cc := cX4_kind) (nL := 3) (ret := (some Jvm.ClassFile.FieldType.int)) rfl (by decide) (Nat.le_of_ble_eq_true rfl) ?_
  intro p e s m below meth c ls S E hW hS hr hk hno hl
  have S : CallFix p m c cX4_kind 3 s _ ((Cond.code yX4_kind cX4_kind 3 (some Jvm.ClassFile.FieldType.int)) :: mi_G) RX4 := S
  have hl : lv_has ls 3 [(0, .ref (ad 0)), (1, .int (x)), (2, .int (y))] := hl
  refine lv_iload_n S.1 S.2.1 dX4_kind_0 rfl (lv_at hl 1 rfl) ?_
  refine mi_cTh (mi_runSX (P := mi_W D A ad cf) (As := [.int (x)]) (rest := []) S E hS hW (c_checkColumn_x l D A hst hx) mw_202 mw_200 mw_201 mw_18 ⟨by decide, by decide, by decide +kernel⟩ ⟨rfl, rfl, Nat.le_of_ble_eq_true rfl, Nat.le_of_ble_eq_true rfl⟩ (n := 1) rfl hl.1 rfl (Nat.le_of_ble_eq_true rfl) dX4_kind_1 ⟨(by show _ ≤ (1 : Nat); omega), (by show _ ≤ (6 : Nat); omega)⟩) hS (fun ce q9 H locs hW hS h1 h2 h3 => ?_)
  exact mi_out hno hk hW hS h1 h2 h3 (by show _ ≤ (1 : Nat); omega) (by show _ ≤ (6 : Nat); omega)
set_option maxHeartbeats 4000000 in
set_option maxRecDepth 100000 in
theorem c_kind_x2 (l : Launch) (D : va_G) (A : Nat → Prop) (hst : l.stackTraces = false) {ad : Nat → Nat} {cf : Nat → Option va_E} {S0 : sT} (hX : RepX D S0 ad cf) (hO : st_ok S0) {a : Nat} (ha : a < 16) {x : Int32} (hx : ¬ (0 ≤ x.toInt ∧ x.toInt < 8)) : mi_Th l yX4_kind (Cond.code yX4_kind cX4_kind 3 (some Jvm.ClassFile.FieldType.int)) (mi_rq 7 1 6) D A (mi_W D A ad cf) [.ref (ad 0), .int (nI (a)), .int (x)] mi_IO 1 6 := by
  refine mi_startX (cc := cX4_kind) (nL := 3) (ret := (some Jvm.ClassFile.FieldType.int)) rfl (by decide) (Nat.le_of_ble_eq_true rfl) ?_
  intro p e s m below meth c ls S E hW hS hr hk hno hl
  have S : CallFix p m c cX4_kind 3 s _ ((Cond.code yX4_kind cX4_kind 3 (some Jvm.ClassFile.FieldType.int)) :: mi_G) RX4 := S
  have hl : lv_has ls 3 [(0, .ref (ad 0)), (1, .int (nI (a))), (2, .int (x))] := hl
  refine lv_iload_n S.1 S.2.1 dX4_kind_0 rfl (lv_at hl 1 rfl) ?_
  refine mi_cV (mi_runS (P := mi_W D A ad cf) (As := [.int (nI (a))]) (rest := []) S E hS hW (c_checkColumn l D A (mi_W D A ad cf) (by omega)) mw_202 mw_200 mw_201 mw_18 ⟨by decide, by decide, by decide +kernel⟩ ⟨rfl, rfl, Nat.le_of_ble_eq_true rfl, Nat.le_of_ble_eq_true rfl⟩ (n := 1) rfl hl.1 rfl (Nat.le_of_ble_eq_true rfl) dX4_kind_1 ⟨Nat.le_of_ble_eq_true rfl, Nat.le_of_ble_eq_true rfl⟩) ?_
  refine lv_iload_n S.1 S.2.1 dX4_kind_4 rfl (lv_at hl 2 rfl) ?_
  refine mi_cTh (mi_runSX (P := mi_W D A ad cf) (As := [.int (x)]) (rest := []) S E hS hW (c_checkLevel_x l D A hst hx) mw_276 mw_274 mw_275 mw_18 ⟨by decide, by decide, by decide +kernel⟩ ⟨rfl, rfl, Nat.le_of_ble_eq_true rfl, Nat.le_of_ble_eq_true rfl⟩ (n := 1) rfl hl.1 rfl (Nat.le_of_ble_eq_true rfl) dX4_kind_5 ⟨(by show _ ≤ (1 : Nat); omega), (by show _ ≤ (6 : Nat); omega)⟩) hS (fun ce q9 H locs hW hS h1 h2 h3 => ?_)
  exact mi_out hno hk hW hS h1 h2 h3 (by show _ ≤ (1 : Nat); omega) (by show _ ≤ (6 : Nat); omega)
set_option maxHeartbeats 4000000 in
set_option maxRecDepth 100000 in
theorem c_runs (l : Launch) (D : va_G) (A : Nat → Prop) {ad : Nat → Nat} {cf : Nat → Option va_E} {S0 : sT} (hX : RepX D S0 ad cf) (hO : st_ok S0) {a : Nat} (ha : a < 16) : mi_Rd l yX4_runs (Cond.code yX4_runs cX4_runs 2 (some Jvm.ClassFile.FieldType.int)) (mi_rm 4) D A (mi_W D A ad cf) [.ref (ad 0), .int (nI (a))] (fun r => r = nI (sp_runs (sK S0 (sW S0)) a)) := by
  refine mi_start (cc := cX4_runs) (nL := 2) (ret := (some Jvm.ClassFile.FieldType.int)) rfl (by decide) (Nat.le_of_ble_eq_true rfl) ?_
  intro p e s m below meth c ls S E hW hS hr hk hn hl
  have S : CallFix p m c cX4_runs 2 s _ ((Cond.code yX4_runs cX4_runs 2 (some Jvm.ClassFile.FieldType.int)) :: mi_G) RX4 := S
  have hl : lv_has ls 2 [(0, .ref (ad 0)), (1, .int (nI (a)))] := hl
  obtain ⟨⟨o1, o2, o3, o4, o5⟩, oP, oK, oD, oX, oC, oI⟩ := id hO
  obtain ⟨x0, x1, x2, x3, ⟨pm, pq, pn, xp⟩, xs, ⟨co, hrr, grr, xd, xc⟩, x9⟩ := id hX
  have hx0 := x0
  unfold rx_ob at hx0
  obtain ⟨hsn, hkn⟩ := xs (sW S0) o3
  have hKb : ∀ j, j < 128 → sK S0 (sW S0) j < 4 := fun j hj => oK _ _ o3 hj
  refine lv_iload_n S.1 S.2.1 dX4_runs_0 rfl (lv_at hl 1 rfl) ?_
  refine mi_cV (mi_runS (P := mi_W D A ad cf) (As := [.int (nI (a))]) (rest := []) S E hS hW (c_checkColumn l D A (mi_W D A ad cf) (by omega)) mw_202 mw_200 mw_201 mw_18 ⟨by decide, by decide, by decide +kernel⟩ ⟨rfl, rfl, Nat.le_of_ble_eq_true rfl, Nat.le_of_ble_eq_true rfl⟩ (n := 1) rfl hl.1 rfl (Nat.le_of_ble_eq_true rfl) dX4_runs_1 ⟨Nat.le_of_ble_eq_true rfl, Nat.le_of_ble_eq_true rfl⟩) ?_
  refine lv_aload_n S.1 S.2.1 dX4_runs_4 rfl (lv_at hl 0 rfl) ?_
  refine fg_X4_34 S E hW 0 rfl hx0 rfl dX4_runs_5 ?_
  refine lv_iload_n S.1 S.2.1 dX4_runs_8 rfl (lv_at hl 1 rfl) ?_
  refine mi_cR (mi_runV (P := mi_W D A ad cf) (As := [.int (nI (a))]) (rest := []) S E hS hW (ad (100 + 2 * sW S0)) (c_X3_countRuns l D A hsn hkn hKb ha) (hW.recv E hsn rfl) mw_599 mw_596 mw_597 mw_598 mw_23 ⟨by decide, by decide, by decide +kernel⟩ ⟨rfl, rfl, Nat.le_of_ble_eq_true rfl, Nat.le_of_ble_eq_true rfl⟩ (n := 1) rfl hl.1 rfl (Nat.le_of_ble_eq_true rfl) dX4_runs_9 ⟨Nat.le_of_ble_eq_true rfl, Nat.le_of_ble_eq_true rfl⟩) (fun r9 e9 => ?_)
  subst e9
  exact mi_retR S hr hk dX4_runs_12 (rfl)
set_option maxHeartbeats 4000000 in
set_option maxRecDepth 100000 in
theorem c_runs_x1 (l : Launch) (D : va_G) (A : Nat → Prop) (hst : l.stackTraces = false) {ad : Nat → Nat} {cf : Nat → Option va_E} {S0 : sT} (hX : RepX D S0 ad cf) (hO : st_ok S0) {x : Int32} (hx : ¬ (0 ≤ x.toInt ∧ x.toInt < 16)) : mi_Th l yX4_runs (Cond.code yX4_runs cX4_runs 2 (some Jvm.ClassFile.FieldType.int)) (mi_rq 7 1 6) D A (mi_W D A ad cf) [.ref (ad 0), .int (x)] mi_IO 1 6 := by
  refine mi_startX (cc := cX4_runs) (nL := 2) (ret := (some Jvm.ClassFile.FieldType.int)) rfl (by decide) (Nat.le_of_ble_eq_true rfl) ?_
  intro p e s m below meth c ls S E hW hS hr hk hno hl
  have S : CallFix p m c cX4_runs 2 s _ ((Cond.code yX4_runs cX4_runs 2 (some Jvm.ClassFile.FieldType.int)) :: mi_G) RX4 := S
  have hl : lv_has ls 2 [(0, .ref (ad 0)), (1, .int (x))] := hl
  refine lv_iload_n S.1 S.2.1 dX4_runs_0 rfl (lv_at hl 1 rfl) ?_
  refine mi_cTh (mi_runSX (P := mi_W D A ad cf) (As := [.int (x)]) (rest := []) S E hS hW (c_checkColumn_x l D A hst hx) mw_202 mw_200 mw_201 mw_18 ⟨by decide, by decide, by decide +kernel⟩ ⟨rfl, rfl, Nat.le_of_ble_eq_true rfl, Nat.le_of_ble_eq_true rfl⟩ (n := 1) rfl hl.1 rfl (Nat.le_of_ble_eq_true rfl) dX4_runs_1 ⟨(by show _ ≤ (1 : Nat); omega), (by show _ ≤ (6 : Nat); omega)⟩) hS (fun ce q9 H locs hW hS h1 h2 h3 => ?_)
  exact mi_out hno hk hW hS h1 h2 h3 (by show _ ≤ (1 : Nat); omega) (by show _ ≤ (6 : Nat); omega)
set_option maxHeartbeats 4000000 in
set_option maxRecDepth 100000 in
theorem c_height (l : Launch) (D : va_G) (A : Nat → Prop) {ad : Nat → Nat} {cf : Nat → Option va_E} {S0 : sT} (hX : RepX D S0 ad cf) (hO : st_ok S0) {a : Nat} (ha : a < 16) : mi_Rd l yX4_height (Cond.code yX4_height cX4_height 2 (some Jvm.ClassFile.FieldType.int)) (mi_rm 3) D A (mi_W D A ad cf) [.ref (ad 0), .int (nI (a))] (fun r => r = nI (sp_h (sK S0 (sW S0)) a 8)) := by
  refine mi_start (cc := cX4_height) (nL := 2) (ret := (some Jvm.ClassFile.FieldType.int)) rfl (by decide) (Nat.le_of_ble_eq_true rfl) ?_
  intro p e s m below meth c ls S E hW hS hr hk hn hl
  have S : CallFix p m c cX4_height 2 s _ ((Cond.code yX4_height cX4_height 2 (some Jvm.ClassFile.FieldType.int)) :: mi_G) RX4 := S
  have hl : lv_has ls 2 [(0, .ref (ad 0)), (1, .int (nI (a)))] := hl
  obtain ⟨⟨o1, o2, o3, o4, o5⟩, oP, oK, oD, oX, oC, oI⟩ := id hO
  obtain ⟨x0, x1, x2, x3, ⟨pm, pq, pn, xp⟩, xs, ⟨co, hrr, grr, xd, xc⟩, x9⟩ := id hX
  have hx0 := x0
  unfold rx_ob at hx0
  obtain ⟨hsn, hkn⟩ := xs (sW S0) o3
  have hKb : ∀ j, j < 128 → sK S0 (sW S0) j < 4 := fun j hj => oK _ _ o3 hj
  refine lv_iload_n S.1 S.2.1 dX4_height_0 rfl (lv_at hl 1 rfl) ?_
  refine mi_cV (mi_runS (P := mi_W D A ad cf) (As := [.int (nI (a))]) (rest := []) S E hS hW (c_checkColumn l D A (mi_W D A ad cf) (by omega)) mw_202 mw_200 mw_201 mw_18 ⟨by decide, by decide, by decide +kernel⟩ ⟨rfl, rfl, Nat.le_of_ble_eq_true rfl, Nat.le_of_ble_eq_true rfl⟩ (n := 1) rfl hl.1 rfl (Nat.le_of_ble_eq_true rfl) dX4_height_1 ⟨Nat.le_of_ble_eq_true rfl, Nat.le_of_ble_eq_true rfl⟩) ?_
  refine lv_aload_n S.1 S.2.1 dX4_height_4 rfl (lv_at hl 0 rfl) ?_
  refine fg_X4_34 S E hW 0 rfl hx0 rfl dX4_height_5 ?_
  refine lv_iload_n S.1 S.2.1 dX4_height_8 rfl (lv_at hl 1 rfl) ?_
  refine mi_cR (mi_runV (P := mi_W D A ad cf) (As := [.int (nI (a))]) (rest := []) S E hS hW (ad (100 + 2 * sW S0)) (c_X3_heightOf l D A hsn hkn hKb ha) (hW.recv E hsn rfl) mw_479 mw_617 mw_477 mw_478 mw_23 ⟨by decide, by decide, by decide +kernel⟩ ⟨rfl, rfl, Nat.le_of_ble_eq_true rfl, Nat.le_of_ble_eq_true rfl⟩ (n := 1) rfl hl.1 rfl (Nat.le_of_ble_eq_true rfl) dX4_height_9 ⟨Nat.le_of_ble_eq_true rfl, Nat.le_of_ble_eq_true rfl⟩) (fun r9 e9 => ?_)
  subst e9
  exact mi_retR S hr hk dX4_height_12 (rfl)
set_option maxHeartbeats 4000000 in
set_option maxRecDepth 100000 in
theorem c_height_x1 (l : Launch) (D : va_G) (A : Nat → Prop) (hst : l.stackTraces = false) {ad : Nat → Nat} {cf : Nat → Option va_E} {S0 : sT} (hX : RepX D S0 ad cf) (hO : st_ok S0) {x : Int32} (hx : ¬ (0 ≤ x.toInt ∧ x.toInt < 16)) : mi_Th l yX4_height (Cond.code yX4_height cX4_height 2 (some Jvm.ClassFile.FieldType.int)) (mi_rq 7 1 6) D A (mi_W D A ad cf) [.ref (ad 0), .int (x)] mi_IO 1 6 := by
  refine mi_startX (cc := cX4_height) (nL := 2) (ret := (some Jvm.ClassFile.FieldType.int)) rfl (by decide) (Nat.le_of_ble_eq_true rfl) ?_
  intro p e s m below meth c ls S E hW hS hr hk hno hl
  have S : CallFix p m c cX4_height 2 s _ ((Cond.code yX4_height cX4_height 2 (some Jvm.ClassFile.FieldType.int)) :: mi_G) RX4 := S
  have hl : lv_has ls 2 [(0, .ref (ad 0)), (1, .int (x))] := hl
  refine lv_iload_n S.1 S.2.1 dX4_height_0 rfl (lv_at hl 1 rfl) ?_
  refine mi_cTh (mi_runSX (P := mi_W D A ad cf) (As := [.int (x)]) (rest := []) S E hS hW (c_checkColumn_x l D A hst hx) mw_202 mw_200 mw_201 mw_18 ⟨by decide, by decide, by decide +kernel⟩ ⟨rfl, rfl, Nat.le_of_ble_eq_true rfl, Nat.le_of_ble_eq_true rfl⟩ (n := 1) rfl hl.1 rfl (Nat.le_of_ble_eq_true rfl) dX4_height_1 ⟨(by show _ ≤ (1 : Nat); omega), (by show _ ≤ (6 : Nat); omega)⟩) hS (fun ce q9 H locs hW hS h1 h2 h3 => ?_)
  exact mi_out hno hk hW hS h1 h2 h3 (by show _ ≤ (1 : Nat); omega) (by show _ ≤ (6 : Nat); omega)
set_option maxHeartbeats 4000000 in
set_option maxRecDepth 100000 in
theorem c_runLength (l : Launch) (D : va_G) (A : Nat → Prop) {ad : Nat → Nat} {cf : Nat → Option va_E} {S0 : sT} (hX : RepX D S0 ad cf) (hO : st_ok S0) {a : Nat} (ha : a < 16) {u : Nat} (hr9 : u < sp_runs (sK S0 (sW S0)) a) : mi_Rd l yX4_runLength (Cond.code yX4_runLength cX4_runLength 3 (some Jvm.ClassFile.FieldType.int)) (mi_rm 4) D A (mi_W D A ad cf) [.ref (ad 0), .int (nI (a)), .int (nI (u))] (fun r => r = nI (sp_rl (sK S0 (sW S0)) a u)) := by
  refine mi_start (cc := cX4_runLength) (nL := 3) (ret := (some Jvm.ClassFile.FieldType.int)) rfl (by decide) (Nat.le_of_ble_eq_true rfl) ?_
  intro p e s m below meth c ls S E hW hS hr hk hn hl
  have S : CallFix p m c cX4_runLength 3 s _ ((Cond.code yX4_runLength cX4_runLength 3 (some Jvm.ClassFile.FieldType.int)) :: mi_G) RX4 := S
  have hl : lv_has ls 3 [(0, .ref (ad 0)), (1, .int (nI (a))), (2, .int (nI (u)))] := hl
  obtain ⟨⟨o1, o2, o3, o4, o5⟩, oP, oK, oD, oX, oC, oI⟩ := id hO
  obtain ⟨x0, x1, x2, x3, ⟨pm, pq, pn, xp⟩, xs, ⟨co, hrr, grr, xd, xc⟩, x9⟩ := id hX
  have hx0 := x0
  unfold rx_ob at hx0
  obtain ⟨hsn, hkn⟩ := xs (sW S0) o3
  have hKb : ∀ j, j < 128 → sK S0 (sW S0) j < 4 := fun j hj => oK _ _ o3 hj
  have hrb : sp_runs (sK S0 (sW S0)) a ≤ 8 := by have := sp_ri_le (sK S0 (sW S0)) a 7; unfold sp_runs; omega
  refine lv_iload_n S.1 S.2.1 dX4_runLength_0 rfl (lv_at hl 1 rfl) ?_
  refine mi_cV (mi_runS (P := mi_W D A ad cf) (As := [.int (nI (a))]) (rest := []) S E hS hW (c_checkColumn l D A (mi_W D A ad cf) (by omega)) mw_202 mw_200 mw_201 mw_18 ⟨by decide, by decide, by decide +kernel⟩ ⟨rfl, rfl, Nat.le_of_ble_eq_true rfl, Nat.le_of_ble_eq_true rfl⟩ (n := 1) rfl hl.1 rfl (Nat.le_of_ble_eq_true rfl) dX4_runLength_1 ⟨Nat.le_of_ble_eq_true rfl, Nat.le_of_ble_eq_true rfl⟩) ?_
  refine lv_iload_n S.1 S.2.1 dX4_runLength_4 rfl (lv_at hl 2 rfl) ?_
  refine mi_if_lt (tgt := 20) S (by omega) dX4_runLength_5 (by decide) ?_
  refine lv_iload_n S.1 S.2.1 dX4_runLength_8 rfl (lv_at hl 2 rfl) ?_
  refine lv_aload_n S.1 S.2.1 dX4_runLength_9 rfl (lv_at hl 0 rfl) ?_
  refine fg_X4_34 S E hW 0 rfl hx0 rfl dX4_runLength_10 ?_
  refine lv_iload_n S.1 S.2.1 dX4_runLength_13 rfl (lv_at hl 1 rfl) ?_
  refine mi_cR (mi_runV (P := mi_W D A ad cf) (As := [.int (nI (a))]) (rest := [.int (nI (u))]) S E hS hW (ad (100 + 2 * sW S0)) (c_X3_countRuns l D A hsn hkn hKb ha) (hW.recv E hsn rfl) mw_599 mw_596 mw_597 mw_598 mw_23 ⟨by decide, by decide, by decide +kernel⟩ ⟨rfl, rfl, Nat.le_of_ble_eq_true rfl, Nat.le_of_ble_eq_true rfl⟩ (n := 1) rfl hl.1 rfl (Nat.le_of_ble_eq_true rfl) dX4_runLength_14 ⟨Nat.le_of_ble_eq_true rfl, Nat.le_of_ble_eq_true rfl⟩) (fun r9 e9 => ?_)
  subst e9
  refine mi_icmp_lt (tgt := 30) S (by omega) (by omega) dX4_runLength_17 (by decide) (fun c17_1 => ?_) (fun c17_1 => by exfalso; omega)
  refine lv_aload_n S.1 S.2.1 dX4_runLength_30 rfl (lv_at hl 0 rfl) ?_
  refine fg_X4_34 S E hW 0 rfl hx0 rfl dX4_runLength_31 ?_
  refine lv_iload_n S.1 S.2.1 dX4_runLength_34 rfl (lv_at hl 1 rfl) ?_
  refine lv_iload_n S.1 S.2.1 dX4_runLength_35 rfl (lv_at hl 2 rfl) ?_
  refine mi_cR (mi_runV (P := mi_W D A ad cf) (As := [.int (nI (a)), .int (nI (u))]) (rest := []) S E hS hW (ad (100 + 2 * sW S0)) (c_X3_lengthOfRun l D A hsn hkn hKb ha (by omega)) (hW.recv E hsn rfl) mw_608 mw_605 mw_606 mw_607 mw_23 ⟨by decide, by decide, by decide +kernel⟩ ⟨rfl, rfl, Nat.le_of_ble_eq_true rfl, Nat.le_of_ble_eq_true rfl⟩ (n := 2) rfl hl.1 rfl (Nat.le_of_ble_eq_true rfl) dX4_runLength_36 ⟨Nat.le_of_ble_eq_true rfl, Nat.le_of_ble_eq_true rfl⟩) (fun r9 e9 => ?_)
  subst e9
  exact mi_retR S hr hk dX4_runLength_39 (rfl)
set_option maxHeartbeats 4000000 in
set_option maxRecDepth 100000 in
theorem c_runLength_x1 (l : Launch) (D : va_G) (A : Nat → Prop) (hst : l.stackTraces = false) {ad : Nat → Nat} {cf : Nat → Option va_E} {S0 : sT} (hX : RepX D S0 ad cf) (hO : st_ok S0) {x : Int32} (hx : ¬ (0 ≤ x.toInt ∧ x.toInt < 16)) {y : Int32} : mi_Th l yX4_runLength (Cond.code yX4_runLength cX4_runLength 3 (some Jvm.ClassFile.FieldType.int)) (mi_rq 7 1 6) D A (mi_W D A ad cf) [.ref (ad 0), .int (x), .int (y)] mi_IO 1 6 := by
  refine mi_startX (cc := cX4_runLength) (nL := 3) (ret := (some Jvm.ClassFile.FieldType.int)) rfl (by decide) (Nat.le_of_ble_eq_true rfl) ?_
  intro p e s m below meth c ls S E hW hS hr hk hno hl
  have S : CallFix p m c cX4_runLength 3 s _ ((Cond.code yX4_runLength cX4_runLength 3 (some Jvm.ClassFile.FieldType.int)) :: mi_G) RX4 := S
  have hl : lv_has ls 3 [(0, .ref (ad 0)), (1, .int (x)), (2, .int (y))] := hl
  refine lv_iload_n S.1 S.2.1 dX4_runLength_0 rfl (lv_at hl 1 rfl) ?_
  refine mi_cTh (mi_runSX (P := mi_W D A ad cf) (As := [.int (x)]) (rest := []) S E hS hW (c_checkColumn_x l D A hst hx) mw_202 mw_200 mw_201 mw_18 ⟨by decide, by decide, by decide +kernel⟩ ⟨rfl, rfl, Nat.le_of_ble_eq_true rfl, Nat.le_of_ble_eq_true rfl⟩ (n := 1) rfl hl.1 rfl (Nat.le_of_ble_eq_true rfl) dX4_runLength_1 ⟨(by show _ ≤ (1 : Nat); omega), (by show _ ≤ (6 : Nat); omega)⟩) hS (fun ce q9 H locs hW hS h1 h2 h3 => ?_)
  exact mi_out hno hk hW hS h1 h2 h3 (by show _ ≤ (1 : Nat); omega) (by show _ ≤ (6 : Nat); omega)
set_option maxHeartbeats 4000000 in
set_option maxRecDepth 100000 in
theorem c_runLength_x2 (l : Launch) (D : va_G) (A : Nat → Prop) (hst : l.stackTraces = false) {ad : Nat → Nat} {cf : Nat → Option va_E} {S0 : sT} (hX : RepX D S0 ad cf) (hO : st_ok S0) {a : Nat} (ha : a < 16) {x : Int32} (hx : ¬ (0 ≤ x.toInt ∧ x.toInt < sp_runs (sK S0 (sW S0)) a)) : mi_Th l yX4_runLength (Cond.code yX4_runLength cX4_runLength 3 (some Jvm.ClassFile.FieldType.int)) (mi_rq 7 1 6) D A (mi_W D A ad cf) [.ref (ad 0), .int (nI (a)), .int (x)] mi_IO 1 6 := by
  refine mi_startX (cc := cX4_runLength) (nL := 3) (ret := (some Jvm.ClassFile.FieldType.int)) rfl (by decide) (Nat.le_of_ble_eq_true rfl) ?_
  intro p e s m below meth c ls S E hW hS hr hk hno hl
  have S : CallFix p m c cX4_runLength 3 s _ ((Cond.code yX4_runLength cX4_runLength 3 (some Jvm.ClassFile.FieldType.int)) :: mi_G) RX4 := S
  have hl : lv_has ls 3 [(0, .ref (ad 0)), (1, .int (nI (a))), (2, .int (x))] := hl
  obtain ⟨⟨o1, o2, o3, o4, o5⟩, oP, oK, oD, oX, oC, oI⟩ := id hO
  obtain ⟨x0, x1, x2, x3, ⟨pm, pq, pn, xp⟩, xs, ⟨co, hrr, grr, xd, xc⟩, x9⟩ := id hX
  have hx0 := x0
  unfold rx_ob at hx0
  obtain ⟨hsn, hkn⟩ := xs (sW S0) o3
  have hKb : ∀ j, j < 128 → sK S0 (sW S0) j < 4 := fun j hj => oK _ _ o3 hj
  have hrb : sp_runs (sK S0 (sW S0)) a ≤ 8 := by have := sp_ri_le (sK S0 (sW S0)) a 7; unfold sp_runs; omega
  refine lv_iload_n S.1 S.2.1 dX4_runLength_0 rfl (lv_at hl 1 rfl) ?_
  refine mi_cV (mi_runS (P := mi_W D A ad cf) (As := [.int (nI (a))]) (rest := []) S E hS hW (c_checkColumn l D A (mi_W D A ad cf) (by omega)) mw_202 mw_200 mw_201 mw_18 ⟨by decide, by decide, by decide +kernel⟩ ⟨rfl, rfl, Nat.le_of_ble_eq_true rfl, Nat.le_of_ble_eq_true rfl⟩ (n := 1) rfl hl.1 rfl (Nat.le_of_ble_eq_true rfl) dX4_runLength_1 ⟨Nat.le_of_ble_eq_true rfl, Nat.le_of_ble_eq_true rfl⟩) ?_
  refine lv_iload_n S.1 S.2.1 dX4_runLength_4 rfl (lv_at hl 2 rfl) ?_
  refine mi_xif_lt (tgt := 20) S (rfl) dX4_runLength_5 (by decide) (fun c5_0 => ?_) (fun c5_0 => ?_)
  · exact mi_throw (cls := mi_IO) (text := "no such run") (ik := 80) (is := 82) (ic := 84) S E hst hS hW (by decide) mw_206 mw_31 (by decide) mt_g_IO mt_b_IO (by decide) mt_o_IO hl.1 dX4_runLength_20 dX4_runLength_23 dX4_runLength_24 dX4_runLength_26 dX4_runLength_29 hno (Nat.le_of_ble_eq_true rfl) (Nat.le_of_ble_eq_true rfl) (by show _ ≤ (1 : Nat); omega) (by show _ ≤ (6 : Nat); omega) hk (by show _ ≤ (1 : Nat); omega) (by show _ ≤ (6 : Nat); omega)
  · refine lv_iload_n S.1 S.2.1 dX4_runLength_8 rfl (lv_at hl 2 rfl) ?_
    refine lv_aload_n S.1 S.2.1 dX4_runLength_9 rfl (lv_at hl 0 rfl) ?_
    refine fg_X4_34 S E hW 0 rfl hx0 rfl dX4_runLength_10 ?_
    refine lv_iload_n S.1 S.2.1 dX4_runLength_13 rfl (lv_at hl 1 rfl) ?_
    refine mi_cR (mi_runV (P := mi_W D A ad cf) (As := [.int (nI (a))]) (rest := [.int (x)]) S E hS hW (ad (100 + 2 * sW S0)) (c_X3_countRuns l D A hsn hkn hKb ha) (hW.recv E hsn rfl) mw_599 mw_596 mw_597 mw_598 mw_23 ⟨by decide, by decide, by decide +kernel⟩ ⟨rfl, rfl, Nat.le_of_ble_eq_true rfl, Nat.le_of_ble_eq_true rfl⟩ (n := 1) rfl hl.1 rfl (Nat.le_of_ble_eq_true rfl) dX4_runLength_14 ⟨Nat.le_of_ble_eq_true rfl, Nat.le_of_ble_eq_true rfl⟩) (fun r9 e9 => ?_)
    subst e9
    refine mi_xcmp_lt (tgt := 30) S (rfl) (nI_toInt (n := sp_runs (sK S0 (sW S0)) a) (by omega)) dX4_runLength_17 (by decide) (fun c17_1 => by exfalso; omega) (fun c17_1 => ?_)
    exact mi_throw (cls := mi_IO) (text := "no such run") (ik := 80) (is := 82) (ic := 84) S E hst hS hW (by decide) mw_206 mw_31 (by decide) mt_g_IO mt_b_IO (by decide) mt_o_IO hl.1 dX4_runLength_20 dX4_runLength_23 dX4_runLength_24 dX4_runLength_26 dX4_runLength_29 hno (Nat.le_of_ble_eq_true rfl) (Nat.le_of_ble_eq_true rfl) (by show _ ≤ (1 : Nat); omega) (by show _ ≤ (6 : Nat); omega) hk (by show _ ≤ (1 : Nat); omega) (by show _ ≤ (6 : Nat); omega)
set_option maxHeartbeats 4000000 in
set_option maxRecDepth 100000 in
theorem c_blocks (l : Launch) (D : va_G) (A : Nat → Prop) {ad : Nat → Nat} {cf : Nat → Option va_E} {S0 : sT} (hX : RepX D S0 ad cf) (hO : st_ok S0)  : mi_Rd l yX4_blocks (Cond.code yX4_blocks cX4_blocks 3 (some Jvm.ClassFile.FieldType.int)) (mi_rm 4) D A (mi_W D A ad cf) [.ref (ad 0)] (fun r => r = nI (sp_blocks (sK S0 (sW S0)))) := by
  refine mi_start (cc := cX4_blocks) (nL := 3) (ret := (some Jvm.ClassFile.FieldType.int)) rfl (by decide) (Nat.le_of_ble_eq_true rfl) ?_
  intro p e s m below meth c ls S E hW hS hr hk hn hl
  have S : CallFix p m c cX4_blocks 3 s _ ((Cond.code yX4_blocks cX4_blocks 3 (some Jvm.ClassFile.FieldType.int)) :: mi_G) RX4 := S
  have hl : lv_has ls 3 [(0, .ref (ad 0))] := hl
  obtain ⟨⟨o1, o2, o3, o4, o5⟩, oP, oK, oD, oX, oC, oI⟩ := id hO
  obtain ⟨x0, x1, x2, x3, ⟨pm, pq, pn, xp⟩, xs, ⟨co, hrr, grr, xd, xc⟩, x9⟩ := id hX
  have hx0 := x0
  unfold rx_ob at hx0
  obtain ⟨hsn, hkn⟩ := xs (sW S0) o3
  have hKb : ∀ j, j < 128 → sK S0 (sW S0) j < 4 := fun j hj => oK _ _ o3 hj
  refine lv_iconst (v := nI 0) S.1 S.2.1 dX4_blocks_0 (by decide) ?_
  refine lv_istore_n (lv' := [(1, .int (nI (0))), (0, .ref (ad 0))]) S.1 S.2.1 dX4_blocks_1 rfl hl (by decide) rfl (fun ls hl => ?_)
  refine lv_iconst (v := nI 0) S.1 S.2.1 dX4_blocks_2 (by decide) ?_
  refine lv_istore_n (lv' := [(2, .int (nI (0))), (1, .int (nI (0))), (0, .ref (ad 0))]) S.1 S.2.1 dX4_blocks_3 rfl hl (by decide) rfl (fun ls hl => ?_)
  have lp4 : ∀ (n4 : Nat) (k : Nat) (i : Nat) (ls : Array Slot), 16 - i < n4 → i ≤ 16 → k = fb_sm (sp_bl (sK S0 (sW S0))) (8 * i) → lv_has ls 3 [(0, .ref (ad 0)), (1, .int (nI (k))), (2, .int (nI (i)))] → W p l e (mi_rm 4) s m ([.ref (ad 0)] : List Value).toArray below meth c s.heap [] 0 0 (MQ below (vp_Si (fun r => r = nI (sp_blocks (sK S0 (sW S0))))) ([.ref (ad 0)] : List Value).toArray s 0 0 (fun _ => False)) (F0 m 4 ls []) := by
    intro n4
    induction n4 with
    | zero => intro k i ls hm hi hk9  hl; exact absurd hm (Nat.not_lt_zero _)
    | succ n4 ih4 =>
      intro k i ls hm hi hk9  hl
      refine lv_iload_n S.1 S.2.1 dX4_blocks_4 rfl (lv_at hl 2 rfl) ?_
      refine lv_bipush (v := nI 16) S.1 S.2.1 dX4_blocks_5 (by decide) ?_
      refine mi_icmp_ge (tgt := 27) S (by omega) (by omega) dX4_blocks_7 (by decide) (fun c7_0 => ?_) (fun c7_0 => ?_)
      · refine lv_iload_n S.1 S.2.1 dX4_blocks_27 rfl (lv_at hl 1 rfl) ?_
        exact mi_retR S hr hk dX4_blocks_28 (by rw [hk9, show i = 16 by omega]; rfl)
      · refine lv_iload_n S.1 S.2.1 dX4_blocks_10 rfl (lv_at hl 1 rfl) ?_
        refine lv_aload_n S.1 S.2.1 dX4_blocks_11 rfl (lv_at hl 0 rfl) ?_
        refine fg_X4_34 S E hW 0 rfl hx0 rfl dX4_blocks_12 ?_
        refine lv_iload_n S.1 S.2.1 dX4_blocks_15 rfl (lv_at hl 2 rfl) ?_
        refine mi_cR (mi_runV (P := mi_W D A ad cf) (As := [.int (nI (i))]) (rest := [.int (nI (k))]) S E hS hW (ad (100 + 2 * sW S0)) (c_X3_countBlocksByRuns l D A hsn hkn hKb (a := i) (by omega)) (hW.recv E hsn rfl) mw_625 mw_622 mw_623 mw_624 mw_23 ⟨by decide, by decide, by decide +kernel⟩ ⟨rfl, rfl, Nat.le_of_ble_eq_true rfl, Nat.le_of_ble_eq_true rfl⟩ (n := 1) rfl hl.1 rfl (Nat.le_of_ble_eq_true rfl) dX4_blocks_16 ⟨Nat.le_of_ble_eq_true rfl, Nat.le_of_ble_eq_true rfl⟩) (fun r9 e9 => ?_)
        subst e9
        refine mi_iadd S dX4_blocks_19 ?_
        refine lv_istore_n (lv' := [(1, .int (nI (k + (fb_sm (fun j => sp_bl (sK S0 (sW S0)) (8 * i + j)) 8)))), (0, .ref (ad 0)), (2, .int (nI (i)))]) S.1 S.2.1 dX4_blocks_20 rfl hl (by decide) rfl (fun ls hl => ?_)
        refine lv_iinc (v := nI (i + 1)) (lv' := [(2, .int (nI (i + 1))), (1, .int (nI (k + (fb_sm (fun j => sp_bl (sK S0 (sW S0)) (8 * i + j)) 8)))), (0, .ref (ad 0))]) S.1 S.2.1 dX4_blocks_21 hl (k := 2) rfl (mi_inc _) (by decide) rfl (fun ls hl => ?_)
        refine lv_goto (tgt := 4) S.1 S.2.1 dX4_blocks_24 (by decide) ?_
        exact ih4 (k + (fb_sm (fun j => sp_bl (sK S0 (sW S0)) (8 * i + j)) 8)) (i + 1) _ (by omega) (by omega) (by have h9 := fb_sm_split (sp_bl (sK S0 (sW S0))) (8 * i) 8; rw [show 8 * (i + 1) = 8 * i + 8 by omega, h9, ← hk9])  (lv_sub hl [2, 1, 0] rfl)
  exact lp4 _ 0 0 _ (Nat.lt_succ_self _) (by omega) (by rfl)  (lv_sub hl [2, 1, 0] rfl)
set_option maxHeartbeats 4000000 in
set_option maxRecDepth 100000 in
theorem c_blocksOneByOne (l : Launch) (D : va_G) (A : Nat → Prop) {ad : Nat → Nat} {cf : Nat → Option va_E} {S0 : sT} (hX : RepX D S0 ad cf) (hO : st_ok S0)  : mi_Rd l yX4_blocksOneByOne (Cond.code yX4_blocksOneByOne cX4_blocksOneByOne 4 (some Jvm.ClassFile.FieldType.int)) (mi_rm 2) D A (mi_W D A ad cf) [.ref (ad 0)] (fun r => r = nI (sp_blocks (sK S0 (sW S0)))) := by
  refine mi_start (cc := cX4_blocksOneByOne) (nL := 4) (ret := (some Jvm.ClassFile.FieldType.int)) rfl (by decide) (Nat.le_of_ble_eq_true rfl) ?_
  intro p e s m below meth c ls S E hW hS hr hk hn hl
  have S : CallFix p m c cX4_blocksOneByOne 4 s _ ((Cond.code yX4_blocksOneByOne cX4_blocksOneByOne 4 (some Jvm.ClassFile.FieldType.int)) :: mi_G) RX4 := S
  have hl : lv_has ls 4 [(0, .ref (ad 0))] := hl
  obtain ⟨⟨o1, o2, o3, o4, o5⟩, oP, oK, oD, oX, oC, oI⟩ := id hO
  obtain ⟨x0, x1, x2, x3, ⟨pm, pq, pn, xp⟩, xs, ⟨co, hrr, grr, xd, xc⟩, x9⟩ := id hX
  have hx0 := x0
  unfold rx_ob at hx0
  obtain ⟨hsn, hkn⟩ := xs (sW S0) o3
  have hKb : ∀ j, j < 128 → sK S0 (sW S0) j < 4 := fun j hj => oK _ _ o3 hj
  refine lv_iconst (v := nI 0) S.1 S.2.1 dX4_blocksOneByOne_0 (by decide) ?_
  refine lv_istore_n (lv' := [(1, .int (nI (0))), (0, .ref (ad 0))]) S.1 S.2.1 dX4_blocksOneByOne_1 rfl hl (by decide) rfl (fun ls hl => ?_)
  refine lv_iconst (v := nI 0) S.1 S.2.1 dX4_blocksOneByOne_2 (by decide) ?_
  refine lv_istore_n (lv' := [(2, .int (nI (0))), (1, .int (nI (0))), (0, .ref (ad 0))]) S.1 S.2.1 dX4_blocksOneByOne_3 rfl hl (by decide) rfl (fun ls hl => ?_)
  have lp4 : ∀ (n4 : Nat) (k : Nat) (i : Nat) (ls : Array Slot), 16 - i < n4 → i ≤ 16 → k = fb_sm (sp_bl (sK S0 (sW S0))) (8 * i) → lv_has ls 4 [(0, .ref (ad 0)), (1, .int (nI (k))), (2, .int (nI (i)))] → W p l e (mi_rm 2) s m ([.ref (ad 0)] : List Value).toArray below meth c s.heap [] 0 0 (MQ below (vp_Si (fun r => r = nI (sp_blocks (sK S0 (sW S0))))) ([.ref (ad 0)] : List Value).toArray s 0 0 (fun _ => False)) (F0 m 4 ls []) := by
    intro n4
    induction n4 with
    | zero => intro k i ls hm hi hk9  hl; exact absurd hm (Nat.not_lt_zero _)
    | succ n4 ih4 =>
      intro k i ls hm hi hk9  hl
      refine lv_iload_n S.1 S.2.1 dX4_blocksOneByOne_4 rfl (lv_at hl 2 rfl) ?_
      refine lv_bipush (v := nI 16) S.1 S.2.1 dX4_blocksOneByOne_5 (by decide) ?_
      refine mi_icmp_ge (tgt := 45) S (by omega) (by omega) dX4_blocksOneByOne_7 (by decide) (fun c7_0 => ?_) (fun c7_0 => ?_)
      · refine lv_iload_n S.1 S.2.1 dX4_blocksOneByOne_45 rfl (lv_at hl 1 rfl) ?_
        exact mi_retR S hr hk dX4_blocksOneByOne_46 (by rw [hk9, show i = 16 by omega]; rfl)
      · refine lv_iconst (v := nI 0) S.1 S.2.1 dX4_blocksOneByOne_10 (by decide) ?_
        refine lv_istore_n (lv' := [(3, .int (nI (0))), (0, .ref (ad 0)), (1, .int (nI (k))), (2, .int (nI (i)))]) S.1 S.2.1 dX4_blocksOneByOne_11 rfl hl (by decide) rfl (fun ls hl => ?_)
        have lp12 : ∀ (n12 : Nat) (t : Nat) (j : Nat) (ls : Array Slot), 8 - j < n12 → j ≤ 8 → t = fb_sm (sp_bl (sK S0 (sW S0))) (8 * i + j) → lv_has ls 4 [(0, .ref (ad 0)), (1, .int (nI (t))), (2, .int (nI (i))), (3, .int (nI (j)))] → W p l e (mi_rm 2) s m ([.ref (ad 0)] : List Value).toArray below meth c s.heap [] 0 0 (MQ below (vp_Si (fun r => r = nI (sp_blocks (sK S0 (sW S0))))) ([.ref (ad 0)] : List Value).toArray s 0 0 (fun _ => False)) (F0 m 12 ls []) := by
          intro n12
          induction n12 with
          | zero => intro t j ls hm hj hk8  hl; exact absurd hm (Nat.not_lt_zero _)
          | succ n12 ih12 =>
            intro t j ls hm hj hk8  hl
            refine lv_iload_n S.1 S.2.1 dX4_blocksOneByOne_12 rfl (lv_at hl 3 rfl) ?_
            refine lv_bipush (v := nI 8) S.1 S.2.1 dX4_blocksOneByOne_13 (by decide) ?_
            refine mi_icmp_ge (tgt := 39) S (by omega) (by omega) dX4_blocksOneByOne_15 (by decide) (fun c15_1 => ?_) (fun c15_1 => ?_)
            · refine lv_iinc (v := nI (i + 1)) (lv' := [(2, .int (nI (i + 1))), (0, .ref (ad 0)), (1, .int (nI (t))), (3, .int (nI (j)))]) S.1 S.2.1 dX4_blocksOneByOne_39 hl (k := 2) rfl (mi_inc _) (by decide) rfl (fun ls hl => ?_)
              refine lv_goto (tgt := 4) S.1 S.2.1 dX4_blocksOneByOne_42 (by decide) ?_
              exact ih4 t (i + 1) _ (by omega) (by omega) (by rw [hk8, show 8 * (i + 1) = 8 * i + j by omega])  (lv_sub hl [1, 2, 0] rfl)
            · refine lv_aload_n S.1 S.2.1 dX4_blocksOneByOne_18 rfl (lv_at hl 0 rfl) ?_
              refine fg_X4_34 S E hW 0 rfl hx0 rfl dX4_blocksOneByOne_19 ?_
              refine lv_iload_n S.1 S.2.1 dX4_blocksOneByOne_22 rfl (lv_at hl 2 rfl) ?_
              refine lv_iload_n S.1 S.2.1 dX4_blocksOneByOne_23 rfl (lv_at hl 3 rfl) ?_
              refine mi_cR (mi_runV (P := mi_W D A ad cf) (As := [.int (nI (i)), .int (nI (j))]) (rest := []) S E hS hW (ad (100 + 2 * sW S0)) (c_X3_kindAt l D A hsn hkn (a := i) (b := j) (by omega) (by omega)) (hW.recv E hsn rfl) mw_460 mw_588 mw_458 mw_459 mw_23 ⟨by decide, by decide, by decide +kernel⟩ ⟨rfl, rfl, Nat.le_of_ble_eq_true rfl, Nat.le_of_ble_eq_true rfl⟩ (n := 2) rfl hl.1 rfl (Nat.le_of_ble_eq_true rfl) dX4_blocksOneByOne_24 ⟨Nat.le_of_ble_eq_true rfl, Nat.le_of_ble_eq_true rfl⟩) (fun r9 e9 => ?_)
              subst e9
              have hb1 := hKb (8 * i + j) (by omega)
              refine mi_if_eq (tgt := 33) S (by omega) dX4_blocksOneByOne_27 (by decide) (fun c27_2 => ?_) (fun c27_2 => ?_)
              · refine lv_iinc (v := nI (j + 1)) (lv' := [(3, .int (nI (j + 1))), (0, .ref (ad 0)), (1, .int (nI (t))), (2, .int (nI (i)))]) S.1 S.2.1 dX4_blocksOneByOne_33 hl (k := 3) rfl (mi_inc _) (by decide) rfl (fun ls hl => ?_)
                refine lv_goto (tgt := 12) S.1 S.2.1 dX4_blocksOneByOne_36 (by decide) ?_
                exact ih12 t (j + 1) _ (by omega) (by omega) (by rw [show 8 * i + (j + 1) = (8 * i + j) + 1 by omega, fb_sm_succ]; first | (rw [sp_bl_0 (by omega)]; omega) | (rw [sp_bl_1 (by omega)]; omega))  (lv_sub hl [1, 2, 3, 0] rfl)
              · refine lv_iinc (v := nI (t + 1)) (lv' := [(1, .int (nI (t + 1))), (0, .ref (ad 0)), (2, .int (nI (i))), (3, .int (nI (j)))]) S.1 S.2.1 dX4_blocksOneByOne_30 hl (k := 1) rfl (mi_inc _) (by decide) rfl (fun ls hl => ?_)
                refine lv_iinc (v := nI (j + 1)) (lv' := [(3, .int (nI (j + 1))), (1, .int (nI (t + 1))), (0, .ref (ad 0)), (2, .int (nI (i)))]) S.1 S.2.1 dX4_blocksOneByOne_33 hl (k := 3) rfl (mi_inc _) (by decide) rfl (fun ls hl => ?_)
                refine lv_goto (tgt := 12) S.1 S.2.1 dX4_blocksOneByOne_36 (by decide) ?_
                exact ih12 (t + 1) (j + 1) _ (by omega) (by omega) (by rw [show 8 * i + (j + 1) = (8 * i + j) + 1 by omega, fb_sm_succ]; first | (rw [sp_bl_0 (by omega)]; omega) | (rw [sp_bl_1 (by omega)]; omega))  (lv_sub hl [2, 1, 3, 0] rfl)
        exact lp12 _ k 0 _ (Nat.lt_succ_self _) (by omega) (by rw [hk9]; rfl)  (lv_sub hl [1, 2, 3, 0] rfl)
  exact lp4 _ 0 0 _ (Nat.lt_succ_self _) (by omega) (by rfl)  (lv_sub hl [2, 1, 0] rfl)
set_option maxHeartbeats 4000000 in
set_option maxRecDepth 100000 in
theorem c_state (l : Launch) (D : va_G) (A : Nat → Prop) {ad : Nat → Nat} {cf : Nat → Option va_E} {S0 : sT} (hX : RepX D S0 ad cf) (hO : st_ok S0)  : mi_Rd l yX4_state (Cond.code yX4_state cX4_state 1 (some Jvm.ClassFile.FieldType.int)) (mi_rm 0) D A (mi_W D A ad cf) [.ref (ad 0)] (fun r => r = nI (sW S0)) := by
  refine mi_start (cc := cX4_state) (nL := 1) (ret := (some Jvm.ClassFile.FieldType.int)) rfl (by decide) (Nat.le_of_ble_eq_true rfl) ?_
  intro p e s m below meth c ls S E hW hS hr hk hn hl
  have S : CallFix p m c cX4_state 1 s _ ((Cond.code yX4_state cX4_state 1 (some Jvm.ClassFile.FieldType.int)) :: mi_G) RX4 := S
  have hl : lv_has ls 1 [(0, .ref (ad 0))] := hl
  obtain ⟨⟨o1, o2, o3, o4, o5⟩, oP, oK, oD, oX, oC, oI⟩ := id hO
  obtain ⟨x0, x1, x2, x3, ⟨pm, pq, pn, xp⟩, xs, ⟨co, hrr, grr, xd, xc⟩, x9⟩ := id hX
  have hx0 := x0
  unfold rx_ob at hx0
  obtain ⟨hsn, hkn⟩ := xs (sW S0) o3
  have hKb : ∀ j, j < 128 → sK S0 (sW S0) j < 4 := fun j hj => oK _ _ o3 hj
  refine lv_aload_n S.1 S.2.1 dX4_state_0 rfl (lv_at hl 0 rfl) ?_
  refine fg_X4_34 S E hW 0 rfl hx0 rfl dX4_state_1 ?_
  refine fg_X4_62 S E hW ((100 + 2 * sW S0)) rfl hsn rfl dX4_state_4 ?_
  exact mi_retR S hr hk dX4_state_7 (rfl)
set_option maxHeartbeats 4000000 in
set_option maxRecDepth 100000 in
theorem c_states (l : Launch) (D : va_G) (A : Nat → Prop) {ad : Nat → Nat} {cf : Nat → Option va_E} {S0 : sT} (hX : RepX D S0 ad cf) (hO : st_ok S0)  : mi_Rd l yX4_states (Cond.code yX4_states cX4_states 1 (some Jvm.ClassFile.FieldType.int)) (mi_rm 1) D A (mi_W D A ad cf) [.ref (ad 0)] (fun r => r = nI (sN S0)) := by
  refine mi_start (cc := cX4_states) (nL := 1) (ret := (some Jvm.ClassFile.FieldType.int)) rfl (by decide) (Nat.le_of_ble_eq_true rfl) ?_
  intro p e s m below meth c ls S E hW hS hr hk hn hl
  have S : CallFix p m c cX4_states 1 s _ ((Cond.code yX4_states cX4_states 1 (some Jvm.ClassFile.FieldType.int)) :: mi_G) RX4 := S
  have hl : lv_has ls 1 [(0, .ref (ad 0))] := hl
  obtain ⟨⟨o1, o2, o3, o4, o5⟩, oP, oK, oD, oX, oC, oI⟩ := id hO
  obtain ⟨x0, x1, x2, x3, ⟨pm, pq, pn, xp⟩, xs, ⟨co, hrr, grr, xd, xc⟩, x9⟩ := id hX
  have hx0 := x0
  unfold rx_ob at hx0
  obtain ⟨mc1, ea1, hs1⟩ := x1.size
  refine lv_aload_n S.1 S.2.1 dX4_states_0 rfl (lv_at hl 0 rfl) ?_
  refine fg_X4_12 S E hW 0 rfl hx0 rfl dX4_states_1 ?_
  refine mi_cR (mi_runV (P := mi_W D A ad cf) (As := []) (rest := []) S E hS hW (ad 1) (c_AL_size l D A hs1) (hW.recv E hs1 rfl) mw_307 mw_304 mw_305 mw_306 mw_21 ⟨by decide, by decide, by decide +kernel⟩ ⟨rfl, rfl, Nat.le_of_ble_eq_true rfl, Nat.le_of_ble_eq_true rfl⟩ (n := 0) rfl hl.1 rfl (Nat.le_of_ble_eq_true rfl) dX4_states_4 ⟨Nat.le_of_ble_eq_true rfl, Nat.le_of_ble_eq_true rfl⟩) (fun r9 e9 => ?_)
  subst e9
  exact mi_retR S hr hk dX4_states_7 (rfl)
set_option maxHeartbeats 4000000 in
set_option maxRecDepth 100000 in
theorem c_branches (l : Launch) (D : va_G) (A : Nat → Prop) {ad : Nat → Nat} {cf : Nat → Option va_E} {S0 : sT} (hX : RepX D S0 ad cf) (hO : st_ok S0)  : mi_Rd l yX4_branches (Cond.code yX4_branches cX4_branches 3 (some Jvm.ClassFile.FieldType.int)) (mi_rm 3) D A (mi_W D A ad cf) [.ref (ad 0)] (fun r => r = nI (sp_br S0 (sW S0) (sN S0))) := by
  refine mi_start (cc := cX4_branches) (nL := 3) (ret := (some Jvm.ClassFile.FieldType.int)) rfl (by decide) (Nat.le_of_ble_eq_true rfl) ?_
  intro p e s m below meth c ls S E hW hS hr hk hn hl
  have S : CallFix p m c cX4_branches 3 s _ ((Cond.code yX4_branches cX4_branches 3 (some Jvm.ClassFile.FieldType.int)) :: mi_G) RX4 := S
  have hl : lv_has ls 3 [(0, .ref (ad 0))] := hl
  obtain ⟨⟨o1, o2, o3, o4, o5⟩, oP, oK, oD, oX, oC, oI⟩ := id hO
  obtain ⟨x0, x1, x2, x3, ⟨pm, pq, pn, xp⟩, xs, ⟨co, hrr, grr, xd, xc⟩, x9⟩ := id hX
  have hx0 := x0
  unfold rx_ob at hx0
  obtain ⟨mc1, ea1, hs1⟩ := x1.size
  obtain ⟨mw1, cap1, f1, hc1, hn1, hr1, hq1, hf1⟩ := x1.row (by omega)
  refine lv_iconst (v := nI 0) S.1 S.2.1 dX4_branches_0 (by decide) ?_
  refine lv_istore_n (lv' := [(1, .int (nI (0))), (0, .ref (ad 0))]) S.1 S.2.1 dX4_branches_1 rfl hl (by decide) rfl (fun ls hl => ?_)
  refine lv_iconst (v := nI 0) S.1 S.2.1 dX4_branches_2 (by decide) ?_
  refine lv_istore_n (lv' := [(2, .int (nI (0))), (1, .int (nI (0))), (0, .ref (ad 0))]) S.1 S.2.1 dX4_branches_3 rfl hl (by decide) rfl (fun ls hl => ?_)
  have lp4 : ∀ (n4 : Nat) (k : Nat) (i : Nat) (ls : Array Slot), sN S0 - i < n4 → i ≤ sN S0 → k = sp_br S0 (sW S0) i → lv_has ls 3 [(0, .ref (ad 0)), (1, .int (nI (k))), (2, .int (nI (i)))] → W p l e (mi_rm 3) s m ([.ref (ad 0)] : List Value).toArray below meth c s.heap [] 0 0 (MQ below (vp_Si (fun r => r = nI (sp_br S0 (sW S0) (sN S0)))) ([.ref (ad 0)] : List Value).toArray s 0 0 (fun _ => False)) (F0 m 4 ls []) := by
    intro n4
    induction n4 with
    | zero => intro k i ls hm hi hk9  hl; exact absurd hm (Nat.not_lt_zero _)
    | succ n4 ih4 =>
      intro k i ls hm hi hk9  hl
      refine lv_iload_n S.1 S.2.1 dX4_branches_4 rfl (lv_at hl 2 rfl) ?_
      refine lv_aload_n S.1 S.2.1 dX4_branches_5 rfl (lv_at hl 0 rfl) ?_
      refine fg_X4_12 S E hW 0 rfl hx0 rfl dX4_branches_6 ?_
      refine mi_cR (mi_runV (P := mi_W D A ad cf) (As := []) (rest := [.int (nI (i))]) S E hS hW (ad 1) (c_AL_size l D A hs1) (hW.recv E hs1 rfl) mw_307 mw_304 mw_305 mw_306 mw_21 ⟨by decide, by decide, by decide +kernel⟩ ⟨rfl, rfl, Nat.le_of_ble_eq_true rfl, Nat.le_of_ble_eq_true rfl⟩ (n := 0) rfl hl.1 rfl (Nat.le_of_ble_eq_true rfl) dX4_branches_9 ⟨Nat.le_of_ble_eq_true rfl, Nat.le_of_ble_eq_true rfl⟩) (fun r9 e9 => ?_)
      subst e9
      refine mi_icmp_ge (tgt := 45) S (by omega) (by omega) dX4_branches_12 (by decide) (fun c12_0 => ?_) (fun c12_0 => ?_)
      · refine lv_iload_n S.1 S.2.1 dX4_branches_45 rfl (lv_at hl 1 rfl) ?_
        exact mi_retR S hr hk dX4_branches_46 (by rw [hk9, show i = sN S0 by omega])
      · have hb1 := sp_br_le S0 (sW S0) i
        have hpi := rx_po_iff hW hX hO (i := i) (by omega)
        refine lv_aload_n S.1 S.2.1 dX4_branches_15 rfl (lv_at hl 0 rfl) ?_
        refine fg_X4_12 S E hW 0 rfl hx0 rfl dX4_branches_16 ?_
        refine lv_iload_n S.1 S.2.1 dX4_branches_19 rfl (lv_at hl 2 rfl) ?_
        refine mi_cQ (mi_runV (P := mi_W D A ad cf) (As := [.int (nI (i))]) (rest := []) S E hS hW (ad 1) (c_AL_get l D A hr1 hq1 hc1 (i := i) (by omega) hn1) (hW.recv E hr1 rfl) mw_392 mw_389 mw_390 mw_391 mw_21 ⟨by decide, by decide, by decide +kernel⟩ ⟨rfl, rfl, Nat.le_of_ble_eq_true rfl, Nat.le_of_ble_eq_true rfl⟩ (n := 1) rfl hl.1 rfl (Nat.le_of_ble_eq_true rfl) dX4_branches_20 ⟨Nat.le_of_ble_eq_true rfl, Nat.le_of_ble_eq_true rfl⟩) (fun r9 e9 => ?_)
        subst e9
        refine mi_top (v' := .ref (ad (100 + 2 * i))) (congrArg va_rf (hf1 i (by omega))) ?_
        obtain ⟨hs2, hk2⟩ := xs i (by omega)
        rw [rx_par_rf] at hs2
        refine mi_castX S E hW ((100 + 2 * i)) rfl hs2 rfl (List.mem_cons_of_mem _ mw_89) dX4_branches_23 ?_
        refine fg_X4_111 S E hW ((100 + 2 * i)) rfl hs2 rfl dX4_branches_26 ?_
        refine lv_aload_n S.1 S.2.1 dX4_branches_29 rfl (lv_at hl 0 rfl) ?_
        refine fg_X4_34 S E hW 0 rfl hx0 rfl dX4_branches_30 ?_
        refine lv_acmp_ne (rx := (rx_po S0 ad i)) (ry := (some (ad (100 + 2 * sW S0)))) (tgt := 39) S.1 S.2.1 dX4_branches_33 (by decide) (fun c33_2 => ?_) (fun c33_2 => ?_)
        · refine lv_iinc (v := nI (i + 1)) (lv' := [(2, .int (nI (i + 1))), (0, .ref (ad 0)), (1, .int (nI (k)))]) S.1 S.2.1 dX4_branches_39 hl (k := 2) rfl (mi_inc _) (by decide) rfl (fun ls hl => ?_)
          refine lv_goto (tgt := 4) S.1 S.2.1 dX4_branches_42 (by decide) ?_
          exact ih4 k (i + 1) _ (by omega) (by omega) (by first | (rw [sp_br_1 (hpi.mp (by assumption))]; omega) | (rw [sp_br_0 (fun z => absurd (hpi.mpr z) (by assumption))]; omega))  (lv_sub hl [1, 2, 0] rfl)
        · refine lv_iinc (v := nI (k + 1)) (lv' := [(1, .int (nI (k + 1))), (0, .ref (ad 0)), (2, .int (nI (i)))]) S.1 S.2.1 dX4_branches_36 hl (k := 1) rfl (mi_inc _) (by decide) rfl (fun ls hl => ?_)
          refine lv_iinc (v := nI (i + 1)) (lv' := [(2, .int (nI (i + 1))), (1, .int (nI (k + 1))), (0, .ref (ad 0))]) S.1 S.2.1 dX4_branches_39 hl (k := 2) rfl (mi_inc _) (by decide) rfl (fun ls hl => ?_)
          refine lv_goto (tgt := 4) S.1 S.2.1 dX4_branches_42 (by decide) ?_
          exact ih4 (k + 1) (i + 1) _ (by omega) (by omega) (by first | (rw [sp_br_1 (hpi.mp (by assumption))]; omega) | (rw [sp_br_0 (fun z => absurd (hpi.mpr z) (by assumption))]; omega))  (lv_sub hl [2, 1, 0] rfl)
  exact lp4 _ 0 0 _ (Nat.lt_succ_self _) (by omega) (by rfl)  (lv_sub hl [2, 1, 0] rfl)
set_option maxHeartbeats 4000000 in
set_option maxRecDepth 100000 in
theorem c_unlike (l : Launch) (D : va_G) (A : Nat → Prop) {ad : Nat → Nat} {cf : Nat → Option va_E} {S0 : sT} (hX : RepX D S0 ad cf) (hO : st_ok S0) {a b : Nat} (ha : a < sN S0) (hb : b < sN S0) : mi_Rd l yX4_unlike (Cond.code yX4_unlike cX4_unlike 7 (some Jvm.ClassFile.FieldType.int)) (mi_rm 3) D A (mi_W D A ad cf) [.ref (ad 0), .int (nI (a)), .int (nI (b))] (fun r => r = nI (sp_ul S0 a b 16)) := by
  refine mi_start (cc := cX4_unlike) (nL := 7) (ret := (some Jvm.ClassFile.FieldType.int)) rfl (by decide) (Nat.le_of_ble_eq_true rfl) ?_
  intro p e s m below meth c ls S E hW hS hr hk hn hl
  have S : CallFix p m c cX4_unlike 7 s _ ((Cond.code yX4_unlike cX4_unlike 7 (some Jvm.ClassFile.FieldType.int)) :: mi_G) RX4 := S
  have hl : lv_has ls 7 [(0, .ref (ad 0)), (1, .int (nI (a))), (2, .int (nI (b)))] := hl
  obtain ⟨⟨o1, o2, o3, o4, o5⟩, oP, oK, oD, oX, oC, oI⟩ := id hO
  obtain ⟨x0, x1, x2, x3, ⟨pm, pq, pn, xp⟩, xs, ⟨co, hrr, grr, xd, xc⟩, x9⟩ := id hX
  have hx0 := x0
  unfold rx_ob at hx0
  obtain ⟨mw1, cap1, f1, hc1, hn1, hr1, hq1, hf1⟩ := x1.row (by omega)
  obtain ⟨hsa, hka⟩ := xs a ha
  obtain ⟨hsb, hkb⟩ := xs b hb
  refine lv_aload_n S.1 S.2.1 dX4_unlike_0 rfl (lv_at hl 0 rfl) ?_
  refine lv_iload_n S.1 S.2.1 dX4_unlike_1 rfl (lv_at hl 1 rfl) ?_
  refine mi_cV (mi_runV (P := mi_W D A ad cf) (As := [.int (nI (a))]) (rest := []) S E hS hW (ad 0) (c_checkState l D A hX hO (by omega)) (hW.recv E hx0 rfl) mw_387 mw_384 mw_386 mw_6 mw_18 ⟨by decide, by decide, by decide +kernel⟩ ⟨rfl, rfl, Nat.le_of_ble_eq_true rfl, Nat.le_of_ble_eq_true rfl⟩ (n := 1) rfl hl.1 rfl (Nat.le_of_ble_eq_true rfl) dX4_unlike_2 ⟨Nat.le_of_ble_eq_true rfl, Nat.le_of_ble_eq_true rfl⟩) ?_
  refine lv_aload_n S.1 S.2.1 dX4_unlike_5 rfl (lv_at hl 0 rfl) ?_
  refine lv_iload_n S.1 S.2.1 dX4_unlike_6 rfl (lv_at hl 2 rfl) ?_
  refine mi_cV (mi_runV (P := mi_W D A ad cf) (As := [.int (nI (b))]) (rest := []) S E hS hW (ad 0) (c_checkState l D A hX hO (by omega)) (hW.recv E hx0 rfl) mw_387 mw_384 mw_386 mw_6 mw_18 ⟨by decide, by decide, by decide +kernel⟩ ⟨rfl, rfl, Nat.le_of_ble_eq_true rfl, Nat.le_of_ble_eq_true rfl⟩ (n := 1) rfl hl.1 rfl (Nat.le_of_ble_eq_true rfl) dX4_unlike_7 ⟨Nat.le_of_ble_eq_true rfl, Nat.le_of_ble_eq_true rfl⟩) ?_
  refine lv_aload_n S.1 S.2.1 dX4_unlike_10 rfl (lv_at hl 0 rfl) ?_
  refine fg_X4_12 S E hW 0 rfl hx0 rfl dX4_unlike_11 ?_
  refine lv_iload_n S.1 S.2.1 dX4_unlike_14 rfl (lv_at hl 1 rfl) ?_
  refine mi_cQ (mi_runV (P := mi_W D A ad cf) (As := [.int (nI (a))]) (rest := []) S E hS hW (ad 1) (c_AL_get l D A hr1 hq1 hc1 (i := a) (by omega) hn1) (hW.recv E hr1 rfl) mw_392 mw_389 mw_390 mw_391 mw_21 ⟨by decide, by decide, by decide +kernel⟩ ⟨rfl, rfl, Nat.le_of_ble_eq_true rfl, Nat.le_of_ble_eq_true rfl⟩ (n := 1) rfl hl.1 rfl (Nat.le_of_ble_eq_true rfl) dX4_unlike_15 ⟨Nat.le_of_ble_eq_true rfl, Nat.le_of_ble_eq_true rfl⟩) (fun r9 e9 => ?_)
  subst e9
  refine mi_top (v' := .ref (ad (100 + 2 * a))) (congrArg va_rf (hf1 a (by omega))) ?_
  refine mi_castX S E hW ((100 + 2 * a)) rfl hsa rfl (List.mem_cons_of_mem _ mw_89) dX4_unlike_18 ?_
  refine lv_astore_n (lv' := [(3, .ref (ad (100 + 2 * a))), (0, .ref (ad 0)), (1, .int (nI (a))), (2, .int (nI (b)))]) S.1 S.2.1 dX4_unlike_21 rfl hl (by decide) rfl (fun ls hl => ?_)
  refine lv_aload_n S.1 S.2.1 dX4_unlike_22 rfl (lv_at hl 1 rfl) ?_
  refine fg_X4_12 S E hW 0 rfl hx0 rfl dX4_unlike_23 ?_
  refine lv_iload_n S.1 S.2.1 dX4_unlike_26 rfl (lv_at hl 3 rfl) ?_
  refine mi_cQ (mi_runV (P := mi_W D A ad cf) (As := [.int (nI (b))]) (rest := []) S E hS hW (ad 1) (c_AL_get l D A hr1 hq1 hc1 (i := b) (by omega) hn1) (hW.recv E hr1 rfl) mw_392 mw_389 mw_390 mw_391 mw_21 ⟨by decide, by decide, by decide +kernel⟩ ⟨rfl, rfl, Nat.le_of_ble_eq_true rfl, Nat.le_of_ble_eq_true rfl⟩ (n := 1) rfl hl.1 rfl (Nat.le_of_ble_eq_true rfl) dX4_unlike_27 ⟨Nat.le_of_ble_eq_true rfl, Nat.le_of_ble_eq_true rfl⟩) (fun r9 e9 => ?_)
  subst e9
  refine mi_top (v' := .ref (ad (100 + 2 * b))) (congrArg va_rf (hf1 b (by omega))) ?_
  refine mi_castX S E hW ((100 + 2 * b)) rfl hsb rfl (List.mem_cons_of_mem _ mw_89) dX4_unlike_30 ?_
  refine lv_astore (lv' := [(4, .ref (ad (100 + 2 * b))), (3, .ref (ad (100 + 2 * a))), (0, .ref (ad 0)), (1, .int (nI (a))), (2, .int (nI (b)))]) S.1 S.2.1 dX4_unlike_33 hl (by decide) rfl (fun ls hl => ?_)
  refine lv_iconst (v := nI 0) S.1 S.2.1 dX4_unlike_35 (by decide) ?_
  refine lv_istore (lv' := [(5, .int (nI (0))), (4, .ref (ad (100 + 2 * b))), (3, .ref (ad (100 + 2 * a))), (0, .ref (ad 0)), (1, .int (nI (a))), (2, .int (nI (b)))]) S.1 S.2.1 dX4_unlike_36 hl (by decide) rfl (fun ls hl => ?_)
  refine lv_iconst (v := nI 0) S.1 S.2.1 dX4_unlike_38 (by decide) ?_
  refine lv_istore (lv' := [(6, .int (nI (0))), (5, .int (nI (0))), (4, .ref (ad (100 + 2 * b))), (3, .ref (ad (100 + 2 * a))), (0, .ref (ad 0)), (1, .int (nI (a))), (2, .int (nI (b)))]) S.1 S.2.1 dX4_unlike_39 hl (by decide) rfl (fun ls hl => ?_)
  have lp41 : ∀ (n41 : Nat) (n : Nat) (i : Nat) (ls : Array Slot), 16 - i < n41 → i ≤ 16 → n = sp_ul S0 a b i → lv_has ls 7 [(0, .ref (ad 0)), (1, .int (nI (a))), (2, .int (nI (b))), (3, .ref (ad (100 + 2 * a))), (4, .ref (ad (100 + 2 * b))), (5, .int (nI (n))), (6, .int (nI (i)))] → W p l e (mi_rm 3) s m ([.ref (ad 0), .int (nI (a)), .int (nI (b))] : List Value).toArray below meth c s.heap [] 0 0 (MQ below (vp_Si (fun r => r = nI (sp_ul S0 a b 16))) ([.ref (ad 0), .int (nI (a)), .int (nI (b))] : List Value).toArray s 0 0 (fun _ => False)) (F0 m 41 ls []) := by
    intro n41
    induction n41 with
    | zero => intro n i ls hm hi hn9  hl; exact absurd hm (Nat.not_lt_zero _)
    | succ n41 ih41 =>
      intro n i ls hm hi hn9  hl
      refine lv_iload S.1 S.2.1 dX4_unlike_41 (lv_at hl 6 rfl) ?_
      refine lv_bipush (v := nI 16) S.1 S.2.1 dX4_unlike_43 (by decide) ?_
      refine mi_icmp_ge (tgt := 68) S (by omega) (by omega) dX4_unlike_45 (by decide) (fun c45_0 => ?_) (fun c45_0 => ?_)
      · refine lv_iload S.1 S.2.1 dX4_unlike_68 (lv_at hl 5 rfl) ?_
        exact mi_retR S hr hk dX4_unlike_70 (by rw [hn9, show i = 16 by omega])
      · have hb1 := sp_ul_le S0 a b i
        have hb2 := sp_fg_le (fun l => sK S0 a (8 * i + l)) (fun l => sK S0 b (8 * i + l)) 8
        refine lv_aload_n S.1 S.2.1 dX4_unlike_48 rfl (lv_at hl 3 rfl) ?_
        refine lv_aload S.1 S.2.1 dX4_unlike_49 (lv_at hl 4 rfl) ?_
        refine lv_iload S.1 S.2.1 dX4_unlike_51 (lv_at hl 6 rfl) ?_
        refine mi_cR (mi_runV (P := mi_W D A ad cf) (As := [.ref (ad (100 + 2 * b)), .int (nI (i))]) (rest := []) S E hS hW (ad (100 + 2 * a)) (c_X3_hasColumnAlike l D A hsa hka (fun j hj => oK _ _ ha hj) hsb hkb (fun j hj => oK _ _ hb hj) (a := i) (by omega)) (hW.recv E hsa rfl) mw_644 mw_641 mw_642 mw_643 mw_23 ⟨by decide, by decide, by decide +kernel⟩ ⟨rfl, rfl, Nat.le_of_ble_eq_true rfl, Nat.le_of_ble_eq_true rfl⟩ (n := 2) rfl hl.1 rfl (Nat.le_of_ble_eq_true rfl) dX4_unlike_53 ⟨Nat.le_of_ble_eq_true rfl, Nat.le_of_ble_eq_true rfl⟩) (fun r9 e9 => ?_)
        subst e9
        refine mi_if_ne (tgt := 62) S (by omega) dX4_unlike_56 (by decide) (fun c56_1 => ?_) (fun c56_1 => ?_)
        · refine lv_iinc (v := nI (i + 1)) (lv' := [(6, .int (nI (i + 1))), (0, .ref (ad 0)), (1, .int (nI (a))), (2, .int (nI (b))), (3, .ref (ad (100 + 2 * a))), (4, .ref (ad (100 + 2 * b))), (5, .int (nI (n)))]) S.1 S.2.1 dX4_unlike_62 hl (k := 6) rfl (mi_inc _) (by decide) rfl (fun ls hl => ?_)
          refine lv_goto (tgt := 41) S.1 S.2.1 dX4_unlike_65 (by decide) ?_
          exact ih41 n (i + 1) _ (by omega) (by omega) (by rw [sp_ul_s]; unfold sp_al; omega)  (lv_sub hl [1, 2, 3, 4, 5, 6, 0] rfl)
        · refine lv_iinc (v := nI (n + 1)) (lv' := [(5, .int (nI (n + 1))), (0, .ref (ad 0)), (1, .int (nI (a))), (2, .int (nI (b))), (3, .ref (ad (100 + 2 * a))), (4, .ref (ad (100 + 2 * b))), (6, .int (nI (i)))]) S.1 S.2.1 dX4_unlike_59 hl (k := 5) rfl (mi_inc _) (by decide) rfl (fun ls hl => ?_)
          refine lv_iinc (v := nI (i + 1)) (lv' := [(6, .int (nI (i + 1))), (5, .int (nI (n + 1))), (0, .ref (ad 0)), (1, .int (nI (a))), (2, .int (nI (b))), (3, .ref (ad (100 + 2 * a))), (4, .ref (ad (100 + 2 * b)))]) S.1 S.2.1 dX4_unlike_62 hl (k := 6) rfl (mi_inc _) (by decide) rfl (fun ls hl => ?_)
          refine lv_goto (tgt := 41) S.1 S.2.1 dX4_unlike_65 (by decide) ?_
          exact ih41 (n + 1) (i + 1) _ (by omega) (by omega) (by rw [sp_ul_s]; unfold sp_al; omega)  (lv_sub hl [2, 3, 4, 5, 6, 1, 0] rfl)
  exact lp41 _ 0 0 _ (Nat.lt_succ_self _) (by omega) (by rfl)  (lv_sub hl [4, 5, 6, 3, 2, 1, 0] rfl)
set_option maxHeartbeats 4000000 in
set_option maxRecDepth 100000 in
theorem c_unlike_x1 (l : Launch) (D : va_G) (A : Nat → Prop) (hst : l.stackTraces = false) {ad : Nat → Nat} {cf : Nat → Option va_E} {S0 : sT} (hX : RepX D S0 ad cf) (hO : st_ok S0) {x : Int32} (hx : ¬ (0 ≤ x.toInt ∧ x.toInt < sN S0)) {y : Int32} : mi_Th l yX4_unlike (Cond.code yX4_unlike cX4_unlike 7 (some Jvm.ClassFile.FieldType.int)) (mi_rq 7 1 6) D A (mi_W D A ad cf) [.ref (ad 0), .int (x), .int (y)] mi_IO 1 6 := by
  refine mi_startX (cc := cX4_unlike) (nL := 7) (ret := (some Jvm.ClassFile.FieldType.int)) rfl (by decide) (Nat.le_of_ble_eq_true rfl) ?_
  intro p e s m below meth c ls S E hW hS hr hk hno hl
  have S : CallFix p m c cX4_unlike 7 s _ ((Cond.code yX4_unlike cX4_unlike 7 (some Jvm.ClassFile.FieldType.int)) :: mi_G) RX4 := S
  have hl : lv_has ls 7 [(0, .ref (ad 0)), (1, .int (x)), (2, .int (y))] := hl
  obtain ⟨⟨o1, o2, o3, o4, o5⟩, oP, oK, oD, oX, oC, oI⟩ := id hO
  obtain ⟨x0, x1, x2, x3, ⟨pm, pq, pn, xp⟩, xs, ⟨co, hrr, grr, xd, xc⟩, x9⟩ := id hX
  have hx0 := x0
  unfold rx_ob at hx0
  refine lv_aload_n S.1 S.2.1 dX4_unlike_0 rfl (lv_at hl 0 rfl) ?_
  refine lv_iload_n S.1 S.2.1 dX4_unlike_1 rfl (lv_at hl 1 rfl) ?_
  refine mi_cTh (mi_runVX (P := mi_W D A ad cf) (As := [.int (x)]) (rest := []) S E hS hW (ad 0) (c_checkState_x l D A hst hX hO hx) (hW.recv E hx0 rfl) mw_387 mw_384 mw_386 mw_6 mw_18 ⟨by decide, by decide, by decide +kernel⟩ ⟨rfl, rfl, Nat.le_of_ble_eq_true rfl, Nat.le_of_ble_eq_true rfl⟩ (n := 1) rfl hl.1 rfl (Nat.le_of_ble_eq_true rfl) dX4_unlike_2 ⟨(by show _ ≤ (1 : Nat); omega), (by show _ ≤ (6 : Nat); omega)⟩) hS (fun ce q9 H locs hW hS h1 h2 h3 => ?_)
  exact mi_out hno hk hW hS h1 h2 h3 (by show _ ≤ (1 : Nat); omega) (by show _ ≤ (6 : Nat); omega)
set_option maxHeartbeats 4000000 in
set_option maxRecDepth 100000 in
theorem c_unlike_x2 (l : Launch) (D : va_G) (A : Nat → Prop) (hst : l.stackTraces = false) {ad : Nat → Nat} {cf : Nat → Option va_E} {S0 : sT} (hX : RepX D S0 ad cf) (hO : st_ok S0) {a : Nat} (ha : a < sN S0) {x : Int32} (hx : ¬ (0 ≤ x.toInt ∧ x.toInt < sN S0)) : mi_Th l yX4_unlike (Cond.code yX4_unlike cX4_unlike 7 (some Jvm.ClassFile.FieldType.int)) (mi_rq 7 1 6) D A (mi_W D A ad cf) [.ref (ad 0), .int (nI (a)), .int (x)] mi_IO 1 6 := by
  refine mi_startX (cc := cX4_unlike) (nL := 7) (ret := (some Jvm.ClassFile.FieldType.int)) rfl (by decide) (Nat.le_of_ble_eq_true rfl) ?_
  intro p e s m below meth c ls S E hW hS hr hk hno hl
  have S : CallFix p m c cX4_unlike 7 s _ ((Cond.code yX4_unlike cX4_unlike 7 (some Jvm.ClassFile.FieldType.int)) :: mi_G) RX4 := S
  have hl : lv_has ls 7 [(0, .ref (ad 0)), (1, .int (nI (a))), (2, .int (x))] := hl
  obtain ⟨⟨o1, o2, o3, o4, o5⟩, oP, oK, oD, oX, oC, oI⟩ := id hO
  obtain ⟨x0, x1, x2, x3, ⟨pm, pq, pn, xp⟩, xs, ⟨co, hrr, grr, xd, xc⟩, x9⟩ := id hX
  have hx0 := x0
  unfold rx_ob at hx0
  refine lv_aload_n S.1 S.2.1 dX4_unlike_0 rfl (lv_at hl 0 rfl) ?_
  refine lv_iload_n S.1 S.2.1 dX4_unlike_1 rfl (lv_at hl 1 rfl) ?_
  refine mi_cV (mi_runV (P := mi_W D A ad cf) (As := [.int (nI (a))]) (rest := []) S E hS hW (ad 0) (c_checkState l D A hX hO (by omega)) (hW.recv E hx0 rfl) mw_387 mw_384 mw_386 mw_6 mw_18 ⟨by decide, by decide, by decide +kernel⟩ ⟨rfl, rfl, Nat.le_of_ble_eq_true rfl, Nat.le_of_ble_eq_true rfl⟩ (n := 1) rfl hl.1 rfl (Nat.le_of_ble_eq_true rfl) dX4_unlike_2 ⟨Nat.le_of_ble_eq_true rfl, Nat.le_of_ble_eq_true rfl⟩) ?_
  refine lv_aload_n S.1 S.2.1 dX4_unlike_5 rfl (lv_at hl 0 rfl) ?_
  refine lv_iload_n S.1 S.2.1 dX4_unlike_6 rfl (lv_at hl 2 rfl) ?_
  refine mi_cTh (mi_runVX (P := mi_W D A ad cf) (As := [.int (x)]) (rest := []) S E hS hW (ad 0) (c_checkState_x l D A hst hX hO hx) (hW.recv E hx0 rfl) mw_387 mw_384 mw_386 mw_6 mw_18 ⟨by decide, by decide, by decide +kernel⟩ ⟨rfl, rfl, Nat.le_of_ble_eq_true rfl, Nat.le_of_ble_eq_true rfl⟩ (n := 1) rfl hl.1 rfl (Nat.le_of_ble_eq_true rfl) dX4_unlike_7 ⟨(by show _ ≤ (1 : Nat); omega), (by show _ ≤ (6 : Nat); omega)⟩) hS (fun ce q9 H locs hW hS h1 h2 h3 => ?_)
  exact mi_out hno hk hW hS h1 h2 h3 (by show _ ≤ (1 : Nat); omega) (by show _ ≤ (6 : Nat); omega)
set_option maxHeartbeats 4000000 in
set_option maxRecDepth 100000 in
theorem c_distanceOfRows (l : Launch) (D : va_G) (A : Nat → Prop) {ad : Nat → Nat} {cf : Nat → Option va_E} {ra rb : Nat} {h0 h9 : Nat → Nat} (hra : cf ra = some (mi_ai D 16 (fun c => nI (h0 c)))) (hrb : cf rb = some (mi_ai D 16 (fun c => nI (h9 c)))) (hb0 : ∀ c, c < 16 → h0 c ≤ 8) (hb9 : ∀ c, c < 16 → h9 c ≤ 8) : mi_Rd l yX4_distanceOfRows (Cond.code yX4_distanceOfRows cX4_distanceOfRows 4 (some Jvm.ClassFile.FieldType.int)) (mi_rm 1) D A (mi_W D A ad cf) [.ref (ad ra), .ref (ad rb)] (fun r => r = nI (sp_ds h0 h9 16)) := by
  refine mi_start (cc := cX4_distanceOfRows) (nL := 4) (ret := (some Jvm.ClassFile.FieldType.int)) rfl (by decide) (Nat.le_of_ble_eq_true rfl) ?_
  intro p e s m below meth c ls S E hW hS hr hk hn hl
  have S : CallFix p m c cX4_distanceOfRows 4 s _ ((Cond.code yX4_distanceOfRows cX4_distanceOfRows 4 (some Jvm.ClassFile.FieldType.int)) :: mi_G) RX4 := S
  have hl : lv_has ls 4 [(0, .ref (ad ra)), (1, .ref (ad rb))] := hl
  refine lv_iconst (v := nI 0) S.1 S.2.1 dX4_distanceOfRows_0 (by decide) ?_
  refine lv_istore_n (lv' := [(2, .int (nI (0))), (0, .ref (ad ra)), (1, .ref (ad rb))]) S.1 S.2.1 dX4_distanceOfRows_1 rfl hl (by decide) rfl (fun ls hl => ?_)
  refine lv_iconst (v := nI 0) S.1 S.2.1 dX4_distanceOfRows_2 (by decide) ?_
  refine lv_istore_n (lv' := [(3, .int (nI (0))), (2, .int (nI (0))), (0, .ref (ad ra)), (1, .ref (ad rb))]) S.1 S.2.1 dX4_distanceOfRows_3 rfl hl (by decide) rfl (fun ls hl => ?_)
  have lp4 : ∀ (n4 : Nat) (n : Nat) (i : Nat) (ls : Array Slot), 16 - i < n4 → i ≤ 16 → n = sp_ds h0 h9 i → lv_has ls 4 [(0, .ref (ad ra)), (1, .ref (ad rb)), (2, .int (nI (n))), (3, .int (nI (i)))] → W p l e (mi_rm 1) s m ([.ref (ad ra), .ref (ad rb)] : List Value).toArray below meth c s.heap [] 0 0 (MQ below (vp_Si (fun r => r = nI (sp_ds h0 h9 16))) ([.ref (ad ra), .ref (ad rb)] : List Value).toArray s 0 0 (fun _ => False)) (F0 m 4 ls []) := by
    intro n4
    induction n4 with
    | zero => intro n i ls hm hi hn9  hl; exact absurd hm (Nat.not_lt_zero _)
    | succ n4 ih4 =>
      intro n i ls hm hi hn9  hl
      refine lv_iload_n S.1 S.2.1 dX4_distanceOfRows_4 rfl (lv_at hl 3 rfl) ?_
      refine lv_aload_n S.1 S.2.1 dX4_distanceOfRows_5 rfl (lv_at hl 0 rfl) ?_
      refine mi_alen S E hW ra 0 rfl hra rfl dX4_distanceOfRows_6 ?_
      refine mi_top (v' := .int (nI (16))) rfl ?_
      refine mi_icmp_ge (tgt := 35) S (by omega) (by omega) dX4_distanceOfRows_7 (by decide) (fun c7_0 => ?_) (fun c7_0 => ?_)
      · refine lv_iload_n S.1 S.2.1 dX4_distanceOfRows_35 rfl (lv_at hl 2 rfl) ?_
        exact mi_retR S hr hk dX4_distanceOfRows_36 (by rw [hn9, show i = 16 by omega])
      · refine lv_iload_n S.1 S.2.1 dX4_distanceOfRows_10 rfl (lv_at hl 3 rfl) ?_
        refine lv_aload_n S.1 S.2.1 dX4_distanceOfRows_11 rfl (lv_at hl 1 rfl) ?_
        refine mi_alen S E hW rb 0 rfl hrb rfl dX4_distanceOfRows_12 ?_
        refine mi_top (v' := .int (nI (16))) rfl ?_
        refine mi_icmp_ge (tgt := 35) S (by omega) (by omega) dX4_distanceOfRows_13 (by decide) (fun c13_1 => ?_) (fun c13_1 => ?_)
        · refine lv_iload_n S.1 S.2.1 dX4_distanceOfRows_35 rfl (lv_at hl 2 rfl) ?_
          exact mi_retR S hr hk dX4_distanceOfRows_36 (by rw [hn9, show i = 16 by omega])
        · have hf0 := hb0 i (by omega)
          have hf9 := hb9 i (by omega)
          refine lv_iload_n S.1 S.2.1 dX4_distanceOfRows_16 rfl (lv_at hl 2 rfl) ?_
          refine lv_aload_n S.1 S.2.1 dX4_distanceOfRows_17 rfl (lv_at hl 0 rfl) ?_
          refine lv_iload_n S.1 S.2.1 dX4_distanceOfRows_18 rfl (lv_at hl 3 rfl) ?_
          refine mi_iald S E hW ra rfl hra (by omega) (by omega) dX4_distanceOfRows_19 ?_
          refine lv_aload_n S.1 S.2.1 dX4_distanceOfRows_20 rfl (lv_at hl 1 rfl) ?_
          refine lv_iload_n S.1 S.2.1 dX4_distanceOfRows_21 rfl (lv_at hl 3 rfl) ?_
          refine mi_iald S E hW rb rfl hrb (by omega) (by omega) dX4_distanceOfRows_22 ?_
          refine lv_isub S.1 S.2.1 dX4_distanceOfRows_23 ?_
          refine mi_mabs S (by omega) (by omega) (List.mem_cons_of_mem _ mw_672) (List.mem_cons_of_mem _ mw_673) (List.mem_cons_of_mem _ mw_25) (List.mem_cons_of_mem _ mk_abs) hl.1 (Nat.le_of_ble_eq_true rfl) (Nat.le_of_ble_eq_true rfl) (Nat.zero_le _) (Nat.zero_le _) dX4_distanceOfRows_24 ?_
          refine mi_top (v' := .int (nI (sp_df (h0 i) (h9 i)))) rfl ?_
          refine mi_iadd S dX4_distanceOfRows_27 ?_
          refine lv_istore_n (lv' := [(2, .int (nI (n + (sp_df (h0 i) (h9 i))))), (0, .ref (ad ra)), (1, .ref (ad rb)), (3, .int (nI (i)))]) S.1 S.2.1 dX4_distanceOfRows_28 rfl hl (by decide) rfl (fun ls hl => ?_)
          refine lv_iinc (v := nI (i + 1)) (lv' := [(3, .int (nI (i + 1))), (2, .int (nI (n + (sp_df (h0 i) (h9 i))))), (0, .ref (ad ra)), (1, .ref (ad rb))]) S.1 S.2.1 dX4_distanceOfRows_29 hl (k := 3) rfl (mi_inc _) (by decide) rfl (fun ls hl => ?_)
          refine lv_goto (tgt := 4) S.1 S.2.1 dX4_distanceOfRows_32 (by decide) ?_
          exact ih4 (n + (sp_df (h0 i) (h9 i))) (i + 1) _ (by omega) (by omega) (by rw [sp_ds_s, ← hn9])  (lv_sub hl [2, 3, 1, 0] rfl)
  exact lp4 _ 0 0 _ (Nat.lt_succ_self _) (by omega) (by rfl)  (lv_sub hl [2, 3, 1, 0] rfl)
set_option maxHeartbeats 4000000 in
set_option maxRecDepth 100000 in
theorem c_dieHeight (l : Launch) (D : va_G) (A : Nat → Prop) {ad : Nat → Nat} {cf : Nat → Option va_E} {S0 : sT} (hX : RepX D S0 ad cf) (hO : st_ok S0) {d : Nat} (hd : d < sD S0) {b : Nat} (hb : b < 16) : mi_Rd l yX4_dieHeight (Cond.code yX4_dieHeight cX4_dieHeight 3 (some Jvm.ClassFile.FieldType.int)) (mi_rm 3) D A (mi_W D A ad cf) [.ref (ad 0), .int (nI (d)), .int (nI (b))] (fun r => r = nI (sH S0 d b)) := by
  refine mi_start (cc := cX4_dieHeight) (nL := 3) (ret := (some Jvm.ClassFile.FieldType.int)) rfl (by decide) (Nat.le_of_ble_eq_true rfl) ?_
  intro p e s m below meth c ls S E hW hS hr hk hn hl
  have S : CallFix p m c cX4_dieHeight 3 s _ ((Cond.code yX4_dieHeight cX4_dieHeight 3 (some Jvm.ClassFile.FieldType.int)) :: mi_G) RX4 := S
  have hl : lv_has ls 3 [(0, .ref (ad 0)), (1, .int (nI (d))), (2, .int (nI (b)))] := hl
  obtain ⟨⟨o1, o2, o3, o4, o5⟩, oP, oK, oD, oX, oC, oI⟩ := id hO
  obtain ⟨x0, x1, x2, x3, ⟨pm, pq, pn, xp⟩, xs, ⟨co, hrr, grr, xd, xc⟩, x9⟩ := id hX
  have hx0 := x0
  unfold rx_ob at hx0
  obtain ⟨mw2, cap2, f2, hc2, hn2, hr2, hq2, hf2⟩ := x2.row (by omega)
  refine lv_aload_n S.1 S.2.1 dX4_dieHeight_0 rfl (lv_at hl 0 rfl) ?_
  refine lv_iload_n S.1 S.2.1 dX4_dieHeight_1 rfl (lv_at hl 1 rfl) ?_
  refine mi_cV (mi_runV (P := mi_W D A ad cf) (As := [.int (nI (d))]) (rest := []) S E hS hW (ad 0) (c_checkDie l D A hX hO (by omega)) (hW.recv E hx0 rfl) mw_515 mw_512 mw_514 mw_11 mw_18 ⟨by decide, by decide, by decide +kernel⟩ ⟨rfl, rfl, Nat.le_of_ble_eq_true rfl, Nat.le_of_ble_eq_true rfl⟩ (n := 1) rfl hl.1 rfl (Nat.le_of_ble_eq_true rfl) dX4_dieHeight_2 ⟨Nat.le_of_ble_eq_true rfl, Nat.le_of_ble_eq_true rfl⟩) ?_
  refine lv_iload_n S.1 S.2.1 dX4_dieHeight_5 rfl (lv_at hl 2 rfl) ?_
  refine mi_cV (mi_runS (P := mi_W D A ad cf) (As := [.int (nI (b))]) (rest := []) S E hS hW (c_checkColumn l D A (mi_W D A ad cf) (by omega)) mw_202 mw_200 mw_201 mw_18 ⟨by decide, by decide, by decide +kernel⟩ ⟨rfl, rfl, Nat.le_of_ble_eq_true rfl, Nat.le_of_ble_eq_true rfl⟩ (n := 1) rfl hl.1 rfl (Nat.le_of_ble_eq_true rfl) dX4_dieHeight_6 ⟨Nat.le_of_ble_eq_true rfl, Nat.le_of_ble_eq_true rfl⟩) ?_
  refine lv_aload_n S.1 S.2.1 dX4_dieHeight_9 rfl (lv_at hl 0 rfl) ?_
  refine fg_X4_16 S E hW 0 rfl hx0 rfl dX4_dieHeight_10 ?_
  refine lv_iload_n S.1 S.2.1 dX4_dieHeight_13 rfl (lv_at hl 1 rfl) ?_
  refine mi_cQ (mi_runV (P := mi_W D A ad cf) (As := [.int (nI (d))]) (rest := []) S E hS hW (ad 2) (c_AL_get l D A hr2 hq2 hc2 (i := d) (by omega) hn2) (hW.recv E hr2 rfl) mw_392 mw_389 mw_390 mw_391 mw_21 ⟨by decide, by decide, by decide +kernel⟩ ⟨rfl, rfl, Nat.le_of_ble_eq_true rfl, Nat.le_of_ble_eq_true rfl⟩ (n := 1) rfl hl.1 rfl (Nat.le_of_ble_eq_true rfl) dX4_dieHeight_14 ⟨Nat.le_of_ble_eq_true rfl, Nat.le_of_ble_eq_true rfl⟩) (fun r9 e9 => ?_)
  subst e9
  refine mi_top (v' := .ref (ad (300 + d))) (congrArg va_rf (hf2 d (by omega))) ?_
  obtain ⟨⟨hd1, hd2, hd3, hd4⟩, hd5⟩ := xd d (by omega)
  refine mi_castX S E hW ((300 + d)) rfl hd1 rfl (List.mem_cons_of_mem _ mw_470) dX4_dieHeight_17 ?_
  refine fg_X4_178 S E hW ((300 + d)) rfl hd1 rfl dX4_dieHeight_20 ?_
  refine lv_iload_n S.1 S.2.1 dX4_dieHeight_23 rfl (lv_at hl 2 rfl) ?_
  refine mi_iald S E hW ((320 + d)) rfl hd3 (by omega) (by omega) dX4_dieHeight_24 ?_
  exact mi_retR S hr hk dX4_dieHeight_25 (rfl)
set_option maxHeartbeats 4000000 in
set_option maxRecDepth 100000 in
theorem c_dieHeight_x1 (l : Launch) (D : va_G) (A : Nat → Prop) (hst : l.stackTraces = false) {ad : Nat → Nat} {cf : Nat → Option va_E} {S0 : sT} (hX : RepX D S0 ad cf) (hO : st_ok S0) {x : Int32} (hx : ¬ (0 ≤ x.toInt ∧ x.toInt < sD S0)) {y : Int32} : mi_Th l yX4_dieHeight (Cond.code yX4_dieHeight cX4_dieHeight 3 (some Jvm.ClassFile.FieldType.int)) (mi_rq 7 1 6) D A (mi_W D A ad cf) [.ref (ad 0), .int (x), .int (y)] mi_IO 1 6 := by
  refine mi_startX (cc := cX4_dieHeight) (nL := 3) (ret := (some Jvm.ClassFile.FieldType.int)) rfl (by decide) (Nat.le_of_ble_eq_true rfl) ?_
  intro p e s m below meth c ls S E hW hS hr hk hno hl
  have S : CallFix p m c cX4_dieHeight 3 s _ ((Cond.code yX4_dieHeight cX4_dieHeight 3 (some Jvm.ClassFile.FieldType.int)) :: mi_G) RX4 := S
  have hl : lv_has ls 3 [(0, .ref (ad 0)), (1, .int (x)), (2, .int (y))] := hl
  obtain ⟨⟨o1, o2, o3, o4, o5⟩, oP, oK, oD, oX, oC, oI⟩ := id hO
  obtain ⟨x0, x1, x2, x3, ⟨pm, pq, pn, xp⟩, xs, ⟨co, hrr, grr, xd, xc⟩, x9⟩ := id hX
  have hx0 := x0
  unfold rx_ob at hx0
  refine lv_aload_n S.1 S.2.1 dX4_dieHeight_0 rfl (lv_at hl 0 rfl) ?_
  refine lv_iload_n S.1 S.2.1 dX4_dieHeight_1 rfl (lv_at hl 1 rfl) ?_
  refine mi_cTh (mi_runVX (P := mi_W D A ad cf) (As := [.int (x)]) (rest := []) S E hS hW (ad 0) (c_checkDie_x l D A hst hX hO hx) (hW.recv E hx0 rfl) mw_515 mw_512 mw_514 mw_11 mw_18 ⟨by decide, by decide, by decide +kernel⟩ ⟨rfl, rfl, Nat.le_of_ble_eq_true rfl, Nat.le_of_ble_eq_true rfl⟩ (n := 1) rfl hl.1 rfl (Nat.le_of_ble_eq_true rfl) dX4_dieHeight_2 ⟨(by show _ ≤ (1 : Nat); omega), (by show _ ≤ (6 : Nat); omega)⟩) hS (fun ce q9 H locs hW hS h1 h2 h3 => ?_)
  exact mi_out hno hk hW hS h1 h2 h3 (by show _ ≤ (1 : Nat); omega) (by show _ ≤ (6 : Nat); omega)
set_option maxHeartbeats 4000000 in
set_option maxRecDepth 100000 in
theorem c_dieHeight_x2 (l : Launch) (D : va_G) (A : Nat → Prop) (hst : l.stackTraces = false) {ad : Nat → Nat} {cf : Nat → Option va_E} {S0 : sT} (hX : RepX D S0 ad cf) (hO : st_ok S0) {d : Nat} (hd : d < sD S0) {x : Int32} (hx : ¬ (0 ≤ x.toInt ∧ x.toInt < 16)) : mi_Th l yX4_dieHeight (Cond.code yX4_dieHeight cX4_dieHeight 3 (some Jvm.ClassFile.FieldType.int)) (mi_rq 7 1 6) D A (mi_W D A ad cf) [.ref (ad 0), .int (nI (d)), .int (x)] mi_IO 1 6 := by
  refine mi_startX (cc := cX4_dieHeight) (nL := 3) (ret := (some Jvm.ClassFile.FieldType.int)) rfl (by decide) (Nat.le_of_ble_eq_true rfl) ?_
  intro p e s m below meth c ls S E hW hS hr hk hno hl
  have S : CallFix p m c cX4_dieHeight 3 s _ ((Cond.code yX4_dieHeight cX4_dieHeight 3 (some Jvm.ClassFile.FieldType.int)) :: mi_G) RX4 := S
  have hl : lv_has ls 3 [(0, .ref (ad 0)), (1, .int (nI (d))), (2, .int (x))] := hl
  obtain ⟨⟨o1, o2, o3, o4, o5⟩, oP, oK, oD, oX, oC, oI⟩ := id hO
  obtain ⟨x0, x1, x2, x3, ⟨pm, pq, pn, xp⟩, xs, ⟨co, hrr, grr, xd, xc⟩, x9⟩ := id hX
  have hx0 := x0
  unfold rx_ob at hx0
  refine lv_aload_n S.1 S.2.1 dX4_dieHeight_0 rfl (lv_at hl 0 rfl) ?_
  refine lv_iload_n S.1 S.2.1 dX4_dieHeight_1 rfl (lv_at hl 1 rfl) ?_
  refine mi_cV (mi_runV (P := mi_W D A ad cf) (As := [.int (nI (d))]) (rest := []) S E hS hW (ad 0) (c_checkDie l D A hX hO (by omega)) (hW.recv E hx0 rfl) mw_515 mw_512 mw_514 mw_11 mw_18 ⟨by decide, by decide, by decide +kernel⟩ ⟨rfl, rfl, Nat.le_of_ble_eq_true rfl, Nat.le_of_ble_eq_true rfl⟩ (n := 1) rfl hl.1 rfl (Nat.le_of_ble_eq_true rfl) dX4_dieHeight_2 ⟨Nat.le_of_ble_eq_true rfl, Nat.le_of_ble_eq_true rfl⟩) ?_
  refine lv_iload_n S.1 S.2.1 dX4_dieHeight_5 rfl (lv_at hl 2 rfl) ?_
  refine mi_cTh (mi_runSX (P := mi_W D A ad cf) (As := [.int (x)]) (rest := []) S E hS hW (c_checkColumn_x l D A hst hx) mw_202 mw_200 mw_201 mw_18 ⟨by decide, by decide, by decide +kernel⟩ ⟨rfl, rfl, Nat.le_of_ble_eq_true rfl, Nat.le_of_ble_eq_true rfl⟩ (n := 1) rfl hl.1 rfl (Nat.le_of_ble_eq_true rfl) dX4_dieHeight_6 ⟨(by show _ ≤ (1 : Nat); omega), (by show _ ≤ (6 : Nat); omega)⟩) hS (fun ce q9 H locs hW hS h1 h2 h3 => ?_)
  exact mi_out hno hk hW hS h1 h2 h3 (by show _ ≤ (1 : Nat); omega) (by show _ ≤ (6 : Nat); omega)
set_option maxHeartbeats 4000000 in
set_option maxRecDepth 100000 in
theorem c_coinHeight (l : Launch) (D : va_G) (A : Nat → Prop) {ad : Nat → Nat} {cf : Nat → Option va_E} {S0 : sT} (hX : RepX D S0 ad cf) (hO : st_ok S0) {a : Nat} (ha : a < sC S0) {b : Nat} (hb : b < 16) : mi_Rd l yX4_coinHeight (Cond.code yX4_coinHeight cX4_coinHeight 3 (some Jvm.ClassFile.FieldType.int)) (mi_rm 3) D A (mi_W D A ad cf) [.ref (ad 0), .int (nI (a)), .int (nI (b))] (fun r => r = nI (sCh S0 a b)) := by
  refine mi_start (cc := cX4_coinHeight) (nL := 3) (ret := (some Jvm.ClassFile.FieldType.int)) rfl (by decide) (Nat.le_of_ble_eq_true rfl) ?_
  intro p e s m below meth c ls S E hW hS hr hk hn hl
  have S : CallFix p m c cX4_coinHeight 3 s _ ((Cond.code yX4_coinHeight cX4_coinHeight 3 (some Jvm.ClassFile.FieldType.int)) :: mi_G) RX4 := S
  have hl : lv_has ls 3 [(0, .ref (ad 0)), (1, .int (nI (a))), (2, .int (nI (b)))] := hl
  obtain ⟨⟨o1, o2, o3, o4, o5⟩, oP, oK, oD, oX, oC, oI⟩ := id hO
  obtain ⟨x0, x1, x2, x3, ⟨pm, pq, pn, xp⟩, xs, ⟨co, hrr, grr, xd, xc⟩, x9⟩ := id hX
  have hx0 := x0
  unfold rx_ob at hx0
  obtain ⟨mw3, cap3, f3, hc3, hn3, hr3, hq3, hf3⟩ := x3.row (by omega)
  refine lv_aload_n S.1 S.2.1 dX4_coinHeight_0 rfl (lv_at hl 0 rfl) ?_
  refine lv_iload_n S.1 S.2.1 dX4_coinHeight_1 rfl (lv_at hl 1 rfl) ?_
  refine mi_cV (mi_runV (P := mi_W D A ad cf) (As := [.int (nI (a))]) (rest := []) S E hS hW (ad 0) (c_checkCoin l D A hX hO (by omega)) (hW.recv E hx0 rfl) mw_572 mw_569 mw_571 mw_15 mw_18 ⟨by decide, by decide, by decide +kernel⟩ ⟨rfl, rfl, Nat.le_of_ble_eq_true rfl, Nat.le_of_ble_eq_true rfl⟩ (n := 1) rfl hl.1 rfl (Nat.le_of_ble_eq_true rfl) dX4_coinHeight_2 ⟨Nat.le_of_ble_eq_true rfl, Nat.le_of_ble_eq_true rfl⟩) ?_
  refine lv_iload_n S.1 S.2.1 dX4_coinHeight_5 rfl (lv_at hl 2 rfl) ?_
  refine mi_cV (mi_runS (P := mi_W D A ad cf) (As := [.int (nI (b))]) (rest := []) S E hS hW (c_checkColumn l D A (mi_W D A ad cf) (by omega)) mw_202 mw_200 mw_201 mw_18 ⟨by decide, by decide, by decide +kernel⟩ ⟨rfl, rfl, Nat.le_of_ble_eq_true rfl, Nat.le_of_ble_eq_true rfl⟩ (n := 1) rfl hl.1 rfl (Nat.le_of_ble_eq_true rfl) dX4_coinHeight_6 ⟨Nat.le_of_ble_eq_true rfl, Nat.le_of_ble_eq_true rfl⟩) ?_
  refine lv_aload_n S.1 S.2.1 dX4_coinHeight_9 rfl (lv_at hl 0 rfl) ?_
  refine fg_X4_19 S E hW 0 rfl hx0 rfl dX4_coinHeight_10 ?_
  refine lv_iload_n S.1 S.2.1 dX4_coinHeight_13 rfl (lv_at hl 1 rfl) ?_
  refine mi_cQ (mi_runV (P := mi_W D A ad cf) (As := [.int (nI (a))]) (rest := []) S E hS hW (ad 3) (c_AL_get l D A hr3 hq3 hc3 (i := a) (by omega) hn3) (hW.recv E hr3 rfl) mw_392 mw_389 mw_390 mw_391 mw_21 ⟨by decide, by decide, by decide +kernel⟩ ⟨rfl, rfl, Nat.le_of_ble_eq_true rfl, Nat.le_of_ble_eq_true rfl⟩ (n := 1) rfl hl.1 rfl (Nat.le_of_ble_eq_true rfl) dX4_coinHeight_14 ⟨Nat.le_of_ble_eq_true rfl, Nat.le_of_ble_eq_true rfl⟩) (fun r9 e9 => ?_)
  subst e9
  refine mi_top (v' := .ref (ad (400 + a))) (congrArg va_rf (hf3 a (by omega))) ?_
  obtain ⟨hcx1, hcx2, hcx3, hcx4, Gx, hcx5, hcx6⟩ := xc a (by omega)
  refine mi_castX S E hW ((400 + a)) rfl hcx1 rfl (List.mem_cons_of_mem _ mw_576) dX4_coinHeight_17 ?_
  refine fg_X4_171 S E hW ((400 + a)) rfl hcx1 rfl dX4_coinHeight_20 ?_
  refine lv_iload_n S.1 S.2.1 dX4_coinHeight_23 rfl (lv_at hl 2 rfl) ?_
  refine mi_iald S E hW ((500 + hrr a)) rfl hcx4 (by omega) (by omega) dX4_coinHeight_24 ?_
  exact mi_retR S hr hk dX4_coinHeight_25 (rfl)
set_option maxHeartbeats 4000000 in
set_option maxRecDepth 100000 in
theorem c_coinHeight_x1 (l : Launch) (D : va_G) (A : Nat → Prop) (hst : l.stackTraces = false) {ad : Nat → Nat} {cf : Nat → Option va_E} {S0 : sT} (hX : RepX D S0 ad cf) (hO : st_ok S0) {x : Int32} (hx : ¬ (0 ≤ x.toInt ∧ x.toInt < sC S0)) {y : Int32} : mi_Th l yX4_coinHeight (Cond.code yX4_coinHeight cX4_coinHeight 3 (some Jvm.ClassFile.FieldType.int)) (mi_rq 7 1 6) D A (mi_W D A ad cf) [.ref (ad 0), .int (x), .int (y)] mi_IO 1 6 := by
  refine mi_startX (cc := cX4_coinHeight) (nL := 3) (ret := (some Jvm.ClassFile.FieldType.int)) rfl (by decide) (Nat.le_of_ble_eq_true rfl) ?_
  intro p e s m below meth c ls S E hW hS hr hk hno hl
  have S : CallFix p m c cX4_coinHeight 3 s _ ((Cond.code yX4_coinHeight cX4_coinHeight 3 (some Jvm.ClassFile.FieldType.int)) :: mi_G) RX4 := S
  have hl : lv_has ls 3 [(0, .ref (ad 0)), (1, .int (x)), (2, .int (y))] := hl
  obtain ⟨⟨o1, o2, o3, o4, o5⟩, oP, oK, oD, oX, oC, oI⟩ := id hO
  obtain ⟨x0, x1, x2, x3, ⟨pm, pq, pn, xp⟩, xs, ⟨co, hrr, grr, xd, xc⟩, x9⟩ := id hX
  have hx0 := x0
  unfold rx_ob at hx0
  refine lv_aload_n S.1 S.2.1 dX4_coinHeight_0 rfl (lv_at hl 0 rfl) ?_
  refine lv_iload_n S.1 S.2.1 dX4_coinHeight_1 rfl (lv_at hl 1 rfl) ?_
  refine mi_cTh (mi_runVX (P := mi_W D A ad cf) (As := [.int (x)]) (rest := []) S E hS hW (ad 0) (c_checkCoin_x l D A hst hX hO hx) (hW.recv E hx0 rfl) mw_572 mw_569 mw_571 mw_15 mw_18 ⟨by decide, by decide, by decide +kernel⟩ ⟨rfl, rfl, Nat.le_of_ble_eq_true rfl, Nat.le_of_ble_eq_true rfl⟩ (n := 1) rfl hl.1 rfl (Nat.le_of_ble_eq_true rfl) dX4_coinHeight_2 ⟨(by show _ ≤ (1 : Nat); omega), (by show _ ≤ (6 : Nat); omega)⟩) hS (fun ce q9 H locs hW hS h1 h2 h3 => ?_)
  exact mi_out hno hk hW hS h1 h2 h3 (by show _ ≤ (1 : Nat); omega) (by show _ ≤ (6 : Nat); omega)
set_option maxHeartbeats 4000000 in
set_option maxRecDepth 100000 in
theorem c_coinHeight_x2 (l : Launch) (D : va_G) (A : Nat → Prop) (hst : l.stackTraces = false) {ad : Nat → Nat} {cf : Nat → Option va_E} {S0 : sT} (hX : RepX D S0 ad cf) (hO : st_ok S0) {a : Nat} (ha : a < sC S0) {x : Int32} (hx : ¬ (0 ≤ x.toInt ∧ x.toInt < 16)) : mi_Th l yX4_coinHeight (Cond.code yX4_coinHeight cX4_coinHeight 3 (some Jvm.ClassFile.FieldType.int)) (mi_rq 7 1 6) D A (mi_W D A ad cf) [.ref (ad 0), .int (nI (a)), .int (x)] mi_IO 1 6 := by
  refine mi_startX (cc := cX4_coinHeight) (nL := 3) (ret := (some Jvm.ClassFile.FieldType.int)) rfl (by decide) (Nat.le_of_ble_eq_true rfl) ?_
  intro p e s m below meth c ls S E hW hS hr hk hno hl
  have S : CallFix p m c cX4_coinHeight 3 s _ ((Cond.code yX4_coinHeight cX4_coinHeight 3 (some Jvm.ClassFile.FieldType.int)) :: mi_G) RX4 := S
  have hl : lv_has ls 3 [(0, .ref (ad 0)), (1, .int (nI (a))), (2, .int (x))] := hl
  obtain ⟨⟨o1, o2, o3, o4, o5⟩, oP, oK, oD, oX, oC, oI⟩ := id hO
  obtain ⟨x0, x1, x2, x3, ⟨pm, pq, pn, xp⟩, xs, ⟨co, hrr, grr, xd, xc⟩, x9⟩ := id hX
  have hx0 := x0
  unfold rx_ob at hx0
  refine lv_aload_n S.1 S.2.1 dX4_coinHeight_0 rfl (lv_at hl 0 rfl) ?_
  refine lv_iload_n S.1 S.2.1 dX4_coinHeight_1 rfl (lv_at hl 1 rfl) ?_
  refine mi_cV (mi_runV (P := mi_W D A ad cf) (As := [.int (nI (a))]) (rest := []) S E hS hW (ad 0) (c_checkCoin l D A hX hO (by omega)) (hW.recv E hx0 rfl) mw_572 mw_569 mw_571 mw_15 mw_18 ⟨by decide, by decide, by decide +kernel⟩ ⟨rfl, rfl, Nat.le_of_ble_eq_true rfl, Nat.le_of_ble_eq_true rfl⟩ (n := 1) rfl hl.1 rfl (Nat.le_of_ble_eq_true rfl) dX4_coinHeight_2 ⟨Nat.le_of_ble_eq_true rfl, Nat.le_of_ble_eq_true rfl⟩) ?_
  refine lv_iload_n S.1 S.2.1 dX4_coinHeight_5 rfl (lv_at hl 2 rfl) ?_
  refine mi_cTh (mi_runSX (P := mi_W D A ad cf) (As := [.int (x)]) (rest := []) S E hS hW (c_checkColumn_x l D A hst hx) mw_202 mw_200 mw_201 mw_18 ⟨by decide, by decide, by decide +kernel⟩ ⟨rfl, rfl, Nat.le_of_ble_eq_true rfl, Nat.le_of_ble_eq_true rfl⟩ (n := 1) rfl hl.1 rfl (Nat.le_of_ble_eq_true rfl) dX4_coinHeight_6 ⟨(by show _ ≤ (1 : Nat); omega), (by show _ ≤ (6 : Nat); omega)⟩) hS (fun ce q9 H locs hW hS h1 h2 h3 => ?_)
  exact mi_out hno hk hW hS h1 h2 h3 (by show _ ≤ (1 : Nat); omega) (by show _ ≤ (6 : Nat); omega)
set_option maxHeartbeats 4000000 in
set_option maxRecDepth 100000 in
theorem c_grade (l : Launch) (D : va_G) (A : Nat → Prop) {ad : Nat → Nat} {cf : Nat → Option va_E} {S0 : sT} (hX : RepX D S0 ad cf) (hO : st_ok S0) {a : Nat} (ha : a < sC S0) : mi_Rd l yX4_grade (Cond.code yX4_grade cX4_grade 4 (some Jvm.ClassFile.FieldType.int)) (mi_rm 3) D A (mi_W D A ad cf) [.ref (ad 0), .int (nI (a))] (fun r => r = nI (if 20 < sp_ds (sCh S0 a) (sF S0 (sCd S0 a)) 16 then 0 else 100 - 5 * sp_ds (sCh S0 a) (sF S0 (sCd S0 a)) 16)) := by
  refine mi_start (cc := cX4_grade) (nL := 4) (ret := (some Jvm.ClassFile.FieldType.int)) rfl (by decide) (Nat.le_of_ble_eq_true rfl) ?_
  intro p e s m below meth c ls S E hW hS hr hk hn hl
  have S : CallFix p m c cX4_grade 4 s _ ((Cond.code yX4_grade cX4_grade 4 (some Jvm.ClassFile.FieldType.int)) :: mi_G) RX4 := S
  have hl : lv_has ls 4 [(0, .ref (ad 0)), (1, .int (nI (a)))] := hl
  obtain ⟨⟨o1, o2, o3, o4, o5⟩, oP, oK, oD, oX, oC, oI⟩ := id hO
  obtain ⟨x0, x1, x2, x3, ⟨pm, pq, pn, xp⟩, xs, ⟨co, hrr, grr, xd, xc⟩, x9⟩ := id hX
  have hx0 := x0
  unfold rx_ob at hx0
  obtain ⟨mw3, cap3, f3, hc3, hn3, hr3, hq3, hf3⟩ := x3.row (by omega)
  refine lv_aload_n S.1 S.2.1 dX4_grade_0 rfl (lv_at hl 0 rfl) ?_
  refine lv_iload_n S.1 S.2.1 dX4_grade_1 rfl (lv_at hl 1 rfl) ?_
  refine mi_cV (mi_runV (P := mi_W D A ad cf) (As := [.int (nI (a))]) (rest := []) S E hS hW (ad 0) (c_checkCoin l D A hX hO (by omega)) (hW.recv E hx0 rfl) mw_572 mw_569 mw_571 mw_15 mw_18 ⟨by decide, by decide, by decide +kernel⟩ ⟨rfl, rfl, Nat.le_of_ble_eq_true rfl, Nat.le_of_ble_eq_true rfl⟩ (n := 1) rfl hl.1 rfl (Nat.le_of_ble_eq_true rfl) dX4_grade_2 ⟨Nat.le_of_ble_eq_true rfl, Nat.le_of_ble_eq_true rfl⟩) ?_
  refine lv_aload_n S.1 S.2.1 dX4_grade_5 rfl (lv_at hl 0 rfl) ?_
  refine fg_X4_19 S E hW 0 rfl hx0 rfl dX4_grade_6 ?_
  refine lv_iload_n S.1 S.2.1 dX4_grade_9 rfl (lv_at hl 1 rfl) ?_
  refine mi_cQ (mi_runV (P := mi_W D A ad cf) (As := [.int (nI (a))]) (rest := []) S E hS hW (ad 3) (c_AL_get l D A hr3 hq3 hc3 (i := a) (by omega) hn3) (hW.recv E hr3 rfl) mw_392 mw_389 mw_390 mw_391 mw_21 ⟨by decide, by decide, by decide +kernel⟩ ⟨rfl, rfl, Nat.le_of_ble_eq_true rfl, Nat.le_of_ble_eq_true rfl⟩ (n := 1) rfl hl.1 rfl (Nat.le_of_ble_eq_true rfl) dX4_grade_10 ⟨Nat.le_of_ble_eq_true rfl, Nat.le_of_ble_eq_true rfl⟩) (fun r9 e9 => ?_)
  subst e9
  refine mi_top (v' := .ref (ad (400 + a))) (congrArg va_rf (hf3 a (by omega))) ?_
  obtain ⟨hcx1, hcx2, hcx3, hcx4, Gx, hcx5, hcx6⟩ := xc a (by omega)
  have hcd := (oI a ha).1
  obtain ⟨⟨hd1, hd2, hd3, hd4⟩, hd5⟩ := xd (sCd S0 a) (by omega)
  refine mi_castX S E hW ((400 + a)) rfl hcx1 rfl (List.mem_cons_of_mem _ mw_576) dX4_grade_13 ?_
  refine lv_astore_n (lv' := [(2, .ref (ad (400 + a))), (0, .ref (ad 0)), (1, .int (nI (a)))]) S.1 S.2.1 dX4_grade_16 rfl hl (by decide) rfl (fun ls hl => ?_)
  refine lv_aload_n S.1 S.2.1 dX4_grade_17 rfl (lv_at hl 0 rfl) ?_
  refine fg_X4_171 S E hW ((400 + a)) rfl hcx1 rfl dX4_grade_18 ?_
  refine lv_aload_n S.1 S.2.1 dX4_grade_21 rfl (lv_at hl 0 rfl) ?_
  refine fg_X4_179 S E hW ((400 + a)) rfl hcx1 rfl dX4_grade_22 ?_
  refine fg_X4_183 S E hW ((300 + sCd S0 a)) rfl hd1 rfl dX4_grade_25 ?_
  refine mi_cR (mi_runS (P := mi_W D A ad cf) (As := [.ref (ad (500 + hrr a)), .ref (ad (310 + (sCd S0 a)))]) (rest := []) S E hS hW (c_distanceOfRows l D A hcx4 hd2 (fun c hc => st_cb hO ha hc) (fun c hc => st_fb hO hcd hc)) mw_671 mw_669 mw_670 mw_18 ⟨by decide, by decide, by decide +kernel⟩ ⟨rfl, rfl, Nat.le_of_ble_eq_true rfl, Nat.le_of_ble_eq_true rfl⟩ (n := 2) rfl hl.1 rfl (Nat.le_of_ble_eq_true rfl) dX4_grade_28 ⟨Nat.le_of_ble_eq_true rfl, Nat.le_of_ble_eq_true rfl⟩) (fun r9 e9 => ?_)
  subst e9
  have hs16 : sp_ds (sCh S0 a) (sF S0 (sCd S0 a)) 16 ≤ 8 * 16 := sp_ds_le (fun c hc => st_cb hO ha hc) (fun c hc => st_fb hO hcd hc)
  refine lv_istore_n (lv' := [(3, .int (nI (sp_ds (sCh S0 a) (sF S0 (sCd S0 a)) 16))), (2, .ref (ad (400 + a))), (0, .ref (ad 0)), (1, .int (nI (a)))]) S.1 S.2.1 dX4_grade_31 rfl hl (by decide) rfl (fun ls hl => ?_)
  refine lv_iconst (v := nI 0) S.1 S.2.1 dX4_grade_32 (by decide) ?_
  refine lv_bipush (v := nI 100) S.1 S.2.1 dX4_grade_33 (by decide) ?_
  refine lv_iconst (v := nI 5) S.1 S.2.1 dX4_grade_35 (by decide) ?_
  refine lv_iload_n S.1 S.2.1 dX4_grade_36 rfl (lv_at hl 0 rfl) ?_
  refine mi_imul S dX4_grade_37 ?_
  refine lv_isub S.1 S.2.1 dX4_grade_38 ?_
  refine mi_mmax0 S (a := 100) (b := 5 * sp_ds (sCh S0 a) (sF S0 (sCd S0 a)) 16) (by omega) (by omega) (List.mem_cons_of_mem _ mw_675) (List.mem_cons_of_mem _ mw_128) (List.mem_cons_of_mem _ mw_25) (List.mem_cons_of_mem _ mk_max) hl.1 (Nat.le_of_ble_eq_true rfl) (Nat.le_of_ble_eq_true rfl) (Nat.zero_le _) (Nat.zero_le _) dX4_grade_39 ?_
  refine mi_top (v' := .int (nI (if 20 < sp_ds (sCh S0 a) (sF S0 (sCd S0 a)) 16 then 0 else 100 - 5 * sp_ds (sCh S0 a) (sF S0 (sCd S0 a)) 16))) (by congr 2; split <;> omega) ?_
  exact mi_retR S hr hk dX4_grade_42 (rfl)
set_option maxHeartbeats 4000000 in
set_option maxRecDepth 100000 in
theorem c_grade_x1 (l : Launch) (D : va_G) (A : Nat → Prop) (hst : l.stackTraces = false) {ad : Nat → Nat} {cf : Nat → Option va_E} {S0 : sT} (hX : RepX D S0 ad cf) (hO : st_ok S0) {x : Int32} (hx : ¬ (0 ≤ x.toInt ∧ x.toInt < sC S0)) : mi_Th l yX4_grade (Cond.code yX4_grade cX4_grade 4 (some Jvm.ClassFile.FieldType.int)) (mi_rq 7 1 6) D A (mi_W D A ad cf) [.ref (ad 0), .int (x)] mi_IO 1 6 := by
  refine mi_startX (cc := cX4_grade) (nL := 4) (ret := (some Jvm.ClassFile.FieldType.int)) rfl (by decide) (Nat.le_of_ble_eq_true rfl) ?_
  intro p e s m below meth c ls S E hW hS hr hk hno hl
  have S : CallFix p m c cX4_grade 4 s _ ((Cond.code yX4_grade cX4_grade 4 (some Jvm.ClassFile.FieldType.int)) :: mi_G) RX4 := S
  have hl : lv_has ls 4 [(0, .ref (ad 0)), (1, .int (x))] := hl
  obtain ⟨⟨o1, o2, o3, o4, o5⟩, oP, oK, oD, oX, oC, oI⟩ := id hO
  obtain ⟨x0, x1, x2, x3, ⟨pm, pq, pn, xp⟩, xs, ⟨co, hrr, grr, xd, xc⟩, x9⟩ := id hX
  have hx0 := x0
  unfold rx_ob at hx0
  refine lv_aload_n S.1 S.2.1 dX4_grade_0 rfl (lv_at hl 0 rfl) ?_
  refine lv_iload_n S.1 S.2.1 dX4_grade_1 rfl (lv_at hl 1 rfl) ?_
  refine mi_cTh (mi_runVX (P := mi_W D A ad cf) (As := [.int (x)]) (rest := []) S E hS hW (ad 0) (c_checkCoin_x l D A hst hX hO hx) (hW.recv E hx0 rfl) mw_572 mw_569 mw_571 mw_15 mw_18 ⟨by decide, by decide, by decide +kernel⟩ ⟨rfl, rfl, Nat.le_of_ble_eq_true rfl, Nat.le_of_ble_eq_true rfl⟩ (n := 1) rfl hl.1 rfl (Nat.le_of_ble_eq_true rfl) dX4_grade_2 ⟨(by show _ ≤ (1 : Nat); omega), (by show _ ≤ (6 : Nat); omega)⟩) hS (fun ce q9 H locs hW hS h1 h2 h3 => ?_)
  exact mi_out hno hk hW hS h1 h2 h3 (by show _ ≤ (1 : Nat); omega) (by show _ ≤ (6 : Nat); omega)
set_option maxHeartbeats 4000000 in
set_option maxRecDepth 100000 in
theorem c_isForged (l : Launch) (D : va_G) (A : Nat → Prop) {ad : Nat → Nat} {cf : Nat → Option va_E} {S0 : sT} (hX : RepX D S0 ad cf) (hO : st_ok S0) {a : Nat} (ha : a < sC S0) : mi_Rd l yX4_isForged (Cond.code yX4_isForged cX4_isForged 3 (some Jvm.ClassFile.FieldType.boolean)) (mi_rm 3) D A (mi_W D A ad cf) [.ref (ad 0), .int (nI (a))] (fun r => r = nI (sp_fg (sCh S0 a) (wn (sF S0 (sCd S0 a)) ((sCn S0 a - 1) / 2)) 16)) := by
  refine mi_start (cc := cX4_isForged) (nL := 3) (ret := (some Jvm.ClassFile.FieldType.boolean)) rfl (by decide) (Nat.le_of_ble_eq_true rfl) ?_
  intro p e s m below meth c ls S E hW hS hr hk hn hl
  have S : CallFix p m c cX4_isForged 3 s _ ((Cond.code yX4_isForged cX4_isForged 3 (some Jvm.ClassFile.FieldType.boolean)) :: mi_G) RX4 := S
  have hl : lv_has ls 3 [(0, .ref (ad 0)), (1, .int (nI (a)))] := hl
  obtain ⟨⟨o1, o2, o3, o4, o5⟩, oP, oK, oD, oX, oC, oI⟩ := id hO
  obtain ⟨x0, x1, x2, x3, ⟨pm, pq, pn, xp⟩, xs, ⟨co, hrr, grr, xd, xc⟩, x9⟩ := id hX
  have hx0 := x0
  unfold rx_ob at hx0
  obtain ⟨mw3, cap3, f3, hc3, hn3, hr3, hq3, hf3⟩ := x3.row (by omega)
  refine lv_aload_n S.1 S.2.1 dX4_isForged_0 rfl (lv_at hl 0 rfl) ?_
  refine lv_iload_n S.1 S.2.1 dX4_isForged_1 rfl (lv_at hl 1 rfl) ?_
  refine mi_cV (mi_runV (P := mi_W D A ad cf) (As := [.int (nI (a))]) (rest := []) S E hS hW (ad 0) (c_checkCoin l D A hX hO (by omega)) (hW.recv E hx0 rfl) mw_572 mw_569 mw_571 mw_15 mw_18 ⟨by decide, by decide, by decide +kernel⟩ ⟨rfl, rfl, Nat.le_of_ble_eq_true rfl, Nat.le_of_ble_eq_true rfl⟩ (n := 1) rfl hl.1 rfl (Nat.le_of_ble_eq_true rfl) dX4_isForged_2 ⟨Nat.le_of_ble_eq_true rfl, Nat.le_of_ble_eq_true rfl⟩) ?_
  refine lv_aload_n S.1 S.2.1 dX4_isForged_5 rfl (lv_at hl 0 rfl) ?_
  refine fg_X4_19 S E hW 0 rfl hx0 rfl dX4_isForged_6 ?_
  refine lv_iload_n S.1 S.2.1 dX4_isForged_9 rfl (lv_at hl 1 rfl) ?_
  refine mi_cQ (mi_runV (P := mi_W D A ad cf) (As := [.int (nI (a))]) (rest := []) S E hS hW (ad 3) (c_AL_get l D A hr3 hq3 hc3 (i := a) (by omega) hn3) (hW.recv E hr3 rfl) mw_392 mw_389 mw_390 mw_391 mw_21 ⟨by decide, by decide, by decide +kernel⟩ ⟨rfl, rfl, Nat.le_of_ble_eq_true rfl, Nat.le_of_ble_eq_true rfl⟩ (n := 1) rfl hl.1 rfl (Nat.le_of_ble_eq_true rfl) dX4_isForged_10 ⟨Nat.le_of_ble_eq_true rfl, Nat.le_of_ble_eq_true rfl⟩) (fun r9 e9 => ?_)
  subst e9
  refine mi_top (v' := .ref (ad (400 + a))) (congrArg va_rf (hf3 a (by omega))) ?_
  obtain ⟨hcx1, hcx2, hcx3, hcx4, Gx, hcx5, hcx6⟩ := xc a (by omega)
  refine mi_castX S E hW ((400 + a)) rfl hcx1 rfl (List.mem_cons_of_mem _ mw_576) dX4_isForged_13 ?_
  refine lv_astore_n (lv' := [(2, .ref (ad (400 + a))), (0, .ref (ad 0)), (1, .int (nI (a)))]) S.1 S.2.1 dX4_isForged_16 rfl hl (by decide) rfl (fun ls hl => ?_)
  refine lv_aload_n S.1 S.2.1 dX4_isForged_17 rfl (lv_at hl 0 rfl) ?_
  refine fg_X4_171 S E hW ((400 + a)) rfl hcx1 rfl dX4_isForged_18 ?_
  refine lv_aload_n S.1 S.2.1 dX4_isForged_21 rfl (lv_at hl 0 rfl) ?_
  refine fg_X4_195 S E hW ((400 + a)) rfl hcx1 rfl dX4_isForged_22 ?_
  refine mi_cR (mi_runS (P := mi_W D A ad cf) (As := [.ref (ad (500 + hrr a)), .ref (ad (500 + grr a))]) (rest := []) S E hS hW (c_distanceOfRows l D A hcx4 hcx5 (fun c hc => st_cb hO ha hc) (fun c hc => by rw [hcx6 c hc]; exact Nat.le_trans (wn_le _ _ _) (st_fb hO (oI a ha).1 hc))) mw_671 mw_669 mw_670 mw_18 ⟨by decide, by decide, by decide +kernel⟩ ⟨rfl, rfl, Nat.le_of_ble_eq_true rfl, Nat.le_of_ble_eq_true rfl⟩ (n := 2) rfl hl.1 rfl (Nat.le_of_ble_eq_true rfl) dX4_isForged_25 ⟨Nat.le_of_ble_eq_true rfl, Nat.le_of_ble_eq_true rfl⟩) (fun r9 e9 => ?_)
  subst e9
  have hs16 : sp_ds (sCh S0 a) Gx 16 ≤ 8 * 16 := sp_ds_le (fun c hc => st_cb hO ha hc) (fun c hc => by rw [hcx6 c hc]; exact Nat.le_trans (wn_le _ _ _) (st_fb hO (oI a ha).1 hc))
  have hs17 := sp_ds_cong (n := 16) (h := sCh S0 a) (h' := Gx) (i := sCh S0 a) (fun c _ => rfl) hcx6
  refine mi_if_eq (tgt := 35) S (by omega) dX4_isForged_28 (by decide) (fun c28_0 => ?_) (fun c28_0 => ?_)
  · refine lv_iconst (v := nI 0) S.1 S.2.1 dX4_isForged_35 (by decide) ?_
    exact mi_retZ S hr hk dX4_isForged_36 rfl ((by rw [sp_ds_cong (n := 16) (h := sCh S0 a) (h' := Gx) (i := sCh S0 a) (fun c _ => rfl) hcx6] at *; first | (rw [show sp_fg (sCh S0 a) (wn (sF S0 (sCd S0 a)) ((sCn S0 a - 1) / 2)) 16 = 1 from if_neg (by omega)]) | (rw [show sp_fg (sCh S0 a) (wn (sF S0 (sCd S0 a)) ((sCn S0 a - 1) / 2)) 16 = 0 from if_pos (by omega)])))
  · refine lv_iconst (v := nI 1) S.1 S.2.1 dX4_isForged_31 (by decide) ?_
    refine lv_goto (tgt := 36) S.1 S.2.1 dX4_isForged_32 (by decide) ?_
    exact mi_retZ S hr hk dX4_isForged_36 rfl ((by rw [sp_ds_cong (n := 16) (h := sCh S0 a) (h' := Gx) (i := sCh S0 a) (fun c _ => rfl) hcx6] at *; first | (rw [show sp_fg (sCh S0 a) (wn (sF S0 (sCd S0 a)) ((sCn S0 a - 1) / 2)) 16 = 1 from if_neg (by omega)]) | (rw [show sp_fg (sCh S0 a) (wn (sF S0 (sCd S0 a)) ((sCn S0 a - 1) / 2)) 16 = 0 from if_pos (by omega)])))
set_option maxHeartbeats 4000000 in
set_option maxRecDepth 100000 in
theorem c_isForged_x1 (l : Launch) (D : va_G) (A : Nat → Prop) (hst : l.stackTraces = false) {ad : Nat → Nat} {cf : Nat → Option va_E} {S0 : sT} (hX : RepX D S0 ad cf) (hO : st_ok S0) {x : Int32} (hx : ¬ (0 ≤ x.toInt ∧ x.toInt < sC S0)) : mi_Th l yX4_isForged (Cond.code yX4_isForged cX4_isForged 3 (some Jvm.ClassFile.FieldType.boolean)) (mi_rq 7 1 6) D A (mi_W D A ad cf) [.ref (ad 0), .int (x)] mi_IO 1 6 := by
  refine mi_startX (cc := cX4_isForged) (nL := 3) (ret := (some Jvm.ClassFile.FieldType.boolean)) rfl (by decide) (Nat.le_of_ble_eq_true rfl) ?_
  intro p e s m below meth c ls S E hW hS hr hk hno hl
  have S : CallFix p m c cX4_isForged 3 s _ ((Cond.code yX4_isForged cX4_isForged 3 (some Jvm.ClassFile.FieldType.boolean)) :: mi_G) RX4 := S
  have hl : lv_has ls 3 [(0, .ref (ad 0)), (1, .int (x))] := hl
  obtain ⟨⟨o1, o2, o3, o4, o5⟩, oP, oK, oD, oX, oC, oI⟩ := id hO
  obtain ⟨x0, x1, x2, x3, ⟨pm, pq, pn, xp⟩, xs, ⟨co, hrr, grr, xd, xc⟩, x9⟩ := id hX
  have hx0 := x0
  unfold rx_ob at hx0
  refine lv_aload_n S.1 S.2.1 dX4_isForged_0 rfl (lv_at hl 0 rfl) ?_
  refine lv_iload_n S.1 S.2.1 dX4_isForged_1 rfl (lv_at hl 1 rfl) ?_
  refine mi_cTh (mi_runVX (P := mi_W D A ad cf) (As := [.int (x)]) (rest := []) S E hS hW (ad 0) (c_checkCoin_x l D A hst hX hO hx) (hW.recv E hx0 rfl) mw_572 mw_569 mw_571 mw_15 mw_18 ⟨by decide, by decide, by decide +kernel⟩ ⟨rfl, rfl, Nat.le_of_ble_eq_true rfl, Nat.le_of_ble_eq_true rfl⟩ (n := 1) rfl hl.1 rfl (Nat.le_of_ble_eq_true rfl) dX4_isForged_2 ⟨(by show _ ≤ (1 : Nat); omega), (by show _ ≤ (6 : Nat); omega)⟩) hS (fun ce q9 H locs hW hS h1 h2 h3 => ?_)
  exact mi_out hno hk hW hS h1 h2 h3 (by show _ ≤ (1 : Nat); omega) (by show _ ≤ (6 : Nat); omega)
set_option maxHeartbeats 4000000 in
set_option maxRecDepth 100000 in
theorem c_distance (l : Launch) (D : va_G) (A : Nat → Prop) {ad : Nat → Nat} {cf : Nat → Option va_E} {S0 : sT} (hX : RepX D S0 ad cf) (hO : st_ok S0) {a b : Nat} (ha : a < sC S0) (hb : b < sC S0) : mi_Rd l yX4_distance (Cond.code yX4_distance cX4_distance 3 (some Jvm.ClassFile.FieldType.int)) (mi_rm 3) D A (mi_W D A ad cf) [.ref (ad 0), .int (nI (a)), .int (nI (b))] (fun r => r = nI (sp_ds (sCh S0 a) (sCh S0 b) 16)) := by
  refine mi_start (cc := cX4_distance) (nL := 3) (ret := (some Jvm.ClassFile.FieldType.int)) rfl (by decide) (Nat.le_of_ble_eq_true rfl) ?_
  intro p e s m below meth c ls S E hW hS hr hk hn hl
  have S : CallFix p m c cX4_distance 3 s _ ((Cond.code yX4_distance cX4_distance 3 (some Jvm.ClassFile.FieldType.int)) :: mi_G) RX4 := S
  have hl : lv_has ls 3 [(0, .ref (ad 0)), (1, .int (nI (a))), (2, .int (nI (b)))] := hl
  obtain ⟨⟨o1, o2, o3, o4, o5⟩, oP, oK, oD, oX, oC, oI⟩ := id hO
  obtain ⟨x0, x1, x2, x3, ⟨pm, pq, pn, xp⟩, xs, ⟨co, hrr, grr, xd, xc⟩, x9⟩ := id hX
  have hx0 := x0
  unfold rx_ob at hx0
  obtain ⟨mw3, cap3, f3, hc3, hn3, hr3, hq3, hf3⟩ := x3.row (by omega)
  refine lv_aload_n S.1 S.2.1 dX4_distance_0 rfl (lv_at hl 0 rfl) ?_
  refine lv_iload_n S.1 S.2.1 dX4_distance_1 rfl (lv_at hl 1 rfl) ?_
  refine mi_cV (mi_runV (P := mi_W D A ad cf) (As := [.int (nI (a))]) (rest := []) S E hS hW (ad 0) (c_checkCoin l D A hX hO (by omega)) (hW.recv E hx0 rfl) mw_572 mw_569 mw_571 mw_15 mw_18 ⟨by decide, by decide, by decide +kernel⟩ ⟨rfl, rfl, Nat.le_of_ble_eq_true rfl, Nat.le_of_ble_eq_true rfl⟩ (n := 1) rfl hl.1 rfl (Nat.le_of_ble_eq_true rfl) dX4_distance_2 ⟨Nat.le_of_ble_eq_true rfl, Nat.le_of_ble_eq_true rfl⟩) ?_
  refine lv_aload_n S.1 S.2.1 dX4_distance_5 rfl (lv_at hl 0 rfl) ?_
  refine lv_iload_n S.1 S.2.1 dX4_distance_6 rfl (lv_at hl 2 rfl) ?_
  refine mi_cV (mi_runV (P := mi_W D A ad cf) (As := [.int (nI (b))]) (rest := []) S E hS hW (ad 0) (c_checkCoin l D A hX hO (by omega)) (hW.recv E hx0 rfl) mw_572 mw_569 mw_571 mw_15 mw_18 ⟨by decide, by decide, by decide +kernel⟩ ⟨rfl, rfl, Nat.le_of_ble_eq_true rfl, Nat.le_of_ble_eq_true rfl⟩ (n := 1) rfl hl.1 rfl (Nat.le_of_ble_eq_true rfl) dX4_distance_7 ⟨Nat.le_of_ble_eq_true rfl, Nat.le_of_ble_eq_true rfl⟩) ?_
  refine lv_aload_n S.1 S.2.1 dX4_distance_10 rfl (lv_at hl 0 rfl) ?_
  refine fg_X4_19 S E hW 0 rfl hx0 rfl dX4_distance_11 ?_
  refine lv_iload_n S.1 S.2.1 dX4_distance_14 rfl (lv_at hl 1 rfl) ?_
  refine mi_cQ (mi_runV (P := mi_W D A ad cf) (As := [.int (nI (a))]) (rest := []) S E hS hW (ad 3) (c_AL_get l D A hr3 hq3 hc3 (i := a) (by omega) hn3) (hW.recv E hr3 rfl) mw_392 mw_389 mw_390 mw_391 mw_21 ⟨by decide, by decide, by decide +kernel⟩ ⟨rfl, rfl, Nat.le_of_ble_eq_true rfl, Nat.le_of_ble_eq_true rfl⟩ (n := 1) rfl hl.1 rfl (Nat.le_of_ble_eq_true rfl) dX4_distance_15 ⟨Nat.le_of_ble_eq_true rfl, Nat.le_of_ble_eq_true rfl⟩) (fun r9 e9 => ?_)
  subst e9
  refine mi_top (v' := .ref (ad (400 + a))) (congrArg va_rf (hf3 a (by omega))) ?_
  obtain ⟨hcx1, hcx2, hcx3, hcx4, Gx, hcx5, hcx6⟩ := xc a (by omega)
  refine mi_castX S E hW ((400 + a)) rfl hcx1 rfl (List.mem_cons_of_mem _ mw_576) dX4_distance_18 ?_
  refine fg_X4_171 S E hW ((400 + a)) rfl hcx1 rfl dX4_distance_21 ?_
  refine lv_aload_n S.1 S.2.1 dX4_distance_24 rfl (lv_at hl 0 rfl) ?_
  refine fg_X4_19 S E hW 0 rfl hx0 rfl dX4_distance_25 ?_
  refine lv_iload_n S.1 S.2.1 dX4_distance_28 rfl (lv_at hl 2 rfl) ?_
  refine mi_cQ (mi_runV (P := mi_W D A ad cf) (As := [.int (nI (b))]) (rest := [.ref (ad (500 + hrr a))]) S E hS hW (ad 3) (c_AL_get l D A hr3 hq3 hc3 (i := b) (by omega) hn3) (hW.recv E hr3 rfl) mw_392 mw_389 mw_390 mw_391 mw_21 ⟨by decide, by decide, by decide +kernel⟩ ⟨rfl, rfl, Nat.le_of_ble_eq_true rfl, Nat.le_of_ble_eq_true rfl⟩ (n := 1) rfl hl.1 rfl (Nat.le_of_ble_eq_true rfl) dX4_distance_29 ⟨Nat.le_of_ble_eq_true rfl, Nat.le_of_ble_eq_true rfl⟩) (fun r9 e9 => ?_)
  subst e9
  refine mi_top (v' := .ref (ad (400 + b))) (congrArg va_rf (hf3 b (by omega))) ?_
  obtain ⟨hcy1, hcy2, hcy3, hcy4, Gy, hcy5, hcy6⟩ := xc b (by omega)
  refine mi_castX S E hW ((400 + b)) rfl hcy1 rfl (List.mem_cons_of_mem _ mw_576) dX4_distance_32 ?_
  refine fg_X4_171 S E hW ((400 + b)) rfl hcy1 rfl dX4_distance_35 ?_
  refine mi_cR (mi_runS (P := mi_W D A ad cf) (As := [.ref (ad (500 + hrr a)), .ref (ad (500 + hrr b))]) (rest := []) S E hS hW (c_distanceOfRows l D A hcx4 hcy4 (fun c hc => st_cb hO ha hc) (fun c hc => st_cb hO hb hc)) mw_671 mw_669 mw_670 mw_18 ⟨by decide, by decide, by decide +kernel⟩ ⟨rfl, rfl, Nat.le_of_ble_eq_true rfl, Nat.le_of_ble_eq_true rfl⟩ (n := 2) rfl hl.1 rfl (Nat.le_of_ble_eq_true rfl) dX4_distance_38 ⟨Nat.le_of_ble_eq_true rfl, Nat.le_of_ble_eq_true rfl⟩) (fun r9 e9 => ?_)
  subst e9
  exact mi_retR S hr hk dX4_distance_41 (rfl)
set_option maxHeartbeats 4000000 in
set_option maxRecDepth 100000 in
theorem c_distance_x1 (l : Launch) (D : va_G) (A : Nat → Prop) (hst : l.stackTraces = false) {ad : Nat → Nat} {cf : Nat → Option va_E} {S0 : sT} (hX : RepX D S0 ad cf) (hO : st_ok S0) {x : Int32} (hx : ¬ (0 ≤ x.toInt ∧ x.toInt < sC S0)) {y : Int32} : mi_Th l yX4_distance (Cond.code yX4_distance cX4_distance 3 (some Jvm.ClassFile.FieldType.int)) (mi_rq 7 1 6) D A (mi_W D A ad cf) [.ref (ad 0), .int (x), .int (y)] mi_IO 1 6 := by
  refine mi_startX (cc := cX4_distance) (nL := 3) (ret := (some Jvm.ClassFile.FieldType.int)) rfl (by decide) (Nat.le_of_ble_eq_true rfl) ?_
  intro p e s m below meth c ls S E hW hS hr hk hno hl
  have S : CallFix p m c cX4_distance 3 s _ ((Cond.code yX4_distance cX4_distance 3 (some Jvm.ClassFile.FieldType.int)) :: mi_G) RX4 := S
  have hl : lv_has ls 3 [(0, .ref (ad 0)), (1, .int (x)), (2, .int (y))] := hl
  obtain ⟨⟨o1, o2, o3, o4, o5⟩, oP, oK, oD, oX, oC, oI⟩ := id hO
  obtain ⟨x0, x1, x2, x3, ⟨pm, pq, pn, xp⟩, xs, ⟨co, hrr, grr, xd, xc⟩, x9⟩ := id hX
  have hx0 := x0
  unfold rx_ob at hx0
  refine lv_aload_n S.1 S.2.1 dX4_distance_0 rfl (lv_at hl 0 rfl) ?_
  refine lv_iload_n S.1 S.2.1 dX4_distance_1 rfl (lv_at hl 1 rfl) ?_
  refine mi_cTh (mi_runVX (P := mi_W D A ad cf) (As := [.int (x)]) (rest := []) S E hS hW (ad 0) (c_checkCoin_x l D A hst hX hO hx) (hW.recv E hx0 rfl) mw_572 mw_569 mw_571 mw_15 mw_18 ⟨by decide, by decide, by decide +kernel⟩ ⟨rfl, rfl, Nat.le_of_ble_eq_true rfl, Nat.le_of_ble_eq_true rfl⟩ (n := 1) rfl hl.1 rfl (Nat.le_of_ble_eq_true rfl) dX4_distance_2 ⟨(by show _ ≤ (1 : Nat); omega), (by show _ ≤ (6 : Nat); omega)⟩) hS (fun ce q9 H locs hW hS h1 h2 h3 => ?_)
  exact mi_out hno hk hW hS h1 h2 h3 (by show _ ≤ (1 : Nat); omega) (by show _ ≤ (6 : Nat); omega)
set_option maxHeartbeats 4000000 in
set_option maxRecDepth 100000 in
theorem c_distance_x2 (l : Launch) (D : va_G) (A : Nat → Prop) (hst : l.stackTraces = false) {ad : Nat → Nat} {cf : Nat → Option va_E} {S0 : sT} (hX : RepX D S0 ad cf) (hO : st_ok S0) {a : Nat} (ha : a < sC S0) {x : Int32} (hx : ¬ (0 ≤ x.toInt ∧ x.toInt < sC S0)) : mi_Th l yX4_distance (Cond.code yX4_distance cX4_distance 3 (some Jvm.ClassFile.FieldType.int)) (mi_rq 7 1 6) D A (mi_W D A ad cf) [.ref (ad 0), .int (nI (a)), .int (x)] mi_IO 1 6 := by
  refine mi_startX (cc := cX4_distance) (nL := 3) (ret := (some Jvm.ClassFile.FieldType.int)) rfl (by decide) (Nat.le_of_ble_eq_true rfl) ?_
  intro p e s m below meth c ls S E hW hS hr hk hno hl
  have S : CallFix p m c cX4_distance 3 s _ ((Cond.code yX4_distance cX4_distance 3 (some Jvm.ClassFile.FieldType.int)) :: mi_G) RX4 := S
  have hl : lv_has ls 3 [(0, .ref (ad 0)), (1, .int (nI (a))), (2, .int (x))] := hl
  obtain ⟨⟨o1, o2, o3, o4, o5⟩, oP, oK, oD, oX, oC, oI⟩ := id hO
  obtain ⟨x0, x1, x2, x3, ⟨pm, pq, pn, xp⟩, xs, ⟨co, hrr, grr, xd, xc⟩, x9⟩ := id hX
  have hx0 := x0
  unfold rx_ob at hx0
  refine lv_aload_n S.1 S.2.1 dX4_distance_0 rfl (lv_at hl 0 rfl) ?_
  refine lv_iload_n S.1 S.2.1 dX4_distance_1 rfl (lv_at hl 1 rfl) ?_
  refine mi_cV (mi_runV (P := mi_W D A ad cf) (As := [.int (nI (a))]) (rest := []) S E hS hW (ad 0) (c_checkCoin l D A hX hO (by omega)) (hW.recv E hx0 rfl) mw_572 mw_569 mw_571 mw_15 mw_18 ⟨by decide, by decide, by decide +kernel⟩ ⟨rfl, rfl, Nat.le_of_ble_eq_true rfl, Nat.le_of_ble_eq_true rfl⟩ (n := 1) rfl hl.1 rfl (Nat.le_of_ble_eq_true rfl) dX4_distance_2 ⟨Nat.le_of_ble_eq_true rfl, Nat.le_of_ble_eq_true rfl⟩) ?_
  refine lv_aload_n S.1 S.2.1 dX4_distance_5 rfl (lv_at hl 0 rfl) ?_
  refine lv_iload_n S.1 S.2.1 dX4_distance_6 rfl (lv_at hl 2 rfl) ?_
  refine mi_cTh (mi_runVX (P := mi_W D A ad cf) (As := [.int (x)]) (rest := []) S E hS hW (ad 0) (c_checkCoin_x l D A hst hX hO hx) (hW.recv E hx0 rfl) mw_572 mw_569 mw_571 mw_15 mw_18 ⟨by decide, by decide, by decide +kernel⟩ ⟨rfl, rfl, Nat.le_of_ble_eq_true rfl, Nat.le_of_ble_eq_true rfl⟩ (n := 1) rfl hl.1 rfl (Nat.le_of_ble_eq_true rfl) dX4_distance_7 ⟨(by show _ ≤ (1 : Nat); omega), (by show _ ≤ (6 : Nat); omega)⟩) hS (fun ce q9 H locs hW hS h1 h2 h3 => ?_)
  exact mi_out hno hk hW hS h1 h2 h3 (by show _ ≤ (1 : Nat); omega) (by show _ ≤ (6 : Nat); omega)
