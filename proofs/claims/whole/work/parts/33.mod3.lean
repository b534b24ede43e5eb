/-! the reference's answers -/
set_option maxHeartbeats 4000000 in
set_option maxRecDepth 100000 in
theorem c_mkind (l : Launch) (D : va_G) (A : Nat → Prop) {ad : Nat → Nat} {cf0 : Nat → Option va_E} {f : Nat → Int32} {g : Nat → Nat → Int32} {S0 : sT} (hR : st_mo S0 f g) (hO : st_ok S0) {a : Nat} (ha : a < 16) {b : Nat} (hb : b < 8) : mi_Mi l yX5_kind (Cond.code yX5_kind cX5_kind 3 (some Jvm.ClassFile.FieldType.int)) (mi_rm 3) D A (mo_W D A ad cf0 f g) [.ref (ad 1000020), .int (nI (a)), .int (nI (b))] 0 0 (fun r H => r = nI (sK S0 (sW S0) (8 * a + b)) ∧ ∃ f1 g1, mo_W D A ad cf0 f1 g1 H ∧ st_mo (S0) f1 g1 ∧ f1 0 = nI 0) := by
  refine mi_start (cc := cX5_kind) (nL := 3) (ret := (some Jvm.ClassFile.FieldType.int)) rfl (by decide) (Nat.le_of_ble_eq_true rfl) ?_
  intro p e s m below meth c ls S E hM hS hr hk hn hl
  have S : CallFix p m c cX5_kind 3 s _ ((Cond.code yX5_kind cX5_kind 3 (some Jvm.ClassFile.FieldType.int)) :: mi_G) RX5 := S
  have hl : lv_has ls 3 [(0, .ref (ad 1000020)), (1, .int (nI (a))), (2, .int (nI (b)))] := hl
  obtain ⟨⟨o1, o2, o3, o4, o5⟩, oP, oK, oD, oX, oC, oI⟩ := id hO
  have hw : sW S0 < 61 := by omega
  have hK := st_mo_K hR o3
  have hKb : ∀ j, j < 128 → sK S0 (sW S0) j < 4 := fun j hj => oK _ _ o3 hj
  refine lv_aload_n S.1 S.2.1 dX5_kind_0 rfl (lv_at hl 0 rfl) ?_
  refine lv_iload_n S.1 S.2.1 dX5_kind_1 rfl (lv_at hl 1 rfl) ?_
  refine mi_cR (mi_runS (P := mo_W D A ad cf0 f g) (As := [.int (nI (a))]) (rest := [.ref (ad 1000020)]) S E hS hM (c_misColumn_y l D A (mo_W D A ad cf0 f g) (by omega)) mw_733 mw_731 mw_732 mw_43 ⟨by decide, by decide, by decide +kernel⟩ ⟨rfl, rfl, Nat.le_of_ble_eq_true rfl, Nat.le_of_ble_eq_true rfl⟩ (n := 1) rfl hl.1 rfl (Nat.le_of_ble_eq_true rfl) dX5_kind_2 ⟨Nat.le_of_ble_eq_true rfl, Nat.le_of_ble_eq_true rfl⟩) (fun r9 e9 => ?_)
  subst e9
  refine mi_if_eq (tgt := 19) S (by omega) dX5_kind_5 (by decide) (fun c5_0 => by exfalso; omega) (fun c5_0 => ?_)
  refine lv_iload_n S.1 S.2.1 dX5_kind_8 rfl (lv_at hl 2 rfl) ?_
  refine mi_cR (mi_runS (P := mo_W D A ad cf0 f g) (As := [.int (nI (b))]) (rest := [.ref (ad 1000020)]) S E hS hM (c_misLevel_y l D A (mo_W D A ad cf0 f g) (by omega)) mw_739 mw_737 mw_738 mw_43 ⟨by decide, by decide, by decide +kernel⟩ ⟨rfl, rfl, Nat.le_of_ble_eq_true rfl, Nat.le_of_ble_eq_true rfl⟩ (n := 1) rfl hl.1 rfl (Nat.le_of_ble_eq_true rfl) dX5_kind_9 ⟨Nat.le_of_ble_eq_true rfl, Nat.le_of_ble_eq_true rfl⟩) (fun r9 e9 => ?_)
  subst e9
  refine mi_if_eq (tgt := 19) S (by omega) dX5_kind_12 (by decide) (fun c12_1 => by exfalso; omega) (fun c12_1 => ?_)
  refine lv_iconst (v := nI 0) S.1 S.2.1 dX5_kind_15 (by decide) ?_
  refine lv_goto (tgt := 20) S.1 S.2.1 dX5_kind_16 (by decide) ?_
  refine mo_p_44 S E hS hM dX5_kind_20 (fun H locs hM hS => ?_)
  refine lv_aload_n S.1 S.2.1 dX5_kind_23 rfl (lv_at hl 0 rfl) ?_
  refine mo_g_44 S E hM dX5_kind_24 ?_
  refine mi_top (v' := .int (nI (0))) (rfl) ?_
  refine mi_if_le (tgt := 34) S (by omega) dX5_kind_27 (by decide) (fun c27_3 => ?_) (fun c27_3 => by exfalso; omega)
  refine lv_aload_n S.1 S.2.1 dX5_kind_34 rfl (lv_at hl 0 rfl) ?_
  refine lv_iload_n S.1 S.2.1 dX5_kind_35 rfl (lv_at hl 1 rfl) ?_
  refine lv_iload_n S.1 S.2.1 dX5_kind_36 rfl (lv_at hl 2 rfl) ?_
  refine mi_cR (mi_runV (P := mo_W D A ad cf0 (upd f 0 (nI (0))) g) (As := [.int (nI (a)), .int (nI (b))]) (rest := []) S E hS hM (ad 1000020) (c_mkindNow l D A hw hR.1.2.1 (by omega) (by omega) (hK a b (by omega) (by omega))) (hM.recv E) mw_763 mw_760 mw_762 mw_19 mw_43 ⟨by decide, by decide, by decide +kernel⟩ ⟨rfl, rfl, Nat.le_of_ble_eq_true rfl, Nat.le_of_ble_eq_true rfl⟩ (n := 2) rfl hl.1 rfl (Nat.le_of_ble_eq_true rfl) dX5_kind_37 ⟨Nat.le_of_ble_eq_true rfl, Nat.le_of_ble_eq_true rfl⟩) (fun r9 e9 => ?_)
  subst e9
  exact mi_retMi S hr hk hS dX5_kind_40 (Nat.le_refl _) (Nat.le_refl _) ⟨rfl, (upd f 0 (nI (0))), g, hM, st_mo_0 hR _, rfl⟩
set_option maxHeartbeats 4000000 in
set_option maxRecDepth 100000 in
theorem c_mkind_1 (l : Launch) (D : va_G) (A : Nat → Prop) {ad : Nat → Nat} {cf0 : Nat → Option va_E} {f : Nat → Int32} {g : Nat → Nat → Int32} {S0 : sT} (hR : st_mo S0 f g) (hO : st_ok S0) {y : Int32} {x : Int32} (h9 : ¬ (0 ≤ x.toInt ∧ x.toInt ≤ 15)) : mi_Mi l yX5_kind (Cond.code yX5_kind cX5_kind 3 (some Jvm.ClassFile.FieldType.int)) (mi_rm 3) D A (mo_W D A ad cf0 f g) [.ref (ad 1000020), .int (x), .int (y)] 0 0 (fun r H => mo_W D A ad cf0 (upd f 0 (nI 1)) g H) := by
  refine mi_start (cc := cX5_kind) (nL := 3) (ret := (some Jvm.ClassFile.FieldType.int)) rfl (by decide) (Nat.le_of_ble_eq_true rfl) ?_
  intro p e s m below meth c ls S E hM hS hr hk hn hl
  have S : CallFix p m c cX5_kind 3 s _ ((Cond.code yX5_kind cX5_kind 3 (some Jvm.ClassFile.FieldType.int)) :: mi_G) RX5 := S
  have hl : lv_has ls 3 [(0, .ref (ad 1000020)), (1, .int (x)), (2, .int (y))] := hl
  obtain ⟨⟨o1, o2, o3, o4, o5⟩, oP, oK, oD, oX, oC, oI⟩ := id hO
  have hw : sW S0 < 61 := by omega
  have hK := st_mo_K hR o3
  have hKb : ∀ j, j < 128 → sK S0 (sW S0) j < 4 := fun j hj => oK _ _ o3 hj
  refine lv_aload_n S.1 S.2.1 dX5_kind_0 rfl (lv_at hl 0 rfl) ?_
  refine lv_iload_n S.1 S.2.1 dX5_kind_1 rfl (lv_at hl 1 rfl) ?_
  refine mi_cR (mi_runS (P := mo_W D A ad cf0 f g) (As := [.int (x)]) (rest := [.ref (ad 1000020)]) S E hS hM (c_misColumn_n l D A (mo_W D A ad cf0 f g) (h9)) mw_733 mw_731 mw_732 mw_43 ⟨by decide, by decide, by decide +kernel⟩ ⟨rfl, rfl, Nat.le_of_ble_eq_true rfl, Nat.le_of_ble_eq_true rfl⟩ (n := 1) rfl hl.1 rfl (Nat.le_of_ble_eq_true rfl) dX5_kind_2 ⟨Nat.le_of_ble_eq_true rfl, Nat.le_of_ble_eq_true rfl⟩) (fun r9 e9 => ?_)
  subst e9
  refine mi_if_eq (tgt := 19) S (by omega) dX5_kind_5 (by decide) (fun c5_0 => ?_) (fun c5_0 => by exfalso; omega)
  refine lv_iconst (v := nI 1) S.1 S.2.1 dX5_kind_19 (by decide) ?_
  refine mo_p_44 S E hS hM dX5_kind_20 (fun H locs hM hS => ?_)
  refine lv_aload_n S.1 S.2.1 dX5_kind_23 rfl (lv_at hl 0 rfl) ?_
  refine mo_g_44 S E hM dX5_kind_24 ?_
  refine mi_top (v' := .int (nI (1))) (rfl) ?_
  refine mi_if_le (tgt := 34) S (by omega) dX5_kind_27 (by decide) (fun c27_2 => by exfalso; omega) (fun c27_2 => ?_)
  refine lv_iconst (v := nI 0) S.1 S.2.1 dX5_kind_30 (by decide) ?_
  refine lv_goto (tgt := 40) S.1 S.2.1 dX5_kind_31 (by decide) ?_
  exact mi_retMi S hr hk hS dX5_kind_40 (Nat.le_refl _) (Nat.le_refl _) (hM)
set_option maxHeartbeats 4000000 in
set_option maxRecDepth 100000 in
theorem c_mkind_2 (l : Launch) (D : va_G) (A : Nat → Prop) {ad : Nat → Nat} {cf0 : Nat → Option va_E} {f : Nat → Int32} {g : Nat → Nat → Int32} {S0 : sT} (hR : st_mo S0 f g) (hO : st_ok S0) {a : Nat} (ha : a < 16) {x : Int32} (h9 : ¬ (0 ≤ x.toInt ∧ x.toInt ≤ 7)) : mi_Mi l yX5_kind (Cond.code yX5_kind cX5_kind 3 (some Jvm.ClassFile.FieldType.int)) (mi_rm 3) D A (mo_W D A ad cf0 f g) [.ref (ad 1000020), .int (nI (a)), .int (x)] 0 0 (fun r H => mo_W D A ad cf0 (upd f 0 (nI 1)) g H) := by
  refine mi_start (cc := cX5_kind) (nL := 3) (ret := (some Jvm.ClassFile.FieldType.int)) rfl (by decide) (Nat.le_of_ble_eq_true rfl) ?_
  intro p e s m below meth c ls S E hM hS hr hk hn hl
  have S : CallFix p m c cX5_kind 3 s _ ((Cond.code yX5_kind cX5_kind 3 (some Jvm.ClassFile.FieldType.int)) :: mi_G) RX5 := S
  have hl : lv_has ls 3 [(0, .ref (ad 1000020)), (1, .int (nI (a))), (2, .int (x))] := hl
  obtain ⟨⟨o1, o2, o3, o4, o5⟩, oP, oK, oD, oX, oC, oI⟩ := id hO
  have hw : sW S0 < 61 := by omega
  have hK := st_mo_K hR o3
  have hKb : ∀ j, j < 128 → sK S0 (sW S0) j < 4 := fun j hj => oK _ _ o3 hj
  refine lv_aload_n S.1 S.2.1 dX5_kind_0 rfl (lv_at hl 0 rfl) ?_
  refine lv_iload_n S.1 S.2.1 dX5_kind_1 rfl (lv_at hl 1 rfl) ?_
  refine mi_cR (mi_runS (P := mo_W D A ad cf0 f g) (As := [.int (nI (a))]) (rest := [.ref (ad 1000020)]) S E hS hM (c_misColumn_y l D A (mo_W D A ad cf0 f g) (by omega)) mw_733 mw_731 mw_732 mw_43 ⟨by decide, by decide, by decide +kernel⟩ ⟨rfl, rfl, Nat.le_of_ble_eq_true rfl, Nat.le_of_ble_eq_true rfl⟩ (n := 1) rfl hl.1 rfl (Nat.le_of_ble_eq_true rfl) dX5_kind_2 ⟨Nat.le_of_ble_eq_true rfl, Nat.le_of_ble_eq_true rfl⟩) (fun r9 e9 => ?_)
  subst e9
  refine mi_if_eq (tgt := 19) S (by omega) dX5_kind_5 (by decide) (fun c5_0 => by exfalso; omega) (fun c5_0 => ?_)
  refine lv_iload_n S.1 S.2.1 dX5_kind_8 rfl (lv_at hl 2 rfl) ?_
  refine mi_cR (mi_runS (P := mo_W D A ad cf0 f g) (As := [.int (x)]) (rest := [.ref (ad 1000020)]) S E hS hM (c_misLevel_n l D A (mo_W D A ad cf0 f g) (h9)) mw_739 mw_737 mw_738 mw_43 ⟨by decide, by decide, by decide +kernel⟩ ⟨rfl, rfl, Nat.le_of_ble_eq_true rfl, Nat.le_of_ble_eq_true rfl⟩ (n := 1) rfl hl.1 rfl (Nat.le_of_ble_eq_true rfl) dX5_kind_9 ⟨Nat.le_of_ble_eq_true rfl, Nat.le_of_ble_eq_true rfl⟩) (fun r9 e9 => ?_)
  subst e9
  refine mi_if_eq (tgt := 19) S (by omega) dX5_kind_12 (by decide) (fun c12_1 => ?_) (fun c12_1 => by exfalso; omega)
  refine lv_iconst (v := nI 1) S.1 S.2.1 dX5_kind_19 (by decide) ?_
  refine mo_p_44 S E hS hM dX5_kind_20 (fun H locs hM hS => ?_)
  refine lv_aload_n S.1 S.2.1 dX5_kind_23 rfl (lv_at hl 0 rfl) ?_
  refine mo_g_44 S E hM dX5_kind_24 ?_
  refine mi_top (v' := .int (nI (1))) (rfl) ?_
  refine mi_if_le (tgt := 34) S (by omega) dX5_kind_27 (by decide) (fun c27_3 => by exfalso; omega) (fun c27_3 => ?_)
  refine lv_iconst (v := nI 0) S.1 S.2.1 dX5_kind_30 (by decide) ?_
  refine lv_goto (tgt := 40) S.1 S.2.1 dX5_kind_31 (by decide) ?_
  exact mi_retMi S hr hk hS dX5_kind_40 (Nat.le_refl _) (Nat.le_refl _) (hM)
set_option maxHeartbeats 4000000 in
set_option maxRecDepth 100000 in
theorem c_mruns (l : Launch) (D : va_G) (A : Nat → Prop) {ad : Nat → Nat} {cf0 : Nat → Option va_E} {f : Nat → Int32} {g : Nat → Nat → Int32} {S0 : sT} (hR : st_mo S0 f g) (hO : st_ok S0) {a : Nat} (ha : a < 16) : mi_Mi l yX5_runs (Cond.code yX5_runs cX5_runs 2 (some Jvm.ClassFile.FieldType.int)) (mi_rm 3) D A (mo_W D A ad cf0 f g) [.ref (ad 1000020), .int (nI (a))] 0 0 (fun r H => r = nI (sp_runs (sK S0 (sW S0)) a) ∧ ∃ f1 g1, mo_W D A ad cf0 f1 g1 H ∧ st_mo (S0) f1 g1 ∧ f1 0 = nI 0) := by
  refine mi_start (cc := cX5_runs) (nL := 2) (ret := (some Jvm.ClassFile.FieldType.int)) rfl (by decide) (Nat.le_of_ble_eq_true rfl) ?_
  intro p e s m below meth c ls S E hM hS hr hk hn hl
  have S : CallFix p m c cX5_runs 2 s _ ((Cond.code yX5_runs cX5_runs 2 (some Jvm.ClassFile.FieldType.int)) :: mi_G) RX5 := S
  have hl : lv_has ls 2 [(0, .ref (ad 1000020)), (1, .int (nI (a)))] := hl
  obtain ⟨⟨o1, o2, o3, o4, o5⟩, oP, oK, oD, oX, oC, oI⟩ := id hO
  have hw : sW S0 < 61 := by omega
  have hK := st_mo_K hR o3
  have hKb : ∀ j, j < 128 → sK S0 (sW S0) j < 4 := fun j hj => oK _ _ o3 hj
  refine lv_aload_n S.1 S.2.1 dX5_runs_0 rfl (lv_at hl 0 rfl) ?_
  refine lv_iload_n S.1 S.2.1 dX5_runs_1 rfl (lv_at hl 1 rfl) ?_
  refine mi_cR (mi_runS (P := mo_W D A ad cf0 f g) (As := [.int (nI (a))]) (rest := [.ref (ad 1000020)]) S E hS hM (c_misColumn_y l D A (mo_W D A ad cf0 f g) (by omega)) mw_733 mw_731 mw_732 mw_43 ⟨by decide, by decide, by decide +kernel⟩ ⟨rfl, rfl, Nat.le_of_ble_eq_true rfl, Nat.le_of_ble_eq_true rfl⟩ (n := 1) rfl hl.1 rfl (Nat.le_of_ble_eq_true rfl) dX5_runs_2 ⟨Nat.le_of_ble_eq_true rfl, Nat.le_of_ble_eq_true rfl⟩) (fun r9 e9 => ?_)
  subst e9
  refine mi_if_eq (tgt := 12) S (by omega) dX5_runs_5 (by decide) (fun c5_0 => by exfalso; omega) (fun c5_0 => ?_)
  refine lv_iconst (v := nI 0) S.1 S.2.1 dX5_runs_8 (by decide) ?_
  refine lv_goto (tgt := 13) S.1 S.2.1 dX5_runs_9 (by decide) ?_
  refine mo_p_44 S E hS hM dX5_runs_13 (fun H locs hM hS => ?_)
  refine lv_aload_n S.1 S.2.1 dX5_runs_16 rfl (lv_at hl 0 rfl) ?_
  refine mo_g_44 S E hM dX5_runs_17 ?_
  refine mi_top (v' := .int (nI (0))) (rfl) ?_
  refine mi_if_le (tgt := 27) S (by omega) dX5_runs_20 (by decide) (fun c20_2 => ?_) (fun c20_2 => by exfalso; omega)
  refine lv_aload_n S.1 S.2.1 dX5_runs_27 rfl (lv_at hl 0 rfl) ?_
  refine lv_iload_n S.1 S.2.1 dX5_runs_28 rfl (lv_at hl 1 rfl) ?_
  refine mi_cR (mi_runV (P := mo_W D A ad cf0 (upd f 0 (nI (0))) g) (As := [.int (nI (a))]) (rest := []) S E hS hM (ad 1000020) (c_runsOf l D A (f := (upd f 0 (nI (0)))) (g := g) (w := sW S0) (K := sK S0 (sW S0)) hw hR.1.2.1 hK hKb ha) (hM.recv E) mw_775 mw_772 mw_774 mw_21 mw_43 ⟨by decide, by decide, by decide +kernel⟩ ⟨rfl, rfl, Nat.le_of_ble_eq_true rfl, Nat.le_of_ble_eq_true rfl⟩ (n := 1) rfl hl.1 rfl (Nat.le_of_ble_eq_true rfl) dX5_runs_29 ⟨Nat.le_of_ble_eq_true rfl, Nat.le_of_ble_eq_true rfl⟩) (fun r9 e9 => ?_)
  subst e9
  exact mi_retMi S hr hk hS dX5_runs_32 (Nat.le_refl _) (Nat.le_refl _) ⟨rfl, (upd f 0 (nI (0))), g, hM, st_mo_0 hR _, rfl⟩
set_option maxHeartbeats 4000000 in
set_option maxRecDepth 100000 in
theorem c_mruns_1 (l : Launch) (D : va_G) (A : Nat → Prop) {ad : Nat → Nat} {cf0 : Nat → Option va_E} {f : Nat → Int32} {g : Nat → Nat → Int32} {S0 : sT} (hR : st_mo S0 f g) (hO : st_ok S0) {x : Int32} (h9 : ¬ (0 ≤ x.toInt ∧ x.toInt ≤ 15)) : mi_Mi l yX5_runs (Cond.code yX5_runs cX5_runs 2 (some Jvm.ClassFile.FieldType.int)) (mi_rm 3) D A (mo_W D A ad cf0 f g) [.ref (ad 1000020), .int (x)] 0 0 (fun r H => mo_W D A ad cf0 (upd f 0 (nI 1)) g H) := by
  refine mi_start (cc := cX5_runs) (nL := 2) (ret := (some Jvm.ClassFile.FieldType.int)) rfl (by decide) (Nat.le_of_ble_eq_true rfl) ?_
  intro p e s m below meth c ls S E hM hS hr hk hn hl
  have S : CallFix p m c cX5_runs 2 s _ ((Cond.code yX5_runs cX5_runs 2 (some Jvm.ClassFile.FieldType.int)) :: mi_G) RX5 := S
  have hl : lv_has ls 2 [(0, .ref (ad 1000020)), (1, .int (x))] := hl
  obtain ⟨⟨o1, o2, o3, o4, o5⟩, oP, oK, oD, oX, oC, oI⟩ := id hO
  have hw : sW S0 < 61 := by omega
  have hK := st_mo_K hR o3
  have hKb : ∀ j, j < 128 → sK S0 (sW S0) j < 4 := fun j hj => oK _ _ o3 hj
  refine lv_aload_n S.1 S.2.1 dX5_runs_0 rfl (lv_at hl 0 rfl) ?_
  refine lv_iload_n S.1 S.2.1 dX5_runs_1 rfl (lv_at hl 1 rfl) ?_
  refine mi_cR (mi_runS (P := mo_W D A ad cf0 f g) (As := [.int (x)]) (rest := [.ref (ad 1000020)]) S E hS hM (c_misColumn_n l D A (mo_W D A ad cf0 f g) (h9)) mw_733 mw_731 mw_732 mw_43 ⟨by decide, by decide, by decide +kernel⟩ ⟨rfl, rfl, Nat.le_of_ble_eq_true rfl, Nat.le_of_ble_eq_true rfl⟩ (n := 1) rfl hl.1 rfl (Nat.le_of_ble_eq_true rfl) dX5_runs_2 ⟨Nat.le_of_ble_eq_true rfl, Nat.le_of_ble_eq_true rfl⟩) (fun r9 e9 => ?_)
  subst e9
  refine mi_if_eq (tgt := 12) S (by omega) dX5_runs_5 (by decide) (fun c5_0 => ?_) (fun c5_0 => by exfalso; omega)
  refine lv_iconst (v := nI 1) S.1 S.2.1 dX5_runs_12 (by decide) ?_
  refine mo_p_44 S E hS hM dX5_runs_13 (fun H locs hM hS => ?_)
  refine lv_aload_n S.1 S.2.1 dX5_runs_16 rfl (lv_at hl 0 rfl) ?_
  refine mo_g_44 S E hM dX5_runs_17 ?_
  refine mi_top (v' := .int (nI (1))) (rfl) ?_
  refine mi_if_le (tgt := 27) S (by omega) dX5_runs_20 (by decide) (fun c20_2 => by exfalso; omega) (fun c20_2 => ?_)
  refine lv_iconst (v := nI 0) S.1 S.2.1 dX5_runs_23 (by decide) ?_
  refine lv_goto (tgt := 32) S.1 S.2.1 dX5_runs_24 (by decide) ?_
  exact mi_retMi S hr hk hS dX5_runs_32 (Nat.le_refl _) (Nat.le_refl _) (hM)
set_option maxHeartbeats 4000000 in
set_option maxRecDepth 100000 in
theorem c_mheight (l : Launch) (D : va_G) (A : Nat → Prop) {ad : Nat → Nat} {cf0 : Nat → Option va_E} {f : Nat → Int32} {g : Nat → Nat → Int32} {S0 : sT} (hR : st_mo S0 f g) (hO : st_ok S0) {a : Nat} (ha : a < 16) : mi_Mi l yX5_height (Cond.code yX5_height cX5_height 2 (some Jvm.ClassFile.FieldType.int)) (mi_rm 3) D A (mo_W D A ad cf0 f g) [.ref (ad 1000020), .int (nI (a))] 0 0 (fun r H => r = nI (sp_h (sK S0 (sW S0)) a 8) ∧ ∃ f1 g1, mo_W D A ad cf0 f1 g1 H ∧ st_mo (S0) f1 g1 ∧ f1 0 = nI 0) := by
  refine mi_start (cc := cX5_height) (nL := 2) (ret := (some Jvm.ClassFile.FieldType.int)) rfl (by decide) (Nat.le_of_ble_eq_true rfl) ?_
  intro p e s m below meth c ls S E hM hS hr hk hn hl
  have S : CallFix p m c cX5_height 2 s _ ((Cond.code yX5_height cX5_height 2 (some Jvm.ClassFile.FieldType.int)) :: mi_G) RX5 := S
  have hl : lv_has ls 2 [(0, .ref (ad 1000020)), (1, .int (nI (a)))] := hl
  obtain ⟨⟨o1, o2, o3, o4, o5⟩, oP, oK, oD, oX, oC, oI⟩ := id hO
  have hw : sW S0 < 61 := by omega
  have hK := st_mo_K hR o3
  have hKb : ∀ j, j < 128 → sK S0 (sW S0) j < 4 := fun j hj => oK _ _ o3 hj
  refine lv_aload_n S.1 S.2.1 dX5_height_0 rfl (lv_at hl 0 rfl) ?_
  refine lv_iload_n S.1 S.2.1 dX5_height_1 rfl (lv_at hl 1 rfl) ?_
  refine mi_cR (mi_runS (P := mo_W D A ad cf0 f g) (As := [.int (nI (a))]) (rest := [.ref (ad 1000020)]) S E hS hM (c_misColumn_y l D A (mo_W D A ad cf0 f g) (by omega)) mw_733 mw_731 mw_732 mw_43 ⟨by decide, by decide, by decide +kernel⟩ ⟨rfl, rfl, Nat.le_of_ble_eq_true rfl, Nat.le_of_ble_eq_true rfl⟩ (n := 1) rfl hl.1 rfl (Nat.le_of_ble_eq_true rfl) dX5_height_2 ⟨Nat.le_of_ble_eq_true rfl, Nat.le_of_ble_eq_true rfl⟩) (fun r9 e9 => ?_)
  subst e9
  refine mi_if_eq (tgt := 12) S (by omega) dX5_height_5 (by decide) (fun c5_0 => by exfalso; omega) (fun c5_0 => ?_)
  refine lv_iconst (v := nI 0) S.1 S.2.1 dX5_height_8 (by decide) ?_
  refine lv_goto (tgt := 13) S.1 S.2.1 dX5_height_9 (by decide) ?_
  refine mo_p_44 S E hS hM dX5_height_13 (fun H locs hM hS => ?_)
  refine lv_aload_n S.1 S.2.1 dX5_height_16 rfl (lv_at hl 0 rfl) ?_
  refine mo_g_44 S E hM dX5_height_17 ?_
  refine mi_top (v' := .int (nI (0))) (rfl) ?_
  refine mi_if_le (tgt := 27) S (by omega) dX5_height_20 (by decide) (fun c20_2 => ?_) (fun c20_2 => by exfalso; omega)
  refine lv_aload_n S.1 S.2.1 dX5_height_27 rfl (lv_at hl 0 rfl) ?_
  refine lv_iload_n S.1 S.2.1 dX5_height_28 rfl (lv_at hl 1 rfl) ?_
  refine mi_cR (mi_runV (P := mo_W D A ad cf0 (upd f 0 (nI (0))) g) (As := [.int (nI (a))]) (rest := []) S E hS hM (ad 1000020) (c_heightNow l D A (f := (upd f 0 (nI (0)))) (g := g) (w := sW S0) (K := sK S0 (sW S0)) hw hR.1.2.1 hK hKb ha) (hM.recv E) mw_815 mw_812 mw_814 mw_26 mw_43 ⟨by decide, by decide, by decide +kernel⟩ ⟨rfl, rfl, Nat.le_of_ble_eq_true rfl, Nat.le_of_ble_eq_true rfl⟩ (n := 1) rfl hl.1 rfl (Nat.le_of_ble_eq_true rfl) dX5_height_29 ⟨Nat.le_of_ble_eq_true rfl, Nat.le_of_ble_eq_true rfl⟩) (fun r9 e9 => ?_)
  subst e9
  exact mi_retMi S hr hk hS dX5_height_32 (Nat.le_refl _) (Nat.le_refl _) ⟨rfl, (upd f 0 (nI (0))), g, hM, st_mo_0 hR _, rfl⟩
set_option maxHeartbeats 4000000 in
set_option maxRecDepth 100000 in
theorem c_mheight_1 (l : Launch) (D : va_G) (A : Nat → Prop) {ad : Nat → Nat} {cf0 : Nat → Option va_E} {f : Nat → Int32} {g : Nat → Nat → Int32} {S0 : sT} (hR : st_mo S0 f g) (hO : st_ok S0) {x : Int32} (h9 : ¬ (0 ≤ x.toInt ∧ x.toInt ≤ 15)) : mi_Mi l yX5_height (Cond.code yX5_height cX5_height 2 (some Jvm.ClassFile.FieldType.int)) (mi_rm 3) D A (mo_W D A ad cf0 f g) [.ref (ad 1000020), .int (x)] 0 0 (fun r H => mo_W D A ad cf0 (upd f 0 (nI 1)) g H) := by
  refine mi_start (cc := cX5_height) (nL := 2) (ret := (some Jvm.ClassFile.FieldType.int)) rfl (by decide) (Nat.le_of_ble_eq_true rfl) ?_
  intro p e s m below meth c ls S E hM hS hr hk hn hl
  have S : CallFix p m c cX5_height 2 s _ ((Cond.code yX5_height cX5_height 2 (some Jvm.ClassFile.FieldType.int)) :: mi_G) RX5 := S
  have hl : lv_has ls 2 [(0, .ref (ad 1000020)), (1, .int (x))] := hl
  obtain ⟨⟨o1, o2, o3, o4, o5⟩, oP, oK, oD, oX, oC, oI⟩ := id hO
  have hw : sW S0 < 61 := by omega
  have hK := st_mo_K hR o3
  have hKb : ∀ j, j < 128 → sK S0 (sW S0) j < 4 := fun j hj => oK _ _ o3 hj
  refine lv_aload_n S.1 S.2.1 dX5_height_0 rfl (lv_at hl 0 rfl) ?_
  refine lv_iload_n S.1 S.2.1 dX5_height_1 rfl (lv_at hl 1 rfl) ?_
  refine mi_cR (mi_runS (P := mo_W D A ad cf0 f g) (As := [.int (x)]) (rest := [.ref (ad 1000020)]) S E hS hM (c_misColumn_n l D A (mo_W D A ad cf0 f g) (h9)) mw_733 mw_731 mw_732 mw_43 ⟨by decide, by decide, by decide +kernel⟩ ⟨rfl, rfl, Nat.le_of_ble_eq_true rfl, Nat.le_of_ble_eq_true rfl⟩ (n := 1) rfl hl.1 rfl (Nat.le_of_ble_eq_true rfl) dX5_height_2 ⟨Nat.le_of_ble_eq_true rfl, Nat.le_of_ble_eq_true rfl⟩) (fun r9 e9 => ?_)
  subst e9
  refine mi_if_eq (tgt := 12) S (by omega) dX5_height_5 (by decide) (fun c5_0 => ?_) (fun c5_0 => by exfalso; omega)
  refine lv_iconst (v := nI 1) S.1 S.2.1 dX5_height_12 (by decide) ?_
  refine mo_p_44 S E hS hM dX5_height_13 (fun H locs hM hS => ?_)
  refine lv_aload_n S.1 S.2.1 dX5_height_16 rfl (lv_at hl 0 rfl) ?_
  refine mo_g_44 S E hM dX5_height_17 ?_
  refine mi_top (v' := .int (nI (1))) (rfl) ?_
  refine mi_if_le (tgt := 27) S (by omega) dX5_height_20 (by decide) (fun c20_2 => by exfalso; omega) (fun c20_2 => ?_)
  refine lv_iconst (v := nI 0) S.1 S.2.1 dX5_height_23 (by decide) ?_
  refine lv_goto (tgt := 32) S.1 S.2.1 dX5_height_24 (by decide) ?_
  exact mi_retMi S hr hk hS dX5_height_32 (Nat.le_refl _) (Nat.le_refl _) (hM)
set_option maxHeartbeats 4000000 in
set_option maxRecDepth 100000 in
theorem c_mrunLength (l : Launch) (D : va_G) (A : Nat → Prop) {ad : Nat → Nat} {cf0 : Nat → Option va_E} {f : Nat → Int32} {g : Nat → Nat → Int32} {S0 : sT} (hR : st_mo S0 f g) (hO : st_ok S0) {a : Nat} (ha : a < 16) {u : Nat} (hr9 : u < sp_runs (sK S0 (sW S0)) a) : mi_Mi l yX5_runLength (Cond.code yX5_runLength cX5_runLength 6 (some Jvm.ClassFile.FieldType.int)) (mi_rm 3) D A (mo_W D A ad cf0 f g) [.ref (ad 1000020), .int (nI (a)), .int (nI (u))] 0 0 (fun r H => r = nI (sp_rl (sK S0 (sW S0)) a u) ∧ ∃ f1 g1, mo_W D A ad cf0 f1 g1 H ∧ st_mo (S0) f1 g1 ∧ f1 0 = nI 0) := by
  refine mi_start (cc := cX5_runLength) (nL := 6) (ret := (some Jvm.ClassFile.FieldType.int)) rfl (by decide) (Nat.le_of_ble_eq_true rfl) ?_
  intro p e s m below meth c ls S E hM hS hr hk hn hl
  have S : CallFix p m c cX5_runLength 6 s _ ((Cond.code yX5_runLength cX5_runLength 6 (some Jvm.ClassFile.FieldType.int)) :: mi_G) RX5 := S
  have hl : lv_has ls 6 [(0, .ref (ad 1000020)), (1, .int (nI (a))), (2, .int (nI (u)))] := hl
  obtain ⟨⟨o1, o2, o3, o4, o5⟩, oP, oK, oD, oX, oC, oI⟩ := id hO
  have hw : sW S0 < 61 := by omega
  have hK := st_mo_K hR o3
  have hKb : ∀ j, j < 128 → sK S0 (sW S0) j < 4 := fun j hj => oK _ _ o3 hj
  have hrb : sp_runs (sK S0 (sW S0)) a ≤ 8 := by have := sp_ri_le (sK S0 (sW S0)) a 7; unfold sp_runs; omega
  refine lv_aload_n S.1 S.2.1 dX5_runLength_0 rfl (lv_at hl 0 rfl) ?_
  refine lv_iload_n S.1 S.2.1 dX5_runLength_1 rfl (lv_at hl 1 rfl) ?_
  refine mi_cR (mi_runS (P := mo_W D A ad cf0 f g) (As := [.int (nI (a))]) (rest := [.ref (ad 1000020)]) S E hS hM (c_misColumn_y l D A (mo_W D A ad cf0 f g) (by omega)) mw_733 mw_731 mw_732 mw_43 ⟨by decide, by decide, by decide +kernel⟩ ⟨rfl, rfl, Nat.le_of_ble_eq_true rfl, Nat.le_of_ble_eq_true rfl⟩ (n := 1) rfl hl.1 rfl (Nat.le_of_ble_eq_true rfl) dX5_runLength_2 ⟨Nat.le_of_ble_eq_true rfl, Nat.le_of_ble_eq_true rfl⟩) (fun r9 e9 => ?_)
  subst e9
  refine mi_if_eq (tgt := 27) S (by omega) dX5_runLength_5 (by decide) (fun c5_0 => by exfalso; omega) (fun c5_0 => ?_)
  refine lv_iload_n S.1 S.2.1 dX5_runLength_8 rfl (lv_at hl 2 rfl) ?_
  refine lv_iconst (v := nI 0) S.1 S.2.1 dX5_runLength_9 (by decide) ?_
  refine lv_aload_n S.1 S.2.1 dX5_runLength_10 rfl (lv_at hl 0 rfl) ?_
  refine lv_iload_n S.1 S.2.1 dX5_runLength_11 rfl (lv_at hl 1 rfl) ?_
  refine mi_cR (mi_runV (P := mo_W D A ad cf0 f g) (As := [.int (nI (a))]) (rest := [.int (nI (0)), .int (nI (u)), .ref (ad 1000020)]) S E hS hM (ad 1000020) (c_runsOf l D A (f := f) (g := g) (w := sW S0) (K := sK S0 (sW S0)) hw hR.1.2.1 hK hKb ha) (hM.recv E) mw_775 mw_772 mw_774 mw_21 mw_43 ⟨by decide, by decide, by decide +kernel⟩ ⟨rfl, rfl, Nat.le_of_ble_eq_true rfl, Nat.le_of_ble_eq_true rfl⟩ (n := 1) rfl hl.1 rfl (Nat.le_of_ble_eq_true rfl) dX5_runLength_12 ⟨Nat.le_of_ble_eq_true rfl, Nat.le_of_ble_eq_true rfl⟩) (fun r9 e9 => ?_)
  subst e9
  refine lv_iconst (v := nI 1) S.1 S.2.1 dX5_runLength_15 (by decide) ?_
  refine lv_isub S.1 S.2.1 dX5_runLength_16 ?_
  refine mi_cR (mi_runS (P := mo_W D A ad cf0 f g) (As := [.int (nI (u)), .int (nI (0)), .int ((nI (sp_runs (sK S0 (sW S0)) a)) - (nI (1)))]) (rest := [.ref (ad 1000020)]) S E hS hM (c_in_y l D A (mo_W D A ad cf0 f g) (by have := nI_toInt (n := u) (by omega); have := nI_toInt (n := 0) (by omega); have := pk_sub_toInt (a := sp_runs (sK S0 (sW S0)) a) (b := 1) (by omega) (by omega); omega)) mw_736 mw_734 mw_735 mw_43 ⟨by decide, by decide, by decide +kernel⟩ ⟨rfl, rfl, Nat.le_of_ble_eq_true rfl, Nat.le_of_ble_eq_true rfl⟩ (n := 3) rfl hl.1 rfl (Nat.le_of_ble_eq_true rfl) dX5_runLength_17 ⟨Nat.le_of_ble_eq_true rfl, Nat.le_of_ble_eq_true rfl⟩) (fun r9 e9 => ?_)
  subst e9
  refine mi_if_eq (tgt := 27) S (by omega) dX5_runLength_20 (by decide) (fun c20_1 => by exfalso; omega) (fun c20_1 => ?_)
  refine lv_iconst (v := nI 0) S.1 S.2.1 dX5_runLength_23 (by decide) ?_
  refine lv_goto (tgt := 28) S.1 S.2.1 dX5_runLength_24 (by decide) ?_
  refine mo_p_44 S E hS hM dX5_runLength_28 (fun H locs hM hS => ?_)
  refine lv_iconst (v := nI 0) S.1 S.2.1 dX5_runLength_31 (by decide) ?_
  refine lv_istore_n (lv' := [(3, .int (nI (0))), (0, .ref (ad 1000020)), (1, .int (nI (a))), (2, .int (nI (u)))]) S.1 S.2.1 dX5_runLength_32 rfl hl (by decide) rfl (fun ls hl => ?_)
  refine lv_iconst (v := nI 0) S.1 S.2.1 dX5_runLength_33 (by decide) ?_
  refine lv_istore (lv' := [(4, .int (nI (0))), (3, .int (nI (0))), (0, .ref (ad 1000020)), (1, .int (nI (a))), (2, .int (nI (u)))]) S.1 S.2.1 dX5_runLength_34 hl (by decide) rfl (fun ls hl => ?_)
  refine lv_iconst (v := nI 0) S.1 S.2.1 dX5_runLength_36 (by decide) ?_
  refine lv_istore (lv' := [(5, .int (nI (0))), (4, .int (nI (0))), (3, .int (nI (0))), (0, .ref (ad 1000020)), (1, .int (nI (a))), (2, .int (nI (u)))]) S.1 S.2.1 dX5_runLength_37 hl (by decide) rfl (fun ls hl => ?_)
  have lp39 : ∀ (n39 : Nat) (n : Nat) (t : Nat) (i : Nat) (ls : Array Slot), 8 - i < n39 → i ≤ 8 → t = sp_ri (sK S0 (sW S0)) a (i - 1) → n = fb_sm (fun j => if sp_ri (sK S0 (sW S0)) a j = u then 1 else 0) i → n ≤ i → lv_has ls 6 [(0, .ref (ad 1000020)), (1, .int (nI (a))), (2, .int (nI (u))), (3, .int (nI (n))), (4, .int (nI (t))), (5, .int (nI (i)))] → W p l e (mi_rm 3) s m ([.ref (ad 1000020), .int (nI (a)), .int (nI (u))] : List Value).toArray below meth c H locs 0 0 (MQ below (mi_Qi A (fun r H => r = nI (sp_rl (sK S0 (sW S0)) a u) ∧ ∃ f1 g1, mo_W D A ad cf0 f1 g1 H ∧ st_mo (S0) f1 g1 ∧ f1 0 = nI 0)) ([.ref (ad 1000020), .int (nI (a)), .int (nI (u))] : List Value).toArray s 0 0 A) (F0 m 39 ls []) := by
    intro n39
    induction n39 with
    | zero => intro n t i ls hm hi ht9 hn9 hnb  hl; exact absurd hm (Nat.not_lt_zero _)
    | succ n39 ih39 =>
      intro n t i ls hm hi ht9 hn9 hnb  hl
      refine lv_iload S.1 S.2.1 dX5_runLength_39 (lv_at hl 5 rfl) ?_
      refine lv_bipush (v := nI 8) S.1 S.2.1 dX5_runLength_41 (by decide) ?_
      refine mi_icmp_ge (tgt := 107) S (by omega) (by omega) dX5_runLength_43 (by decide) (fun c43_3 => ?_) (fun c43_3 => ?_)
      · refine lv_iload_n S.1 S.2.1 dX5_runLength_107 rfl (lv_at hl 3 rfl) ?_
        exact mi_retMi S hr hk hS dX5_runLength_108 (Nat.le_refl _) (Nat.le_refl _) ⟨by rw [hn9, show i = 8 by omega]; rfl, (upd f 0 (nI (0))), g, hM, st_mo_0 hR _, rfl⟩
      · refine lv_aload_n S.1 S.2.1 dX5_runLength_46 rfl (lv_at hl 0 rfl) ?_
        refine mo_g_44 S E hM dX5_runLength_47 ?_
        refine mi_top (v' := .int (nI (0))) (rfl) ?_
        refine mi_if_ne (tgt := 107) S (by omega) dX5_runLength_50 (by decide) (fun c50_4 => by exfalso; omega) (fun c50_4 => ?_)
        refine lv_iload S.1 S.2.1 dX5_runLength_53 (lv_at hl 4 rfl) ?_
        refine lv_iload S.1 S.2.1 dX5_runLength_55 (lv_at hl 5 rfl) ?_
        have hr1 := sp_ri_le (sK S0 (sW S0)) a (i - 1)
        have hb1 := hKb (8 * a + i) (by omega)
        have hb2 := hKb (8 * a + (i - 1)) (by omega)
        refine mi_if_le (tgt := 83) S (by omega) dX5_runLength_57 (by decide) (fun c57_5 => ?_) (fun c57_5 => ?_)
        · refine lv_iconst (v := nI 0) S.1 S.2.1 dX5_runLength_83 (by decide) ?_
          refine mi_iadd S dX5_runLength_84 ?_
          refine lv_istore (lv' := [(4, .int (nI (t + 0))), (0, .ref (ad 1000020)), (1, .int (nI (a))), (2, .int (nI (u))), (3, .int (nI (n))), (5, .int (nI (i)))]) S.1 S.2.1 dX5_runLength_85 hl (by decide) rfl (fun ls hl => ?_)
          refine lv_iload_n S.1 S.2.1 dX5_runLength_87 rfl (lv_at hl 4 rfl) ?_
          refine lv_iload S.1 S.2.1 dX5_runLength_88 (lv_at hl 0 rfl) ?_
          refine lv_iload_n S.1 S.2.1 dX5_runLength_90 rfl (lv_at hl 3 rfl) ?_
          refine mi_icmp_ne (tgt := 98) S (by omega) (by omega) dX5_runLength_91 (by decide) (fun c91_6 => ?_) (fun c91_6 => ?_)
          · refine lv_iconst (v := nI 0) S.1 S.2.1 dX5_runLength_98 (by decide) ?_
            refine mi_iadd S dX5_runLength_99 ?_
            refine lv_istore_n (lv' := [(3, .int (nI (n + 0))), (4, .int (nI (t + 0))), (0, .ref (ad 1000020)), (1, .int (nI (a))), (2, .int (nI (u))), (5, .int (nI (i)))]) S.1 S.2.1 dX5_runLength_100 rfl hl (by decide) rfl (fun ls hl => ?_)
            refine lv_iinc (v := nI (i + 1)) (lv' := [(5, .int (nI (i + 1))), (3, .int (nI (n + 0))), (4, .int (nI (t + 0))), (0, .ref (ad 1000020)), (1, .int (nI (a))), (2, .int (nI (u)))]) S.1 S.2.1 dX5_runLength_101 hl (k := 5) rfl (mi_inc _) (by decide) rfl (fun ls hl => ?_)
            refine lv_goto (tgt := 39) S.1 S.2.1 dX5_runLength_104 (by decide) ?_
            exact ih39 (n + 0) (t + 0) (i + 1) _ (by omega) (by omega) (by rw [show i + 1 - 1 = i by omega]; first | (have h0 : i = 0 := (by omega); subst h0; exact ht9) | (rw [show i = (i - 1) + 1 by omega, sp_ri_succ, ← ht9]; unfold sp_ne; rw [show 8 * a + (i - 1) + 1 = 8 * a + i by omega]; first | (rw [if_pos (by omega)] <;> omega) | (rw [if_neg (by omega)] <;> omega))) (by have e9 : t + 0 = sp_ri (sK S0 (sW S0)) a i := (by first | (have h0 : i = 0 := (by omega); subst h0; exact ht9) | (rw [show i = (i - 1) + 1 by omega, sp_ri_succ, ← ht9]; unfold sp_ne; rw [show 8 * a + (i - 1) + 1 = 8 * a + i by omega]; first | (rw [if_pos (by omega)] <;> omega) | (rw [if_neg (by omega)] <;> omega))); rw [fb_sm_succ, ← hn9]; first | (rw [if_pos (by omega)]) | (rw [if_neg (by omega)])) (by omega)  (lv_sub hl [3, 4, 5, 1, 2, 0] rfl)
          · refine lv_iconst (v := nI 1) S.1 S.2.1 dX5_runLength_94 (by decide) ?_
            refine lv_goto (tgt := 99) S.1 S.2.1 dX5_runLength_95 (by decide) ?_
            refine mi_iadd S dX5_runLength_99 ?_
            refine lv_istore_n (lv' := [(3, .int (nI (n + 1))), (4, .int (nI (t + 0))), (0, .ref (ad 1000020)), (1, .int (nI (a))), (2, .int (nI (u))), (5, .int (nI (i)))]) S.1 S.2.1 dX5_runLength_100 rfl hl (by decide) rfl (fun ls hl => ?_)
            refine lv_iinc (v := nI (i + 1)) (lv' := [(5, .int (nI (i + 1))), (3, .int (nI (n + 1))), (4, .int (nI (t + 0))), (0, .ref (ad 1000020)), (1, .int (nI (a))), (2, .int (nI (u)))]) S.1 S.2.1 dX5_runLength_101 hl (k := 5) rfl (mi_inc _) (by decide) rfl (fun ls hl => ?_)
            refine lv_goto (tgt := 39) S.1 S.2.1 dX5_runLength_104 (by decide) ?_
            exact ih39 (n + 1) (t + 0) (i + 1) _ (by omega) (by omega) (by rw [show i + 1 - 1 = i by omega]; first | (have h0 : i = 0 := (by omega); subst h0; exact ht9) | (rw [show i = (i - 1) + 1 by omega, sp_ri_succ, ← ht9]; unfold sp_ne; rw [show 8 * a + (i - 1) + 1 = 8 * a + i by omega]; first | (rw [if_pos (by omega)] <;> omega) | (rw [if_neg (by omega)] <;> omega))) (by have e9 : t + 0 = sp_ri (sK S0 (sW S0)) a i := (by first | (have h0 : i = 0 := (by omega); subst h0; exact ht9) | (rw [show i = (i - 1) + 1 by omega, sp_ri_succ, ← ht9]; unfold sp_ne; rw [show 8 * a + (i - 1) + 1 = 8 * a + i by omega]; first | (rw [if_pos (by omega)] <;> omega) | (rw [if_neg (by omega)] <;> omega))); rw [fb_sm_succ, ← hn9]; first | (rw [if_pos (by omega)]) | (rw [if_neg (by omega)])) (by omega)  (lv_sub hl [3, 4, 5, 1, 2, 0] rfl)
        · refine lv_aload_n S.1 S.2.1 dX5_runLength_60 rfl (lv_at hl 0 rfl) ?_
          refine lv_iload_n S.1 S.2.1 dX5_runLength_61 rfl (lv_at hl 1 rfl) ?_
          refine lv_iload S.1 S.2.1 dX5_runLength_62 (lv_at hl 5 rfl) ?_
          refine mi_cR (mi_runV (P := mo_W D A ad cf0 (upd f 0 (nI (0))) g) (As := [.int (nI (a)), .int (nI (i))]) (rest := [.int (nI (t))]) S E hS hM (ad 1000020) (c_mkindNow l D A hw hR.1.2.1 (by omega) (by omega) (hK a i (by omega) (by omega))) (hM.recv E) mw_763 mw_760 mw_762 mw_19 mw_43 ⟨by decide, by decide, by decide +kernel⟩ ⟨rfl, rfl, Nat.le_of_ble_eq_true rfl, Nat.le_of_ble_eq_true rfl⟩ (n := 2) rfl hl.1 rfl (Nat.le_of_ble_eq_true rfl) dX5_runLength_64 ⟨Nat.le_of_ble_eq_true rfl, Nat.le_of_ble_eq_true rfl⟩) (fun r9 e9 => ?_)
          subst e9
          refine lv_aload_n S.1 S.2.1 dX5_runLength_67 rfl (lv_at hl 0 rfl) ?_
          refine lv_iload_n S.1 S.2.1 dX5_runLength_68 rfl (lv_at hl 1 rfl) ?_
          refine lv_iload S.1 S.2.1 dX5_runLength_69 (lv_at hl 5 rfl) ?_
          refine lv_iconst (v := nI 1) S.1 S.2.1 dX5_runLength_71 (by decide) ?_
          refine mi_isub S (by omega) dX5_runLength_72 ?_
          refine mi_cR (mi_runV (P := mo_W D A ad cf0 (upd f 0 (nI (0))) g) (As := [.int (nI (a)), .int (nI (i - 1))]) (rest := [.int (nI (sK S0 (sW S0) (8 * a + i))), .int (nI (t))]) S E hS hM (ad 1000020) (c_mkindNow l D A hw hR.1.2.1 (by omega) (by omega) (hK a (i - 1) (by omega) (by omega))) (hM.recv E) mw_763 mw_760 mw_762 mw_19 mw_43 ⟨by decide, by decide, by decide +kernel⟩ ⟨rfl, rfl, Nat.le_of_ble_eq_true rfl, Nat.le_of_ble_eq_true rfl⟩ (n := 2) rfl hl.1 rfl (Nat.le_of_ble_eq_true rfl) dX5_runLength_73 ⟨Nat.le_of_ble_eq_true rfl, Nat.le_of_ble_eq_true rfl⟩) (fun r9 e9 => ?_)
          subst e9
          refine mi_icmp_eq (tgt := 83) S (by omega) (by omega) dX5_runLength_76 (by decide) (fun c76_7 => ?_) (fun c76_7 => ?_)
          · refine lv_iconst (v := nI 0) S.1 S.2.1 dX5_runLength_83 (by decide) ?_
            refine mi_iadd S dX5_runLength_84 ?_
            refine lv_istore (lv' := [(4, .int (nI (t + 0))), (0, .ref (ad 1000020)), (1, .int (nI (a))), (2, .int (nI (u))), (3, .int (nI (n))), (5, .int (nI (i)))]) S.1 S.2.1 dX5_runLength_85 hl (by decide) rfl (fun ls hl => ?_)
            refine lv_iload_n S.1 S.2.1 dX5_runLength_87 rfl (lv_at hl 4 rfl) ?_
            refine lv_iload S.1 S.2.1 dX5_runLength_88 (lv_at hl 0 rfl) ?_
            refine lv_iload_n S.1 S.2.1 dX5_runLength_90 rfl (lv_at hl 3 rfl) ?_
            refine mi_icmp_ne (tgt := 98) S (by omega) (by omega) dX5_runLength_91 (by decide) (fun c91_8 => ?_) (fun c91_8 => ?_)
            · refine lv_iconst (v := nI 0) S.1 S.2.1 dX5_runLength_98 (by decide) ?_
              refine mi_iadd S dX5_runLength_99 ?_
              refine lv_istore_n (lv' := [(3, .int (nI (n + 0))), (4, .int (nI (t + 0))), (0, .ref (ad 1000020)), (1, .int (nI (a))), (2, .int (nI (u))), (5, .int (nI (i)))]) S.1 S.2.1 dX5_runLength_100 rfl hl (by decide) rfl (fun ls hl => ?_)
              refine lv_iinc (v := nI (i + 1)) (lv' := [(5, .int (nI (i + 1))), (3, .int (nI (n + 0))), (4, .int (nI (t + 0))), (0, .ref (ad 1000020)), (1, .int (nI (a))), (2, .int (nI (u)))]) S.1 S.2.1 dX5_runLength_101 hl (k := 5) rfl (mi_inc _) (by decide) rfl (fun ls hl => ?_)
              refine lv_goto (tgt := 39) S.1 S.2.1 dX5_runLength_104 (by decide) ?_
              exact ih39 (n + 0) (t + 0) (i + 1) _ (by omega) (by omega) (by rw [show i + 1 - 1 = i by omega]; first | (have h0 : i = 0 := (by omega); subst h0; exact ht9) | (rw [show i = (i - 1) + 1 by omega, sp_ri_succ, ← ht9]; unfold sp_ne; rw [show 8 * a + (i - 1) + 1 = 8 * a + i by omega]; first | (rw [if_pos (by omega)] <;> omega) | (rw [if_neg (by omega)] <;> omega))) (by have e9 : t + 0 = sp_ri (sK S0 (sW S0)) a i := (by first | (have h0 : i = 0 := (by omega); subst h0; exact ht9) | (rw [show i = (i - 1) + 1 by omega, sp_ri_succ, ← ht9]; unfold sp_ne; rw [show 8 * a + (i - 1) + 1 = 8 * a + i by omega]; first | (rw [if_pos (by omega)] <;> omega) | (rw [if_neg (by omega)] <;> omega))); rw [fb_sm_succ, ← hn9]; first | (rw [if_pos (by omega)]) | (rw [if_neg (by omega)])) (by omega)  (lv_sub hl [3, 4, 5, 1, 2, 0] rfl)
            · refine lv_iconst (v := nI 1) S.1 S.2.1 dX5_runLength_94 (by decide) ?_
              refine lv_goto (tgt := 99) S.1 S.2.1 dX5_runLength_95 (by decide) ?_
              refine mi_iadd S dX5_runLength_99 ?_
              refine lv_istore_n (lv' := [(3, .int (nI (n + 1))), (4, .int (nI (t + 0))), (0, .ref (ad 1000020)), (1, .int (nI (a))), (2, .int (nI (u))), (5, .int (nI (i)))]) S.1 S.2.1 dX5_runLength_100 rfl hl (by decide) rfl (fun ls hl => ?_)
              refine lv_iinc (v := nI (i + 1)) (lv' := [(5, .int (nI (i + 1))), (3, .int (nI (n + 1))), (4, .int (nI (t + 0))), (0, .ref (ad 1000020)), (1, .int (nI (a))), (2, .int (nI (u)))]) S.1 S.2.1 dX5_runLength_101 hl (k := 5) rfl (mi_inc _) (by decide) rfl (fun ls hl => ?_)
              refine lv_goto (tgt := 39) S.1 S.2.1 dX5_runLength_104 (by decide) ?_
              exact ih39 (n + 1) (t + 0) (i + 1) _ (by omega) (by omega) (by rw [show i + 1 - 1 = i by omega]; first | (have h0 : i = 0 := (by omega); subst h0; exact ht9) | (rw [show i = (i - 1) + 1 by omega, sp_ri_succ, ← ht9]; unfold sp_ne; rw [show 8 * a + (i - 1) + 1 = 8 * a + i by omega]; first | (rw [if_pos (by omega)] <;> omega) | (rw [if_neg (by omega)] <;> omega))) (by have e9 : t + 0 = sp_ri (sK S0 (sW S0)) a i := (by first | (have h0 : i = 0 := (by omega); subst h0; exact ht9) | (rw [show i = (i - 1) + 1 by omega, sp_ri_succ, ← ht9]; unfold sp_ne; rw [show 8 * a + (i - 1) + 1 = 8 * a + i by omega]; first | (rw [if_pos (by omega)] <;> omega) | (rw [if_neg (by omega)] <;> omega))); rw [fb_sm_succ, ← hn9]; first | (rw [if_pos (by omega)]) | (rw [if_neg (by omega)])) (by omega)  (lv_sub hl [3, 4, 5, 1, 2, 0] rfl)
          · refine lv_iconst (v := nI 1) S.1 S.2.1 dX5_runLength_79 (by decide) ?_
            refine lv_goto (tgt := 84) S.1 S.2.1 dX5_runLength_80 (by decide) ?_
            refine mi_iadd S dX5_runLength_84 ?_
            refine lv_istore (lv' := [(4, .int (nI (t + 1))), (0, .ref (ad 1000020)), (1, .int (nI (a))), (2, .int (nI (u))), (3, .int (nI (n))), (5, .int (nI (i)))]) S.1 S.2.1 dX5_runLength_85 hl (by decide) rfl (fun ls hl => ?_)
            refine lv_iload_n S.1 S.2.1 dX5_runLength_87 rfl (lv_at hl 4 rfl) ?_
            refine lv_iload S.1 S.2.1 dX5_runLength_88 (lv_at hl 0 rfl) ?_
            refine lv_iload_n S.1 S.2.1 dX5_runLength_90 rfl (lv_at hl 3 rfl) ?_
            refine mi_icmp_ne (tgt := 98) S (by omega) (by omega) dX5_runLength_91 (by decide) (fun c91_9 => ?_) (fun c91_9 => ?_)
            · refine lv_iconst (v := nI 0) S.1 S.2.1 dX5_runLength_98 (by decide) ?_
              refine mi_iadd S dX5_runLength_99 ?_
              refine lv_istore_n (lv' := [(3, .int (nI (n + 0))), (4, .int (nI (t + 1))), (0, .ref (ad 1000020)), (1, .int (nI (a))), (2, .int (nI (u))), (5, .int (nI (i)))]) S.1 S.2.1 dX5_runLength_100 rfl hl (by decide) rfl (fun ls hl => ?_)
              refine lv_iinc (v := nI (i + 1)) (lv' := [(5, .int (nI (i + 1))), (3, .int (nI (n + 0))), (4, .int (nI (t + 1))), (0, .ref (ad 1000020)), (1, .int (nI (a))), (2, .int (nI (u)))]) S.1 S.2.1 dX5_runLength_101 hl (k := 5) rfl (mi_inc _) (by decide) rfl (fun ls hl => ?_)
              refine lv_goto (tgt := 39) S.1 S.2.1 dX5_runLength_104 (by decide) ?_
              exact ih39 (n + 0) (t + 1) (i + 1) _ (by omega) (by omega) (by rw [show i + 1 - 1 = i by omega]; first | (have h0 : i = 0 := (by omega); subst h0; exact ht9) | (rw [show i = (i - 1) + 1 by omega, sp_ri_succ, ← ht9]; unfold sp_ne; rw [show 8 * a + (i - 1) + 1 = 8 * a + i by omega]; first | (rw [if_pos (by omega)] <;> omega) | (rw [if_neg (by omega)] <;> omega))) (by have e9 : t + 1 = sp_ri (sK S0 (sW S0)) a i := (by first | (have h0 : i = 0 := (by omega); subst h0; exact ht9) | (rw [show i = (i - 1) + 1 by omega, sp_ri_succ, ← ht9]; unfold sp_ne; rw [show 8 * a + (i - 1) + 1 = 8 * a + i by omega]; first | (rw [if_pos (by omega)] <;> omega) | (rw [if_neg (by omega)] <;> omega))); rw [fb_sm_succ, ← hn9]; first | (rw [if_pos (by omega)]) | (rw [if_neg (by omega)])) (by omega)  (lv_sub hl [3, 4, 5, 1, 2, 0] rfl)
            · refine lv_iconst (v := nI 1) S.1 S.2.1 dX5_runLength_94 (by decide) ?_
              refine lv_goto (tgt := 99) S.1 S.2.1 dX5_runLength_95 (by decide) ?_
              refine mi_iadd S dX5_runLength_99 ?_
              refine lv_istore_n (lv' := [(3, .int (nI (n + 1))), (4, .int (nI (t + 1))), (0, .ref (ad 1000020)), (1, .int (nI (a))), (2, .int (nI (u))), (5, .int (nI (i)))]) S.1 S.2.1 dX5_runLength_100 rfl hl (by decide) rfl (fun ls hl => ?_)
              refine lv_iinc (v := nI (i + 1)) (lv' := [(5, .int (nI (i + 1))), (3, .int (nI (n + 1))), (4, .int (nI (t + 1))), (0, .ref (ad 1000020)), (1, .int (nI (a))), (2, .int (nI (u)))]) S.1 S.2.1 dX5_runLength_101 hl (k := 5) rfl (mi_inc _) (by decide) rfl (fun ls hl => ?_)
              refine lv_goto (tgt := 39) S.1 S.2.1 dX5_runLength_104 (by decide) ?_
              exact ih39 (n + 1) (t + 1) (i + 1) _ (by omega) (by omega) (by rw [show i + 1 - 1 = i by omega]; first | (have h0 : i = 0 := (by omega); subst h0; exact ht9) | (rw [show i = (i - 1) + 1 by omega, sp_ri_succ, ← ht9]; unfold sp_ne; rw [show 8 * a + (i - 1) + 1 = 8 * a + i by omega]; first | (rw [if_pos (by omega)] <;> omega) | (rw [if_neg (by omega)] <;> omega))) (by have e9 : t + 1 = sp_ri (sK S0 (sW S0)) a i := (by first | (have h0 : i = 0 := (by omega); subst h0; exact ht9) | (rw [show i = (i - 1) + 1 by omega, sp_ri_succ, ← ht9]; unfold sp_ne; rw [show 8 * a + (i - 1) + 1 = 8 * a + i by omega]; first | (rw [if_pos (by omega)] <;> omega) | (rw [if_neg (by omega)] <;> omega))); rw [fb_sm_succ, ← hn9]; first | (rw [if_pos (by omega)]) | (rw [if_neg (by omega)])) (by omega)  (lv_sub hl [3, 4, 5, 1, 2, 0] rfl)
  exact lp39 _ 0 0 0 _ (Nat.lt_succ_self _) (by omega) (by rfl) (by rfl) (by omega)  (lv_sub hl [3, 4, 5, 2, 1, 0] rfl)
set_option maxHeartbeats 4000000 in
set_option maxRecDepth 100000 in
theorem c_mrunLength_1 (l : Launch) (D : va_G) (A : Nat → Prop) {ad : Nat → Nat} {cf0 : Nat → Option va_E} {f : Nat → Int32} {g : Nat → Nat → Int32} {S0 : sT} (hR : st_mo S0 f g) (hO : st_ok S0) {y : Int32} {x : Int32} (h9 : ¬ (0 ≤ x.toInt ∧ x.toInt ≤ 15)) : mi_Mi l yX5_runLength (Cond.code yX5_runLength cX5_runLength 6 (some Jvm.ClassFile.FieldType.int)) (mi_rm 3) D A (mo_W D A ad cf0 f g) [.ref (ad 1000020), .int (x), .int (y)] 0 0 (fun r H => mo_W D A ad cf0 (upd f 0 (nI 1)) g H) := by
  refine mi_start (cc := cX5_runLength) (nL := 6) (ret := (some Jvm.ClassFile.FieldType.int)) rfl (by decide) (Nat.le_of_ble_eq_true rfl) ?_
  intro p e s m below meth c ls S E hM hS hr hk hn hl
  have S : CallFix p m c cX5_runLength 6 s _ ((Cond.code yX5_runLength cX5_runLength 6 (some Jvm.ClassFile.FieldType.int)) :: mi_G) RX5 := S
  have hl : lv_has ls 6 [(0, .ref (ad 1000020)), (1, .int (x)), (2, .int (y))] := hl
  obtain ⟨⟨o1, o2, o3, o4, o5⟩, oP, oK, oD, oX, oC, oI⟩ := id hO
  have hw : sW S0 < 61 := by omega
  have hK := st_mo_K hR o3
  have hKb : ∀ j, j < 128 → sK S0 (sW S0) j < 4 := fun j hj => oK _ _ o3 hj
  refine lv_aload_n S.1 S.2.1 dX5_runLength_0 rfl (lv_at hl 0 rfl) ?_
  refine lv_iload_n S.1 S.2.1 dX5_runLength_1 rfl (lv_at hl 1 rfl) ?_
  refine mi_cR (mi_runS (P := mo_W D A ad cf0 f g) (As := [.int (x)]) (rest := [.ref (ad 1000020)]) S E hS hM (c_misColumn_n l D A (mo_W D A ad cf0 f g) (h9)) mw_733 mw_731 mw_732 mw_43 ⟨by decide, by decide, by decide +kernel⟩ ⟨rfl, rfl, Nat.le_of_ble_eq_true rfl, Nat.le_of_ble_eq_true rfl⟩ (n := 1) rfl hl.1 rfl (Nat.le_of_ble_eq_true rfl) dX5_runLength_2 ⟨Nat.le_of_ble_eq_true rfl, Nat.le_of_ble_eq_true rfl⟩) (fun r9 e9 => ?_)
  subst e9
  refine mi_if_eq (tgt := 27) S (by omega) dX5_runLength_5 (by decide) (fun c5_0 => ?_) (fun c5_0 => by exfalso; omega)
  refine lv_iconst (v := nI 1) S.1 S.2.1 dX5_runLength_27 (by decide) ?_
  refine mo_p_44 S E hS hM dX5_runLength_28 (fun H locs hM hS => ?_)
  refine lv_iconst (v := nI 0) S.1 S.2.1 dX5_runLength_31 (by decide) ?_
  refine lv_istore_n (lv' := [(3, .int (nI (0))), (0, .ref (ad 1000020)), (1, .int (x)), (2, .int (y))]) S.1 S.2.1 dX5_runLength_32 rfl hl (by decide) rfl (fun ls hl => ?_)
  refine lv_iconst (v := nI 0) S.1 S.2.1 dX5_runLength_33 (by decide) ?_
  refine lv_istore (lv' := [(4, .int (nI (0))), (3, .int (nI (0))), (0, .ref (ad 1000020)), (1, .int (x)), (2, .int (y))]) S.1 S.2.1 dX5_runLength_34 hl (by decide) rfl (fun ls hl => ?_)
  refine lv_iconst (v := nI 0) S.1 S.2.1 dX5_runLength_36 (by decide) ?_
  refine lv_istore (lv' := [(5, .int (nI (0))), (4, .int (nI (0))), (3, .int (nI (0))), (0, .ref (ad 1000020)), (1, .int (x)), (2, .int (y))]) S.1 S.2.1 dX5_runLength_37 hl (by decide) rfl (fun ls hl => ?_)
  refine lv_iload S.1 S.2.1 dX5_runLength_39 (lv_at hl 0 rfl) ?_
  refine lv_bipush (v := nI 8) S.1 S.2.1 dX5_runLength_41 (by decide) ?_
  refine mi_icmp_ge (tgt := 107) S (by omega) (by omega) dX5_runLength_43 (by decide) (fun c43_2 => by exfalso; omega) (fun c43_2 => ?_)
  refine lv_aload_n S.1 S.2.1 dX5_runLength_46 rfl (lv_at hl 3 rfl) ?_
  refine mo_g_44 S E hM dX5_runLength_47 ?_
  refine mi_top (v' := .int (nI (1))) (rfl) ?_
  refine mi_if_ne (tgt := 107) S (by omega) dX5_runLength_50 (by decide) (fun c50_3 => ?_) (fun c50_3 => by exfalso; omega)
  refine lv_iload_n S.1 S.2.1 dX5_runLength_107 rfl (lv_at hl 2 rfl) ?_
  exact mi_retMi S hr hk hS dX5_runLength_108 (Nat.le_refl _) (Nat.le_refl _) (hM)
set_option maxHeartbeats 4000000 in
set_option maxRecDepth 100000 in
theorem c_mrunLength_2 (l : Launch) (D : va_G) (A : Nat → Prop) {ad : Nat → Nat} {cf0 : Nat → Option va_E} {f : Nat → Int32} {g : Nat → Nat → Int32} {S0 : sT} (hR : st_mo S0 f g) (hO : st_ok S0) {a : Nat} (ha : a < 16) {x : Int32} (h9 : ¬ (0 ≤ x.toInt ∧ x.toInt < sp_runs (sK S0 (sW S0)) a)) : mi_Mi l yX5_runLength (Cond.code yX5_runLength cX5_runLength 6 (some Jvm.ClassFile.FieldType.int)) (mi_rm 3) D A (mo_W D A ad cf0 f g) [.ref (ad 1000020), .int (nI (a)), .int (x)] 0 0 (fun r H => mo_W D A ad cf0 (upd f 0 (nI 1)) g H) := by
  refine mi_start (cc := cX5_runLength) (nL := 6) (ret := (some Jvm.ClassFile.FieldType.int)) rfl (by decide) (Nat.le_of_ble_eq_true rfl) ?_
  intro p e s m below meth c ls S E hM hS hr hk hn hl
  have S : CallFix p m c cX5_runLength 6 s _ ((Cond.code yX5_runLength cX5_runLength 6 (some Jvm.ClassFile.FieldType.int)) :: mi_G) RX5 := S
  have hl : lv_has ls 6 [(0, .ref (ad 1000020)), (1, .int (nI (a))), (2, .int (x))] := hl
  obtain ⟨⟨o1, o2, o3, o4, o5⟩, oP, oK, oD, oX, oC, oI⟩ := id hO
  have hw : sW S0 < 61 := by omega
  have hK := st_mo_K hR o3
  have hKb : ∀ j, j < 128 → sK S0 (sW S0) j < 4 := fun j hj => oK _ _ o3 hj
  have hrb : sp_runs (sK S0 (sW S0)) a ≤ 8 := by have := sp_ri_le (sK S0 (sW S0)) a 7; unfold sp_runs; omega
  refine lv_aload_n S.1 S.2.1 dX5_runLength_0 rfl (lv_at hl 0 rfl) ?_
  refine lv_iload_n S.1 S.2.1 dX5_runLength_1 rfl (lv_at hl 1 rfl) ?_
  refine mi_cR (mi_runS (P := mo_W D A ad cf0 f g) (As := [.int (nI (a))]) (rest := [.ref (ad 1000020)]) S E hS hM (c_misColumn_y l D A (mo_W D A ad cf0 f g) (by omega)) mw_733 mw_731 mw_732 mw_43 ⟨by decide, by decide, by decide +kernel⟩ ⟨rfl, rfl, Nat.le_of_ble_eq_true rfl, Nat.le_of_ble_eq_true rfl⟩ (n := 1) rfl hl.1 rfl (Nat.le_of_ble_eq_true rfl) dX5_runLength_2 ⟨Nat.le_of_ble_eq_true rfl, Nat.le_of_ble_eq_true rfl⟩) (fun r9 e9 => ?_)
  subst e9
  refine mi_if_eq (tgt := 27) S (by omega) dX5_runLength_5 (by decide) (fun c5_0 => by exfalso; omega) (fun c5_0 => ?_)
  refine lv_iload_n S.1 S.2.1 dX5_runLength_8 rfl (lv_at hl 2 rfl) ?_
  refine lv_iconst (v := nI 0) S.1 S.2.1 dX5_runLength_9 (by decide) ?_
  refine lv_aload_n S.1 S.2.1 dX5_runLength_10 rfl (lv_at hl 0 rfl) ?_
  refine lv_iload_n S.1 S.2.1 dX5_runLength_11 rfl (lv_at hl 1 rfl) ?_
  refine mi_cR (mi_runV (P := mo_W D A ad cf0 f g) (As := [.int (nI (a))]) (rest := [.int (nI (0)), .int (x), .ref (ad 1000020)]) S E hS hM (ad 1000020) (c_runsOf l D A (f := f) (g := g) (w := sW S0) (K := sK S0 (sW S0)) hw hR.1.2.1 hK hKb ha) (hM.recv E) mw_775 mw_772 mw_774 mw_21 mw_43 ⟨by decide, by decide, by decide +kernel⟩ ⟨rfl, rfl, Nat.le_of_ble_eq_true rfl, Nat.le_of_ble_eq_true rfl⟩ (n := 1) rfl hl.1 rfl (Nat.le_of_ble_eq_true rfl) dX5_runLength_12 ⟨Nat.le_of_ble_eq_true rfl, Nat.le_of_ble_eq_true rfl⟩) (fun r9 e9 => ?_)
  subst e9
  refine lv_iconst (v := nI 1) S.1 S.2.1 dX5_runLength_15 (by decide) ?_
  refine lv_isub S.1 S.2.1 dX5_runLength_16 ?_
  refine mi_cR (mi_runS (P := mo_W D A ad cf0 f g) (As := [.int (x), .int (nI (0)), .int ((nI (sp_runs (sK S0 (sW S0)) a)) - (nI (1)))]) (rest := [.ref (ad 1000020)]) S E hS hM (c_in_n l D A (mo_W D A ad cf0 f g) (by skip; have := nI_toInt (n := 0) (by omega); have := pk_sub_toInt (a := sp_runs (sK S0 (sW S0)) a) (b := 1) (by omega) (by omega); omega)) mw_736 mw_734 mw_735 mw_43 ⟨by decide, by decide, by decide +kernel⟩ ⟨rfl, rfl, Nat.le_of_ble_eq_true rfl, Nat.le_of_ble_eq_true rfl⟩ (n := 3) rfl hl.1 rfl (Nat.le_of_ble_eq_true rfl) dX5_runLength_17 ⟨Nat.le_of_ble_eq_true rfl, Nat.le_of_ble_eq_true rfl⟩) (fun r9 e9 => ?_)
  subst e9
  refine mi_if_eq (tgt := 27) S (by omega) dX5_runLength_20 (by decide) (fun c20_1 => ?_) (fun c20_1 => by exfalso; omega)
  refine lv_iconst (v := nI 1) S.1 S.2.1 dX5_runLength_27 (by decide) ?_
  refine mo_p_44 S E hS hM dX5_runLength_28 (fun H locs hM hS => ?_)
  refine lv_iconst (v := nI 0) S.1 S.2.1 dX5_runLength_31 (by decide) ?_
  refine lv_istore_n (lv' := [(3, .int (nI (0))), (0, .ref (ad 1000020)), (1, .int (nI (a))), (2, .int (x))]) S.1 S.2.1 dX5_runLength_32 rfl hl (by decide) rfl (fun ls hl => ?_)
  refine lv_iconst (v := nI 0) S.1 S.2.1 dX5_runLength_33 (by decide) ?_
  refine lv_istore (lv' := [(4, .int (nI (0))), (3, .int (nI (0))), (0, .ref (ad 1000020)), (1, .int (nI (a))), (2, .int (x))]) S.1 S.2.1 dX5_runLength_34 hl (by decide) rfl (fun ls hl => ?_)
  refine lv_iconst (v := nI 0) S.1 S.2.1 dX5_runLength_36 (by decide) ?_
  refine lv_istore (lv' := [(5, .int (nI (0))), (4, .int (nI (0))), (3, .int (nI (0))), (0, .ref (ad 1000020)), (1, .int (nI (a))), (2, .int (x))]) S.1 S.2.1 dX5_runLength_37 hl (by decide) rfl (fun ls hl => ?_)
  refine lv_iload S.1 S.2.1 dX5_runLength_39 (lv_at hl 0 rfl) ?_
  refine lv_bipush (v := nI 8) S.1 S.2.1 dX5_runLength_41 (by decide) ?_
  refine mi_icmp_ge (tgt := 107) S (by omega) (by omega) dX5_runLength_43 (by decide) (fun c43_3 => by exfalso; omega) (fun c43_3 => ?_)
  refine lv_aload_n S.1 S.2.1 dX5_runLength_46 rfl (lv_at hl 3 rfl) ?_
  refine mo_g_44 S E hM dX5_runLength_47 ?_
  refine mi_top (v' := .int (nI (1))) (rfl) ?_
  refine mi_if_ne (tgt := 107) S (by omega) dX5_runLength_50 (by decide) (fun c50_4 => ?_) (fun c50_4 => by exfalso; omega)
  refine lv_iload_n S.1 S.2.1 dX5_runLength_107 rfl (lv_at hl 2 rfl) ?_
  exact mi_retMi S hr hk hS dX5_runLength_108 (Nat.le_refl _) (Nat.le_refl _) (hM)
set_option maxHeartbeats 4000000 in
set_option maxRecDepth 100000 in
theorem c_mblocks (l : Launch) (D : va_G) (A : Nat → Prop) {ad : Nat → Nat} {cf0 : Nat → Option va_E} {f : Nat → Int32} {g : Nat → Nat → Int32} {S0 : sT} (hR : st_mo S0 f g) (hO : st_ok S0)  : mi_Mi l yX5_blocks (Cond.code yX5_blocks cX5_blocks 1 (some Jvm.ClassFile.FieldType.int)) (mi_rm 3) D A (mo_W D A ad cf0 f g) [.ref (ad 1000020)] 0 0 (fun r H => r = nI (sp_blocks (sK S0 (sW S0))) ∧ ∃ f1 g1, mo_W D A ad cf0 f1 g1 H ∧ st_mo (S0) f1 g1 ∧ f1 0 = nI 0) := by
  refine mi_start (cc := cX5_blocks) (nL := 1) (ret := (some Jvm.ClassFile.FieldType.int)) rfl (by decide) (Nat.le_of_ble_eq_true rfl) ?_
  intro p e s m below meth c ls S E hM hS hr hk hn hl
  have S : CallFix p m c cX5_blocks 1 s _ ((Cond.code yX5_blocks cX5_blocks 1 (some Jvm.ClassFile.FieldType.int)) :: mi_G) RX5 := S
  have hl : lv_has ls 1 [(0, .ref (ad 1000020))] := hl
  obtain ⟨⟨o1, o2, o3, o4, o5⟩, oP, oK, oD, oX, oC, oI⟩ := id hO
  have hw : sW S0 < 61 := by omega
  have hK := st_mo_K hR o3
  have hKb : ∀ j, j < 128 → sK S0 (sW S0) j < 4 := fun j hj => oK _ _ o3 hj
  refine lv_aload_n S.1 S.2.1 dX5_blocks_0 rfl (lv_at hl 0 rfl) ?_
  refine lv_iconst (v := nI 0) S.1 S.2.1 dX5_blocks_1 (by decide) ?_
  refine mo_p_44 S E hS hM dX5_blocks_2 (fun H locs hM hS => ?_)
  refine lv_aload_n S.1 S.2.1 dX5_blocks_5 rfl (lv_at hl 0 rfl) ?_
  refine mi_cR (mi_runV (P := mo_W D A ad cf0 (upd f 0 (nI (0))) g) (As := []) (rest := []) S E hS hM (ad 1000020) (c_manyBlocks l D A (f := (upd f 0 (nI (0)))) (g := g) (w := sW S0) (K := sK S0 (sW S0)) hw hR.1.2.1 hK hKb) (hM.recv E) mw_787 mw_784 mw_786 mw_22 mw_43 ⟨by decide, by decide, by decide +kernel⟩ ⟨rfl, rfl, Nat.le_of_ble_eq_true rfl, Nat.le_of_ble_eq_true rfl⟩ (n := 0) rfl hl.1 rfl (Nat.le_of_ble_eq_true rfl) dX5_blocks_6 ⟨Nat.le_of_ble_eq_true rfl, Nat.le_of_ble_eq_true rfl⟩) (fun r9 e9 => ?_)
  subst e9
  exact mi_retMi S hr hk hS dX5_blocks_9 (Nat.le_refl _) (Nat.le_refl _) ⟨rfl, (upd f 0 (nI (0))), g, hM, st_mo_0 hR _, rfl⟩
set_option maxHeartbeats 4000000 in
set_option maxRecDepth 100000 in
theorem c_mblocksOneByOne (l : Launch) (D : va_G) (A : Nat → Prop) {ad : Nat → Nat} {cf0 : Nat → Option va_E} {f : Nat → Int32} {g : Nat → Nat → Int32} {S0 : sT} (hR : st_mo S0 f g) (hO : st_ok S0)  : mi_Mi l yX5_blocksOneByOne (Cond.code yX5_blocksOneByOne cX5_blocksOneByOne 1 (some Jvm.ClassFile.FieldType.int)) (mi_rm 3) D A (mo_W D A ad cf0 f g) [.ref (ad 1000020)] 0 0 (fun r H => r = nI (sp_blocks (sK S0 (sW S0))) ∧ ∃ f1 g1, mo_W D A ad cf0 f1 g1 H ∧ st_mo (S0) f1 g1 ∧ f1 0 = nI 0) := by
  refine mi_start (cc := cX5_blocksOneByOne) (nL := 1) (ret := (some Jvm.ClassFile.FieldType.int)) rfl (by decide) (Nat.le_of_ble_eq_true rfl) ?_
  intro p e s m below meth c ls S E hM hS hr hk hn hl
  have S : CallFix p m c cX5_blocksOneByOne 1 s _ ((Cond.code yX5_blocksOneByOne cX5_blocksOneByOne 1 (some Jvm.ClassFile.FieldType.int)) :: mi_G) RX5 := S
  have hl : lv_has ls 1 [(0, .ref (ad 1000020))] := hl
  obtain ⟨⟨o1, o2, o3, o4, o5⟩, oP, oK, oD, oX, oC, oI⟩ := id hO
  have hw : sW S0 < 61 := by omega
  have hK := st_mo_K hR o3
  have hKb : ∀ j, j < 128 → sK S0 (sW S0) j < 4 := fun j hj => oK _ _ o3 hj
  refine lv_aload_n S.1 S.2.1 dX5_blocksOneByOne_0 rfl (lv_at hl 0 rfl) ?_
  refine lv_iconst (v := nI 0) S.1 S.2.1 dX5_blocksOneByOne_1 (by decide) ?_
  refine mo_p_44 S E hS hM dX5_blocksOneByOne_2 (fun H locs hM hS => ?_)
  refine lv_aload_n S.1 S.2.1 dX5_blocksOneByOne_5 rfl (lv_at hl 0 rfl) ?_
  refine mi_cR (mi_runV (P := mo_W D A ad cf0 (upd f 0 (nI (0))) g) (As := []) (rest := []) S E hS hM (ad 1000020) (c_manyBlocks l D A (f := (upd f 0 (nI (0)))) (g := g) (w := sW S0) (K := sK S0 (sW S0)) hw hR.1.2.1 hK hKb) (hM.recv E) mw_787 mw_784 mw_786 mw_22 mw_43 ⟨by decide, by decide, by decide +kernel⟩ ⟨rfl, rfl, Nat.le_of_ble_eq_true rfl, Nat.le_of_ble_eq_true rfl⟩ (n := 0) rfl hl.1 rfl (Nat.le_of_ble_eq_true rfl) dX5_blocksOneByOne_6 ⟨Nat.le_of_ble_eq_true rfl, Nat.le_of_ble_eq_true rfl⟩) (fun r9 e9 => ?_)
  subst e9
  exact mi_retMi S hr hk hS dX5_blocksOneByOne_9 (Nat.le_refl _) (Nat.le_refl _) ⟨rfl, (upd f 0 (nI (0))), g, hM, st_mo_0 hR _, rfl⟩
set_option maxHeartbeats 4000000 in
set_option maxRecDepth 100000 in
theorem c_mstate (l : Launch) (D : va_G) (A : Nat → Prop) {ad : Nat → Nat} {cf0 : Nat → Option va_E} {f : Nat → Int32} {g : Nat → Nat → Int32} {S0 : sT} (hR : st_mo S0 f g) (hO : st_ok S0)  : mi_Mi l yX5_state (Cond.code yX5_state cX5_state 1 (some Jvm.ClassFile.FieldType.int)) (mi_rm 3) D A (mo_W D A ad cf0 f g) [.ref (ad 1000020)] 0 0 (fun r H => r = nI (sW S0) ∧ ∃ f1 g1, mo_W D A ad cf0 f1 g1 H ∧ st_mo (S0) f1 g1 ∧ f1 0 = nI 0) := by
  refine mi_start (cc := cX5_state) (nL := 1) (ret := (some Jvm.ClassFile.FieldType.int)) rfl (by decide) (Nat.le_of_ble_eq_true rfl) ?_
  intro p e s m below meth c ls S E hM hS hr hk hn hl
  have S : CallFix p m c cX5_state 1 s _ ((Cond.code yX5_state cX5_state 1 (some Jvm.ClassFile.FieldType.int)) :: mi_G) RX5 := S
  have hl : lv_has ls 1 [(0, .ref (ad 1000020))] := hl
  obtain ⟨⟨o1, o2, o3, o4, o5⟩, oP, oK, oD, oX, oC, oI⟩ := id hO
  have hw : sW S0 < 61 := by omega
  have hK := st_mo_K hR o3
  have hKb : ∀ j, j < 128 → sK S0 (sW S0) j < 4 := fun j hj => oK _ _ o3 hj
  refine lv_aload_n S.1 S.2.1 dX5_state_0 rfl (lv_at hl 0 rfl) ?_
  refine lv_iconst (v := nI 0) S.1 S.2.1 dX5_state_1 (by decide) ?_
  refine mo_p_44 S E hS hM dX5_state_2 (fun H locs hM hS => ?_)
  refine lv_aload_n S.1 S.2.1 dX5_state_5 rfl (lv_at hl 0 rfl) ?_
  refine mo_g_51 S E hM dX5_state_6 ?_
  refine mi_top (v' := .int (nI (sW S0))) (congrArg Value.int hR.1.2.1) ?_
  exact mi_retMi S hr hk hS dX5_state_9 (Nat.le_refl _) (Nat.le_refl _) ⟨rfl, (upd f 0 (nI (0))), g, hM, st_mo_0 hR _, rfl⟩
set_option maxHeartbeats 4000000 in
set_option maxRecDepth 100000 in
theorem c_mstates (l : Launch) (D : va_G) (A : Nat → Prop) {ad : Nat → Nat} {cf0 : Nat → Option va_E} {f : Nat → Int32} {g : Nat → Nat → Int32} {S0 : sT} (hR : st_mo S0 f g) (hO : st_ok S0)  : mi_Mi l yX5_states (Cond.code yX5_states cX5_states 1 (some Jvm.ClassFile.FieldType.int)) (mi_rm 3) D A (mo_W D A ad cf0 f g) [.ref (ad 1000020)] 0 0 (fun r H => r = nI (sN S0) ∧ ∃ f1 g1, mo_W D A ad cf0 f1 g1 H ∧ st_mo (S0) f1 g1 ∧ f1 0 = nI 0) := by
  refine mi_start (cc := cX5_states) (nL := 1) (ret := (some Jvm.ClassFile.FieldType.int)) rfl (by decide) (Nat.le_of_ble_eq_true rfl) ?_
  intro p e s m below meth c ls S E hM hS hr hk hn hl
  have S : CallFix p m c cX5_states 1 s _ ((Cond.code yX5_states cX5_states 1 (some Jvm.ClassFile.FieldType.int)) :: mi_G) RX5 := S
  have hl : lv_has ls 1 [(0, .ref (ad 1000020))] := hl
  obtain ⟨⟨o1, o2, o3, o4, o5⟩, oP, oK, oD, oX, oC, oI⟩ := id hO
  have hw : sW S0 < 61 := by omega
  have hK := st_mo_K hR o3
  have hKb : ∀ j, j < 128 → sK S0 (sW S0) j < 4 := fun j hj => oK _ _ o3 hj
  refine lv_aload_n S.1 S.2.1 dX5_states_0 rfl (lv_at hl 0 rfl) ?_
  refine lv_iconst (v := nI 0) S.1 S.2.1 dX5_states_1 (by decide) ?_
  refine mo_p_44 S E hS hM dX5_states_2 (fun H locs hM hS => ?_)
  refine lv_aload_n S.1 S.2.1 dX5_states_5 rfl (lv_at hl 0 rfl) ?_
  refine mo_g_7 S E hM dX5_states_6 ?_
  refine mi_top (v' := .int (nI (sN S0))) (congrArg Value.int hR.1.1) ?_
  exact mi_retMi S hr hk hS dX5_states_9 (Nat.le_refl _) (Nat.le_refl _) ⟨rfl, (upd f 0 (nI (0))), g, hM, st_mo_0 hR _, rfl⟩
set_option maxHeartbeats 4000000 in
set_option maxRecDepth 100000 in
theorem c_mvisit (l : Launch) (D : va_G) (A : Nat → Prop) {ad : Nat → Nat} {cf0 : Nat → Option va_E} {f : Nat → Int32} {g : Nat → Nat → Int32} {S0 : sT} (hR : st_mo S0 f g) (hO : st_ok S0) {a : Nat} (ha : a < sN S0) : mi_Mi l yX5_visit (Cond.code yX5_visit cX5_visit 3 (some Jvm.ClassFile.FieldType.int)) (mi_rm 3) D A (mo_W D A ad cf0 f g) [.ref (ad 1000020), .int (nI (a))] 0 0 (fun r H => r = nI (sW S0) ∧ ∃ f1 g1, mo_W D A ad cf0 f1 g1 H ∧ st_mo (st_now S0 a) f1 g1 ∧ f1 0 = nI 0) := by
  refine mi_start (cc := cX5_visit) (nL := 3) (ret := (some Jvm.ClassFile.FieldType.int)) rfl (by decide) (Nat.le_of_ble_eq_true rfl) ?_
  intro p e s m below meth c ls S E hM hS hr hk hn hl
  have S : CallFix p m c cX5_visit 3 s _ ((Cond.code yX5_visit cX5_visit 3 (some Jvm.ClassFile.FieldType.int)) :: mi_G) RX5 := S
  have hl : lv_has ls 3 [(0, .ref (ad 1000020)), (1, .int (nI (a)))] := hl
  obtain ⟨⟨o1, o2, o3, o4, o5⟩, oP, oK, oD, oX, oC, oI⟩ := id hO
  have hw : sW S0 < 61 := by omega
  have hK := st_mo_K hR o3
  have hKb : ∀ j, j < 128 → sK S0 (sW S0) j < 4 := fun j hj => oK _ _ o3 hj
  refine lv_aload_n S.1 S.2.1 dX5_visit_0 rfl (lv_at hl 0 rfl) ?_
  refine lv_aload_n S.1 S.2.1 dX5_visit_1 rfl (lv_at hl 0 rfl) ?_
  refine lv_iload_n S.1 S.2.1 dX5_visit_2 rfl (lv_at hl 1 rfl) ?_
  refine mi_cR (mi_runV (P := mo_W D A ad cf0 f g) (As := [.int (nI (a))]) (rest := [.ref (ad 1000020)]) S E hS hM (ad 1000020) (c_isState_y l D A (f := f) (g := g) (n := sN S0) hR.1.1 (by omega) (by omega)) (hM.recv E) mw_831 mw_828 mw_830 mw_27 mw_43 ⟨by decide, by decide, by decide +kernel⟩ ⟨rfl, rfl, Nat.le_of_ble_eq_true rfl, Nat.le_of_ble_eq_true rfl⟩ (n := 1) rfl hl.1 rfl (Nat.le_of_ble_eq_true rfl) dX5_visit_3 ⟨Nat.le_of_ble_eq_true rfl, Nat.le_of_ble_eq_true rfl⟩) (fun r9 e9 => ?_)
  subst e9
  refine mi_if_eq (tgt := 13) S (by omega) dX5_visit_6 (by decide) (fun c6_0 => by exfalso; omega) (fun c6_0 => ?_)
  refine lv_iconst (v := nI 0) S.1 S.2.1 dX5_visit_9 (by decide) ?_
  refine lv_goto (tgt := 14) S.1 S.2.1 dX5_visit_10 (by decide) ?_
  refine mo_p_44 S E hS hM dX5_visit_14 (fun H locs hM hS => ?_)
  refine lv_aload_n S.1 S.2.1 dX5_visit_17 rfl (lv_at hl 0 rfl) ?_
  refine mo_g_44 S E hM dX5_visit_18 ?_
  refine mi_top (v' := .int (nI (0))) (rfl) ?_
  refine mi_if_le (tgt := 26) S (by omega) dX5_visit_21 (by decide) (fun c21_2 => ?_) (fun c21_2 => by exfalso; omega)
  refine lv_aload_n S.1 S.2.1 dX5_visit_26 rfl (lv_at hl 0 rfl) ?_
  refine mo_g_51 S E hM dX5_visit_27 ?_
  refine mi_top (v' := .int (nI (sW S0))) (congrArg Value.int hR.1.2.1) ?_
  refine lv_istore_n (lv' := [(2, .int (nI (sW S0))), (0, .ref (ad 1000020)), (1, .int (nI (a)))]) S.1 S.2.1 dX5_visit_30 rfl hl (by decide) rfl (fun ls hl => ?_)
  refine lv_aload_n S.1 S.2.1 dX5_visit_31 rfl (lv_at hl 1 rfl) ?_
  refine lv_iload_n S.1 S.2.1 dX5_visit_32 rfl (lv_at hl 2 rfl) ?_
  refine mo_p_51 S E hS hM dX5_visit_33 (fun H locs hM hS => ?_)
  refine lv_iload_n S.1 S.2.1 dX5_visit_36 rfl (lv_at hl 0 rfl) ?_
  exact mi_retMi S hr hk hS dX5_visit_37 (Nat.le_refl _) (Nat.le_refl _) ⟨rfl, (upd (upd f 0 (nI (0))) 2 (nI (a))), g, hM, st_mo_now (st_mo_0 hR _) a, rfl⟩
set_option maxHeartbeats 4000000 in
set_option maxRecDepth 100000 in
theorem c_mvisit_1 (l : Launch) (D : va_G) (A : Nat → Prop) {ad : Nat → Nat} {cf0 : Nat → Option va_E} {f : Nat → Int32} {g : Nat → Nat → Int32} {S0 : sT} (hR : st_mo S0 f g) (hO : st_ok S0) {x : Int32} (h9 : ¬ (0 ≤ x.toInt ∧ x.toInt < sN S0)) : mi_Mi l yX5_visit (Cond.code yX5_visit cX5_visit 3 (some Jvm.ClassFile.FieldType.int)) (mi_rm 3) D A (mo_W D A ad cf0 f g) [.ref (ad 1000020), .int (x)] 0 0 (fun r H => mo_W D A ad cf0 (upd f 0 (nI 1)) g H) := by
  refine mi_start (cc := cX5_visit) (nL := 3) (ret := (some Jvm.ClassFile.FieldType.int)) rfl (by decide) (Nat.le_of_ble_eq_true rfl) ?_
  intro p e s m below meth c ls S E hM hS hr hk hn hl
  have S : CallFix p m c cX5_visit 3 s _ ((Cond.code yX5_visit cX5_visit 3 (some Jvm.ClassFile.FieldType.int)) :: mi_G) RX5 := S
  have hl : lv_has ls 3 [(0, .ref (ad 1000020)), (1, .int (x))] := hl
  obtain ⟨⟨o1, o2, o3, o4, o5⟩, oP, oK, oD, oX, oC, oI⟩ := id hO
  have hw : sW S0 < 61 := by omega
  have hK := st_mo_K hR o3
  have hKb : ∀ j, j < 128 → sK S0 (sW S0) j < 4 := fun j hj => oK _ _ o3 hj
  refine lv_aload_n S.1 S.2.1 dX5_visit_0 rfl (lv_at hl 0 rfl) ?_
  refine lv_aload_n S.1 S.2.1 dX5_visit_1 rfl (lv_at hl 0 rfl) ?_
  refine lv_iload_n S.1 S.2.1 dX5_visit_2 rfl (lv_at hl 1 rfl) ?_
  refine mi_cR (mi_runV (P := mo_W D A ad cf0 f g) (As := [.int (x)]) (rest := [.ref (ad 1000020)]) S E hS hM (ad 1000020) (c_isState_n l D A (f := f) (g := g) (n := sN S0) hR.1.1 (by omega) h9) (hM.recv E) mw_831 mw_828 mw_830 mw_27 mw_43 ⟨by decide, by decide, by decide +kernel⟩ ⟨rfl, rfl, Nat.le_of_ble_eq_true rfl, Nat.le_of_ble_eq_true rfl⟩ (n := 1) rfl hl.1 rfl (Nat.le_of_ble_eq_true rfl) dX5_visit_3 ⟨Nat.le_of_ble_eq_true rfl, Nat.le_of_ble_eq_true rfl⟩) (fun r9 e9 => ?_)
  subst e9
  refine mi_if_eq (tgt := 13) S (by omega) dX5_visit_6 (by decide) (fun c6_0 => ?_) (fun c6_0 => by exfalso; omega)
  refine lv_iconst (v := nI 1) S.1 S.2.1 dX5_visit_13 (by decide) ?_
  refine mo_p_44 S E hS hM dX5_visit_14 (fun H locs hM hS => ?_)
  refine lv_aload_n S.1 S.2.1 dX5_visit_17 rfl (lv_at hl 0 rfl) ?_
  refine mo_g_44 S E hM dX5_visit_18 ?_
  refine mi_top (v' := .int (nI (1))) (rfl) ?_
  refine mi_if_le (tgt := 26) S (by omega) dX5_visit_21 (by decide) (fun c21_2 => by exfalso; omega) (fun c21_2 => ?_)
  refine lv_iconst (v := nI 0) S.1 S.2.1 dX5_visit_24 (by decide) ?_
  exact mi_retMi S hr hk hS dX5_visit_25 (Nat.le_refl _) (Nat.le_refl _) (hM)
set_option maxHeartbeats 4000000 in
set_option maxRecDepth 100000 in
theorem c_mundo (l : Launch) (D : va_G) (A : Nat → Prop) {ad : Nat → Nat} {cf0 : Nat → Option va_E} {f : Nat → Int32} {g : Nat → Nat → Int32} {S0 : sT} (hR : st_mo S0 f g) (hO : st_ok S0) (h0 : sW S0 ≠ 0) : mi_Mi l yX5_undo (Cond.code yX5_undo cX5_undo 1 (some Jvm.ClassFile.FieldType.int)) (mi_rm 3) D A (mo_W D A ad cf0 f g) [.ref (ad 1000020)] 0 0 (fun r H => r = nI (sP S0 (sW S0)) ∧ ∃ f1 g1, mo_W D A ad cf0 f1 g1 H ∧ st_mo (st_now S0 (sP S0 (sW S0))) f1 g1 ∧ f1 0 = nI 0) := by
  refine mi_start (cc := cX5_undo) (nL := 1) (ret := (some Jvm.ClassFile.FieldType.int)) rfl (by decide) (Nat.le_of_ble_eq_true rfl) ?_
  intro p e s m below meth c ls S E hM hS hr hk hn hl
  have S : CallFix p m c cX5_undo 1 s _ ((Cond.code yX5_undo cX5_undo 1 (some Jvm.ClassFile.FieldType.int)) :: mi_G) RX5 := S
  have hl : lv_has ls 1 [(0, .ref (ad 1000020))] := hl
  obtain ⟨⟨o1, o2, o3, o4, o5⟩, oP, oK, oD, oX, oC, oI⟩ := id hO
  have hw : sW S0 < 61 := by omega
  have hK := st_mo_K hR o3
  have hKb : ∀ j, j < 128 → sK S0 (sW S0) j < 4 := fun j hj => oK _ _ o3 hj
  refine lv_aload_n S.1 S.2.1 dX5_undo_0 rfl (lv_at hl 0 rfl) ?_
  refine lv_aload_n S.1 S.2.1 dX5_undo_1 rfl (lv_at hl 0 rfl) ?_
  refine mo_g_51 S E hM dX5_undo_2 ?_
  refine mi_top (v' := .int (nI (sW S0))) (congrArg Value.int hR.1.2.1) ?_
  refine mi_if_ne (tgt := 12) S (by omega) dX5_undo_5 (by decide) (fun c5_0 => ?_) (fun c5_0 => by exfalso; omega)
  refine lv_iconst (v := nI 0) S.1 S.2.1 dX5_undo_12 (by decide) ?_
  refine mo_p_44 S E hS hM dX5_undo_13 (fun H locs hM hS => ?_)
  refine lv_aload_n S.1 S.2.1 dX5_undo_16 rfl (lv_at hl 0 rfl) ?_
  refine mo_g_44 S E hM dX5_undo_17 ?_
  refine mi_top (v' := .int (nI (0))) (rfl) ?_
  refine mi_if_le (tgt := 25) S (by omega) dX5_undo_20 (by decide) (fun c20_2 => ?_) (fun c20_2 => by exfalso; omega)
  refine lv_aload_n S.1 S.2.1 dX5_undo_25 rfl (lv_at hl 0 rfl) ?_
  refine lv_aload_n S.1 S.2.1 dX5_undo_26 rfl (lv_at hl 0 rfl) ?_
  refine mo_g_13 S E hM dX5_undo_27 ?_
  refine lv_aload_n S.1 S.2.1 dX5_undo_30 rfl (lv_at hl 0 rfl) ?_
  refine mo_g_51 S E hM dX5_undo_31 ?_
  refine mi_top (v' := .int (nI (sW S0))) (congrArg Value.int hR.1.2.1) ?_
  refine mo_ald 3 S E hM rfl (by show _ < 61; omega) dX5_undo_34 ?_
  refine mi_top (v' := .int (nI (sP S0 (sW S0)))) (congrArg Value.int (hR.2.2.1 _ (by omega) o3)) ?_
  refine mo_p_51 S E hS hM dX5_undo_35 (fun H locs hM hS => ?_)
  refine lv_aload_n S.1 S.2.1 dX5_undo_38 rfl (lv_at hl 0 rfl) ?_
  refine mo_g_51 S E hM dX5_undo_39 ?_
  refine mi_top (v' := .int (nI (sP S0 (sW S0)))) (rfl) ?_
  exact mi_retMi S hr hk hS dX5_undo_42 (Nat.le_refl _) (Nat.le_refl _) ⟨rfl, (upd (upd f 0 (nI (0))) 2 (nI (sP S0 (sW S0)))), g, hM, st_mo_now (st_mo_0 hR _) _, rfl⟩
set_option maxHeartbeats 4000000 in
set_option maxRecDepth 100000 in
theorem c_mundo_1 (l : Launch) (D : va_G) (A : Nat → Prop) {ad : Nat → Nat} {cf0 : Nat → Option va_E} {f : Nat → Int32} {g : Nat → Nat → Int32} {S0 : sT} (hR : st_mo S0 f g) (hO : st_ok S0) (h0 : sW S0 = 0) : mi_Mi l yX5_undo (Cond.code yX5_undo cX5_undo 1 (some Jvm.ClassFile.FieldType.int)) (mi_rm 3) D A (mo_W D A ad cf0 f g) [.ref (ad 1000020)] 0 0 (fun r H => mo_W D A ad cf0 (upd f 0 (nI 1)) g H) := by
  refine mi_start (cc := cX5_undo) (nL := 1) (ret := (some Jvm.ClassFile.FieldType.int)) rfl (by decide) (Nat.le_of_ble_eq_true rfl) ?_
  intro p e s m below meth c ls S E hM hS hr hk hn hl
  have S : CallFix p m c cX5_undo 1 s _ ((Cond.code yX5_undo cX5_undo 1 (some Jvm.ClassFile.FieldType.int)) :: mi_G) RX5 := S
  have hl : lv_has ls 1 [(0, .ref (ad 1000020))] := hl
  obtain ⟨⟨o1, o2, o3, o4, o5⟩, oP, oK, oD, oX, oC, oI⟩ := id hO
  have hw : sW S0 < 61 := by omega
  have hK := st_mo_K hR o3
  have hKb : ∀ j, j < 128 → sK S0 (sW S0) j < 4 := fun j hj => oK _ _ o3 hj
  refine lv_aload_n S.1 S.2.1 dX5_undo_0 rfl (lv_at hl 0 rfl) ?_
  refine lv_aload_n S.1 S.2.1 dX5_undo_1 rfl (lv_at hl 0 rfl) ?_
  refine mo_g_51 S E hM dX5_undo_2 ?_
  refine mi_top (v' := .int (nI (sW S0))) (congrArg Value.int hR.1.2.1) ?_
  refine mi_if_ne (tgt := 12) S (by omega) dX5_undo_5 (by decide) (fun c5_0 => by exfalso; omega) (fun c5_0 => ?_)
  refine lv_iconst (v := nI 1) S.1 S.2.1 dX5_undo_8 (by decide) ?_
  refine lv_goto (tgt := 13) S.1 S.2.1 dX5_undo_9 (by decide) ?_
  refine mo_p_44 S E hS hM dX5_undo_13 (fun H locs hM hS => ?_)
  refine lv_aload_n S.1 S.2.1 dX5_undo_16 rfl (lv_at hl 0 rfl) ?_
  refine mo_g_44 S E hM dX5_undo_17 ?_
  refine mi_top (v' := .int (nI (1))) (rfl) ?_
  refine mi_if_le (tgt := 25) S (by omega) dX5_undo_20 (by decide) (fun c20_2 => by exfalso; omega) (fun c20_2 => ?_)
  refine lv_iconst (v := nI 0) S.1 S.2.1 dX5_undo_23 (by decide) ?_
  exact mi_retMi S hr hk hS dX5_undo_24 (Nat.le_refl _) (Nat.le_refl _) (hM)
set_option maxHeartbeats 4000000 in
set_option maxRecDepth 100000 in
theorem c_manyBranches (l : Launch) (D : va_G) (A : Nat → Prop) {ad : Nat → Nat} {cf0 : Nat → Option va_E} {f : Nat → Int32} {g : Nat → Nat → Int32} {S0 : sT} (hR : st_mo S0 f g) (hO : st_ok S0) : mi_Rd l yX5_manyBranches (Cond.code yX5_manyBranches cX5_manyBranches 3 (some Jvm.ClassFile.FieldType.int)) (mi_rm 2) D A (mo_W D A ad cf0 f g) [.ref (ad 1000020)] (fun r => r = nI (sp_br S0 (sW S0) (sN S0))) := by
  refine mi_start (cc := cX5_manyBranches) (nL := 3) (ret := (some Jvm.ClassFile.FieldType.int)) rfl (by decide) (Nat.le_of_ble_eq_true rfl) ?_
  intro p e s m below meth c ls S E hM hS hr hk hn hl
  have S : CallFix p m c cX5_manyBranches 3 s _ ((Cond.code yX5_manyBranches cX5_manyBranches 3 (some Jvm.ClassFile.FieldType.int)) :: mi_G) RX5 := S
  have hl : lv_has ls 3 [(0, .ref (ad 1000020))] := hl
  obtain ⟨⟨o1, o2, o3, o4, o5⟩, oP, oK, oD, oX, oC, oI⟩ := id hO
  refine lv_iconst (v := nI 0) S.1 S.2.1 dX5_manyBranches_0 (by decide) ?_
  refine lv_istore_n (lv' := [(1, .int (nI (0))), (0, .ref (ad 1000020))]) S.1 S.2.1 dX5_manyBranches_1 rfl hl (by decide) rfl (fun ls hl => ?_)
  refine lv_iconst (v := nI 0) S.1 S.2.1 dX5_manyBranches_2 (by decide) ?_
  refine lv_istore_n (lv' := [(2, .int (nI (0))), (1, .int (nI (0))), (0, .ref (ad 1000020))]) S.1 S.2.1 dX5_manyBranches_3 rfl hl (by decide) rfl (fun ls hl => ?_)
  have lp4 : ∀ (n4 : Nat) (k : Nat) (i : Nat) (ls : Array Slot), sN S0 - i < n4 → i ≤ sN S0 → k = sp_br S0 (sW S0) i → lv_has ls 3 [(0, .ref (ad 1000020)), (1, .int (nI (k))), (2, .int (nI (i)))] → W p l e (mi_rm 2) s m ([.ref (ad 1000020)] : List Value).toArray below meth c s.heap [] 0 0 (MQ below (vp_Si (fun r => r = nI (sp_br S0 (sW S0) (sN S0)))) ([.ref (ad 1000020)] : List Value).toArray s 0 0 (fun _ => False)) (F0 m 4 ls []) := by
    intro n4
    induction n4 with
    | zero => intro k i ls hm hi hk9  hl; exact absurd hm (Nat.not_lt_zero _)
    | succ n4 ih4 =>
      intro k i ls hm hi hk9  hl
      refine lv_iload_n S.1 S.2.1 dX5_manyBranches_4 rfl (lv_at hl 2 rfl) ?_
      refine lv_aload_n S.1 S.2.1 dX5_manyBranches_5 rfl (lv_at hl 0 rfl) ?_
      refine mo_g_7 S E hM dX5_manyBranches_6 ?_
      refine mi_top (v' := .int (nI (sN S0))) (congrArg Value.int hR.1.1) ?_
      refine mi_icmp_ge (tgt := 39) S (by omega) (by omega) dX5_manyBranches_9 (by decide) (fun c9_0 => ?_) (fun c9_0 => ?_)
      · refine lv_iload_n S.1 S.2.1 dX5_manyBranches_39 rfl (lv_at hl 1 rfl) ?_
        exact mi_retR S hr hk dX5_manyBranches_40 (by rw [hk9, show i = sN S0 by omega])
      · have hb1 := sp_br_le S0 (sW S0) i
        refine lv_iload_n S.1 S.2.1 dX5_manyBranches_12 rfl (lv_at hl 1 rfl) ?_
        refine lv_aload_n S.1 S.2.1 dX5_manyBranches_13 rfl (lv_at hl 0 rfl) ?_
        refine mo_g_13 S E hM dX5_manyBranches_14 ?_
        refine lv_iload_n S.1 S.2.1 dX5_manyBranches_17 rfl (lv_at hl 2 rfl) ?_
        refine mo_ald 3 S E hM rfl (by show _ < 61; omega) dX5_manyBranches_18 ?_
        refine mi_top (v' := .int (mi_dn (sp_pn S0 i))) (congrArg Value.int (st_pa hR (by omega))) ?_
        refine lv_aload_n S.1 S.2.1 dX5_manyBranches_19 rfl (lv_at hl 0 rfl) ?_
        refine mo_g_51 S E hM dX5_manyBranches_20 ?_
        refine mi_top (v' := .int (nI (sW S0))) (congrArg Value.int hR.1.2.1) ?_
        refine mi_xcmp_ne (tgt := 30) S (mi_dn_toInt (n := sp_pn S0 i) (by have := sp_pn_le hO (show i < sN S0 by omega); omega)) (nI_toInt (n := sW S0) (by omega)) dX5_manyBranches_23 (by decide) (fun c23_1 => ?_) (fun c23_1 => ?_)
        · refine lv_iconst (v := nI 0) S.1 S.2.1 dX5_manyBranches_30 (by decide) ?_
          refine mi_iadd S dX5_manyBranches_31 ?_
          refine lv_istore_n (lv' := [(1, .int (nI (k + 0))), (0, .ref (ad 1000020)), (2, .int (nI (i)))]) S.1 S.2.1 dX5_manyBranches_32 rfl hl (by decide) rfl (fun ls hl => ?_)
          refine lv_iinc (v := nI (i + 1)) (lv' := [(2, .int (nI (i + 1))), (1, .int (nI (k + 0))), (0, .ref (ad 1000020))]) S.1 S.2.1 dX5_manyBranches_33 hl (k := 2) rfl (mi_inc _) (by decide) rfl (fun ls hl => ?_)
          refine lv_goto (tgt := 4) S.1 S.2.1 dX5_manyBranches_36 (by decide) ?_
          exact ih4 (k + 0) (i + 1) _ (by omega) (by omega) (by first | (rw [sp_br_1 (by omega)]; omega) | (rw [sp_br_0 (by omega)] <;> omega))  (lv_sub hl [2, 1, 0] rfl)
        · refine lv_iconst (v := nI 1) S.1 S.2.1 dX5_manyBranches_26 (by decide) ?_
          refine lv_goto (tgt := 31) S.1 S.2.1 dX5_manyBranches_27 (by decide) ?_
          refine mi_iadd S dX5_manyBranches_31 ?_
          refine lv_istore_n (lv' := [(1, .int (nI (k + 1))), (0, .ref (ad 1000020)), (2, .int (nI (i)))]) S.1 S.2.1 dX5_manyBranches_32 rfl hl (by decide) rfl (fun ls hl => ?_)
          refine lv_iinc (v := nI (i + 1)) (lv' := [(2, .int (nI (i + 1))), (1, .int (nI (k + 1))), (0, .ref (ad 1000020))]) S.1 S.2.1 dX5_manyBranches_33 hl (k := 2) rfl (mi_inc _) (by decide) rfl (fun ls hl => ?_)
          refine lv_goto (tgt := 4) S.1 S.2.1 dX5_manyBranches_36 (by decide) ?_
          exact ih4 (k + 1) (i + 1) _ (by omega) (by omega) (by first | (rw [sp_br_1 (by omega)]; omega) | (rw [sp_br_0 (by omega)] <;> omega))  (lv_sub hl [2, 1, 0] rfl)
  exact lp4 _ 0 0 _ (Nat.lt_succ_self _) (by omega) (by rfl)  (lv_sub hl [2, 1, 0] rfl)
set_option maxHeartbeats 4000000 in
set_option maxRecDepth 100000 in
theorem c_mbranches (l : Launch) (D : va_G) (A : Nat → Prop) {ad : Nat → Nat} {cf0 : Nat → Option va_E} {f : Nat → Int32} {g : Nat → Nat → Int32} {S0 : sT} (hR : st_mo S0 f g) (hO : st_ok S0)  : mi_Mi l yX5_branches (Cond.code yX5_branches cX5_branches 1 (some Jvm.ClassFile.FieldType.int)) (mi_rm 3) D A (mo_W D A ad cf0 f g) [.ref (ad 1000020)] 0 0 (fun r H => r = nI (sp_br S0 (sW S0) (sN S0)) ∧ ∃ f1 g1, mo_W D A ad cf0 f1 g1 H ∧ st_mo (S0) f1 g1 ∧ f1 0 = nI 0) := by
  refine mi_start (cc := cX5_branches) (nL := 1) (ret := (some Jvm.ClassFile.FieldType.int)) rfl (by decide) (Nat.le_of_ble_eq_true rfl) ?_
  intro p e s m below meth c ls S E hM hS hr hk hn hl
  have S : CallFix p m c cX5_branches 1 s _ ((Cond.code yX5_branches cX5_branches 1 (some Jvm.ClassFile.FieldType.int)) :: mi_G) RX5 := S
  have hl : lv_has ls 1 [(0, .ref (ad 1000020))] := hl
  obtain ⟨⟨o1, o2, o3, o4, o5⟩, oP, oK, oD, oX, oC, oI⟩ := id hO
  have hw : sW S0 < 61 := by omega
  have hK := st_mo_K hR o3
  have hKb : ∀ j, j < 128 → sK S0 (sW S0) j < 4 := fun j hj => oK _ _ o3 hj
  refine lv_aload_n S.1 S.2.1 dX5_branches_0 rfl (lv_at hl 0 rfl) ?_
  refine lv_iconst (v := nI 0) S.1 S.2.1 dX5_branches_1 (by decide) ?_
  refine mo_p_44 S E hS hM dX5_branches_2 (fun H locs hM hS => ?_)
  refine lv_aload_n S.1 S.2.1 dX5_branches_5 rfl (lv_at hl 0 rfl) ?_
  refine mi_cR (mi_runV (P := mo_W D A ad cf0 (upd f 0 (nI (0))) g) (As := []) (rest := []) S E hS hM (ad 1000020) (c_manyBranches l D A (f := (upd f 0 (nI (0)))) (g := g) (st_mo_0 hR _) hO) (hM.recv E) mw_843 mw_840 mw_842 mw_28 mw_43 ⟨by decide, by decide, by decide +kernel⟩ ⟨rfl, rfl, Nat.le_of_ble_eq_true rfl, Nat.le_of_ble_eq_true rfl⟩ (n := 0) rfl hl.1 rfl (Nat.le_of_ble_eq_true rfl) dX5_branches_6 ⟨Nat.le_of_ble_eq_true rfl, Nat.le_of_ble_eq_true rfl⟩) (fun r9 e9 => ?_)
  subst e9
  exact mi_retMi S hr hk hS dX5_branches_9 (Nat.le_refl _) (Nat.le_refl _) ⟨rfl, (upd f 0 (nI (0))), g, hM, st_mo_0 hR _, rfl⟩
set_option maxHeartbeats 4000000 in
set_option maxRecDepth 100000 in
theorem c_mredo (l : Launch) (D : va_G) (A : Nat → Prop) {ad : Nat → Nat} {cf0 : Nat → Option va_E} {f : Nat → Int32} {g : Nat → Nat → Int32} {S0 : sT} (hR : st_mo S0 f g) (hO : st_ok S0) {b : Nat} (hb : b < sp_br S0 (sW S0) (sN S0)) : mi_Mi l yX5_redo (Cond.code yX5_redo cX5_redo 6 (some Jvm.ClassFile.FieldType.int)) (mi_rm 3) D A (mo_W D A ad cf0 f g) [.ref (ad 1000020), .int (nI (b))] 0 0 (fun r H => r = nI (sp_fd S0 (sW S0) b (sN S0)) ∧ ∃ f1 g1, mo_W D A ad cf0 f1 g1 H ∧ st_mo (st_now S0 (sp_fd S0 (sW S0) b (sN S0))) f1 g1 ∧ f1 0 = nI 0) := by
  refine mi_start (cc := cX5_redo) (nL := 6) (ret := (some Jvm.ClassFile.FieldType.int)) rfl (by decide) (Nat.le_of_ble_eq_true rfl) ?_
  intro p e s m below meth c ls S E hM hS hr hk hn hl
  have S : CallFix p m c cX5_redo 6 s _ ((Cond.code yX5_redo cX5_redo 6 (some Jvm.ClassFile.FieldType.int)) :: mi_G) RX5 := S
  have hl : lv_has ls 6 [(0, .ref (ad 1000020)), (1, .int (nI (b)))] := hl
  obtain ⟨⟨o1, o2, o3, o4, o5⟩, oP, oK, oD, oX, oC, oI⟩ := id hO
  have hw : sW S0 < 61 := by omega
  have hK := st_mo_K hR o3
  have hKb : ∀ j, j < 128 → sK S0 (sW S0) j < 4 := fun j hj => oK _ _ o3 hj
  have hbr := sp_br_le S0 (sW S0) (sN S0)
  refine lv_aload_n S.1 S.2.1 dX5_redo_0 rfl (lv_at hl 0 rfl) ?_
  refine lv_iload_n S.1 S.2.1 dX5_redo_1 rfl (lv_at hl 1 rfl) ?_
  refine lv_iconst (v := nI 0) S.1 S.2.1 dX5_redo_2 (by decide) ?_
  refine lv_aload_n S.1 S.2.1 dX5_redo_3 rfl (lv_at hl 0 rfl) ?_
  refine mi_cR (mi_runV (P := mo_W D A ad cf0 f g) (As := []) (rest := [.int (nI (0)), .int (nI (b)), .ref (ad 1000020)]) S E hS hM (ad 1000020) (c_manyBranches l D A (f := f) (g := g) (hR) hO) (hM.recv E) mw_843 mw_840 mw_842 mw_28 mw_43 ⟨by decide, by decide, by decide +kernel⟩ ⟨rfl, rfl, Nat.le_of_ble_eq_true rfl, Nat.le_of_ble_eq_true rfl⟩ (n := 0) rfl hl.1 rfl (Nat.le_of_ble_eq_true rfl) dX5_redo_4 ⟨Nat.le_of_ble_eq_true rfl, Nat.le_of_ble_eq_true rfl⟩) (fun r9 e9 => ?_)
  subst e9
  refine lv_iconst (v := nI 1) S.1 S.2.1 dX5_redo_7 (by decide) ?_
  refine lv_isub S.1 S.2.1 dX5_redo_8 ?_
  refine mi_cR (mi_runS (P := mo_W D A ad cf0 f g) (As := [.int (nI (b)), .int (nI (0)), .int ((nI (sp_br S0 (sW S0) (sN S0))) - (nI (1)))]) (rest := [.ref (ad 1000020)]) S E hS hM (c_in_y l D A (mo_W D A ad cf0 f g) (by have := nI_toInt (n := b) (by omega); have := nI_toInt (n := 0) (by omega); have := pk_sub_toInt (a := sp_br S0 (sW S0) (sN S0)) (b := 1) (by omega) (by omega); omega)) mw_736 mw_734 mw_735 mw_43 ⟨by decide, by decide, by decide +kernel⟩ ⟨rfl, rfl, Nat.le_of_ble_eq_true rfl, Nat.le_of_ble_eq_true rfl⟩ (n := 3) rfl hl.1 rfl (Nat.le_of_ble_eq_true rfl) dX5_redo_9 ⟨Nat.le_of_ble_eq_true rfl, Nat.le_of_ble_eq_true rfl⟩) (fun r9 e9 => ?_)
  subst e9
  refine mi_if_eq (tgt := 19) S (by omega) dX5_redo_12 (by decide) (fun c12_0 => by exfalso; omega) (fun c12_0 => ?_)
  refine lv_iconst (v := nI 0) S.1 S.2.1 dX5_redo_15 (by decide) ?_
  refine lv_goto (tgt := 20) S.1 S.2.1 dX5_redo_16 (by decide) ?_
  refine mo_p_44 S E hS hM dX5_redo_20 (fun H locs hM hS => ?_)
  refine lv_aload_n S.1 S.2.1 dX5_redo_23 rfl (lv_at hl 0 rfl) ?_
  refine mo_g_44 S E hM dX5_redo_24 ?_
  refine mi_top (v' := .int (nI (0))) (rfl) ?_
  refine mi_if_le (tgt := 32) S (by omega) dX5_redo_27 (by decide) (fun c27_2 => ?_) (fun c27_2 => by exfalso; omega)
  refine lv_aload_n S.1 S.2.1 dX5_redo_32 rfl (lv_at hl 0 rfl) ?_
  refine mo_g_51 S E hM dX5_redo_33 ?_
  refine mi_top (v' := .int (nI (sW S0))) (congrArg Value.int hR.1.2.1) ?_
  refine lv_istore_n (lv' := [(2, .int (nI (sW S0))), (0, .ref (ad 1000020)), (1, .int (nI (b)))]) S.1 S.2.1 dX5_redo_36 rfl hl (by decide) rfl (fun ls hl => ?_)
  refine lv_iconst (v := nI 0) S.1 S.2.1 dX5_redo_37 (by decide) ?_
  refine lv_istore_n (lv' := [(3, .int (nI (0))), (2, .int (nI (sW S0))), (0, .ref (ad 1000020)), (1, .int (nI (b)))]) S.1 S.2.1 dX5_redo_38 rfl hl (by decide) rfl (fun ls hl => ?_)
  refine lv_iconst (v := nI 0) S.1 S.2.1 dX5_redo_39 (by decide) ?_
  refine lv_istore (lv' := [(4, .int (nI (0))), (3, .int (nI (0))), (2, .int (nI (sW S0))), (0, .ref (ad 1000020)), (1, .int (nI (b)))]) S.1 S.2.1 dX5_redo_40 hl (by decide) rfl (fun ls hl => ?_)
  have lp42 : ∀ (n42 : Nat) (v : Nat) (k : Nat) (i : Nat) (ls : Array Slot), sN S0 - i < n42 → i ≤ sN S0 → k = sp_br S0 (sW S0) i → v = sp_fd S0 (sW S0) b i → lv_has ls 6 [(0, .ref (ad 1000020)), (1, .int (nI (b))), (2, .int (nI (v))), (3, .int (nI (k))), (4, .int (nI (i)))] → W p l e (mi_rm 3) s m ([.ref (ad 1000020), .int (nI (b))] : List Value).toArray below meth c H locs 0 0 (MQ below (mi_Qi A (fun r H => r = nI (sp_fd S0 (sW S0) b (sN S0)) ∧ ∃ f1 g1, mo_W D A ad cf0 f1 g1 H ∧ st_mo (st_now S0 (sp_fd S0 (sW S0) b (sN S0))) f1 g1 ∧ f1 0 = nI 0)) ([.ref (ad 1000020), .int (nI (b))] : List Value).toArray s 0 0 A) (F0 m 42 ls []) := by
    intro n42
    induction n42 with
    | zero => intro v k i ls hm hi hk9 hfd  hl; exact absurd hm (Nat.not_lt_zero _)
    | succ n42 ih42 =>
      intro v k i ls hm hi hk9 hfd  hl
      refine lv_iload S.1 S.2.1 dX5_redo_42 (lv_at hl 4 rfl) ?_
      refine lv_aload_n S.1 S.2.1 dX5_redo_44 rfl (lv_at hl 0 rfl) ?_
      refine mo_g_7 S E hM dX5_redo_45 ?_
      refine mi_top (v' := .int (nI (sN S0))) (congrArg Value.int hR.1.1) ?_
      refine mi_icmp_ge (tgt := 108) S (by omega) (by omega) dX5_redo_48 (by decide) (fun c48_3 => ?_) (fun c48_3 => ?_)
      · refine lv_aload_n S.1 S.2.1 dX5_redo_108 rfl (lv_at hl 0 rfl) ?_
        refine lv_iload_n S.1 S.2.1 dX5_redo_109 rfl (lv_at hl 2 rfl) ?_
        refine mo_p_51 S E hS hM dX5_redo_110 (fun H locs hM hS => ?_)
        refine lv_aload_n S.1 S.2.1 dX5_redo_113 rfl (lv_at hl 0 rfl) ?_
        refine mo_g_51 S E hM dX5_redo_114 ?_
        refine mi_top (v' := .int (nI (v))) (rfl) ?_
        exact mi_retMi S hr hk hS dX5_redo_117 (Nat.le_refl _) (Nat.le_refl _) ⟨(by rw [hfd, show i = sN S0 by omega]), (upd (upd f 0 (nI (0))) 2 (nI (v))), g, hM, (by rw [hfd, show i = sN S0 by omega]; exact st_mo_now (st_mo_0 hR _) _), rfl⟩
      · have hb1 := sp_br_le S0 (sW S0) i
        refine lv_aload_n S.1 S.2.1 dX5_redo_51 rfl (lv_at hl 0 rfl) ?_
        refine mo_g_13 S E hM dX5_redo_52 ?_
        refine lv_iload S.1 S.2.1 dX5_redo_55 (lv_at hl 4 rfl) ?_
        refine mo_ald 3 S E hM rfl (by show _ < 61; omega) dX5_redo_57 ?_
        refine mi_top (v' := .int (mi_dn (sp_pn S0 i))) (congrArg Value.int (st_pa hR (by omega))) ?_
        refine lv_aload_n S.1 S.2.1 dX5_redo_58 rfl (lv_at hl 0 rfl) ?_
        refine mo_g_51 S E hM dX5_redo_59 ?_
        refine mi_top (v' := .int (nI (sW S0))) (congrArg Value.int hR.1.2.1) ?_
        refine mi_xcmp_ne (tgt := 69) S (mi_dn_toInt (n := sp_pn S0 i) (by have := sp_pn_le hO (show i < sN S0 by omega); omega)) (nI_toInt (n := sW S0) (by omega)) dX5_redo_62 (by decide) (fun c62_5 => ?_) (fun c62_5 => ?_)
        · refine lv_iconst (v := nI 0) S.1 S.2.1 dX5_redo_69 (by decide) ?_
          refine lv_istore (lv' := [(5, .int (nI (0))), (0, .ref (ad 1000020)), (1, .int (nI (b))), (2, .int (nI (v))), (3, .int (nI (k))), (4, .int (nI (i)))]) S.1 S.2.1 dX5_redo_70 hl (by decide) rfl (fun ls hl => ?_)
          refine lv_iload S.1 S.2.1 dX5_redo_72 (lv_at hl 0 rfl) ?_
          refine mi_if_eq (tgt := 87) S (by omega) dX5_redo_74 (by decide) (fun c74_6 => ?_) (fun c74_6 => by exfalso; omega)
          refine lv_iload_n S.1 S.2.1 dX5_redo_87 rfl (lv_at hl 3 rfl) ?_
          refine lv_istore_n (lv' := [(2, .int (nI (v))), (5, .int (nI (0))), (0, .ref (ad 1000020)), (1, .int (nI (b))), (3, .int (nI (k))), (4, .int (nI (i)))]) S.1 S.2.1 dX5_redo_88 rfl hl (by decide) rfl (fun ls hl => ?_)
          refine lv_iload_n S.1 S.2.1 dX5_redo_89 rfl (lv_at hl 4 rfl) ?_
          refine lv_iload S.1 S.2.1 dX5_redo_90 (lv_at hl 1 rfl) ?_
          refine mi_if_eq (tgt := 99) S (by omega) dX5_redo_92 (by decide) (fun c92_7 => ?_) (fun c92_7 => by exfalso; omega)
          refine lv_iconst (v := nI 0) S.1 S.2.1 dX5_redo_99 (by decide) ?_
          refine mi_iadd S dX5_redo_100 ?_
          refine lv_istore_n (lv' := [(3, .int (nI (k + 0))), (2, .int (nI (v))), (5, .int (nI (0))), (0, .ref (ad 1000020)), (1, .int (nI (b))), (4, .int (nI (i)))]) S.1 S.2.1 dX5_redo_101 rfl hl (by decide) rfl (fun ls hl => ?_)
          refine lv_iinc (v := nI (i + 1)) (lv' := [(4, .int (nI (i + 1))), (3, .int (nI (k + 0))), (2, .int (nI (v))), (5, .int (nI (0))), (0, .ref (ad 1000020)), (1, .int (nI (b)))]) S.1 S.2.1 dX5_redo_102 hl (k := 5) rfl (mi_inc _) (by decide) rfl (fun ls hl => ?_)
          refine lv_goto (tgt := 42) S.1 S.2.1 dX5_redo_105 (by decide) ?_
          exact ih42 v (k + 0) (i + 1) _ (by omega) (by omega) (by first | (rw [sp_br_1 (by omega)]; omega) | (rw [sp_br_0 (by omega)] <;> omega)) (by first | (rw [sp_fd_1 (by omega) (by omega)]) | (rw [sp_fd_0 (by omega)]; exact hfd) | omega)  (lv_sub hl [4, 5, 2, 1, 0] rfl)
        · refine lv_iconst (v := nI 1) S.1 S.2.1 dX5_redo_65 (by decide) ?_
          refine lv_goto (tgt := 70) S.1 S.2.1 dX5_redo_66 (by decide) ?_
          refine lv_istore (lv' := [(5, .int (nI (1))), (0, .ref (ad 1000020)), (1, .int (nI (b))), (2, .int (nI (v))), (3, .int (nI (k))), (4, .int (nI (i)))]) S.1 S.2.1 dX5_redo_70 hl (by decide) rfl (fun ls hl => ?_)
          refine lv_iload S.1 S.2.1 dX5_redo_72 (lv_at hl 0 rfl) ?_
          refine mi_if_eq (tgt := 87) S (by omega) dX5_redo_74 (by decide) (fun c74_8 => by exfalso; omega) (fun c74_8 => ?_)
          refine lv_iload_n S.1 S.2.1 dX5_redo_77 rfl (lv_at hl 4 rfl) ?_
          refine lv_iload_n S.1 S.2.1 dX5_redo_78 rfl (lv_at hl 2 rfl) ?_
          refine mi_icmp_ne (tgt := 87) S (by omega) (by omega) dX5_redo_79 (by decide) (fun c79_9 => ?_) (fun c79_9 => ?_)
          · refine lv_iload_n S.1 S.2.1 dX5_redo_87 rfl (lv_at hl 3 rfl) ?_
            refine lv_istore_n (lv' := [(2, .int (nI (v))), (5, .int (nI (1))), (0, .ref (ad 1000020)), (1, .int (nI (b))), (3, .int (nI (k))), (4, .int (nI (i)))]) S.1 S.2.1 dX5_redo_88 rfl hl (by decide) rfl (fun ls hl => ?_)
            refine lv_iload_n S.1 S.2.1 dX5_redo_89 rfl (lv_at hl 4 rfl) ?_
            refine lv_iload S.1 S.2.1 dX5_redo_90 (lv_at hl 1 rfl) ?_
            refine mi_if_eq (tgt := 99) S (by omega) dX5_redo_92 (by decide) (fun c92_10 => by exfalso; omega) (fun c92_10 => ?_)
            refine lv_iconst (v := nI 1) S.1 S.2.1 dX5_redo_95 (by decide) ?_
            refine lv_goto (tgt := 100) S.1 S.2.1 dX5_redo_96 (by decide) ?_
            refine mi_iadd S dX5_redo_100 ?_
            refine lv_istore_n (lv' := [(3, .int (nI (k + 1))), (2, .int (nI (v))), (5, .int (nI (1))), (0, .ref (ad 1000020)), (1, .int (nI (b))), (4, .int (nI (i)))]) S.1 S.2.1 dX5_redo_101 rfl hl (by decide) rfl (fun ls hl => ?_)
            refine lv_iinc (v := nI (i + 1)) (lv' := [(4, .int (nI (i + 1))), (3, .int (nI (k + 1))), (2, .int (nI (v))), (5, .int (nI (1))), (0, .ref (ad 1000020)), (1, .int (nI (b)))]) S.1 S.2.1 dX5_redo_102 hl (k := 5) rfl (mi_inc _) (by decide) rfl (fun ls hl => ?_)
            refine lv_goto (tgt := 42) S.1 S.2.1 dX5_redo_105 (by decide) ?_
            exact ih42 v (k + 1) (i + 1) _ (by omega) (by omega) (by first | (rw [sp_br_1 (by omega)]; omega) | (rw [sp_br_0 (by omega)] <;> omega)) (by first | (rw [sp_fd_1 (by omega) (by omega)]) | (rw [sp_fd_0 (by omega)]; exact hfd) | omega)  (lv_sub hl [4, 5, 2, 1, 0] rfl)
          · refine lv_iload S.1 S.2.1 dX5_redo_82 (lv_at hl 5 rfl) ?_
            refine lv_goto (tgt := 88) S.1 S.2.1 dX5_redo_84 (by decide) ?_
            refine lv_istore_n (lv' := [(2, .int (nI (i))), (5, .int (nI (1))), (0, .ref (ad 1000020)), (1, .int (nI (b))), (3, .int (nI (k))), (4, .int (nI (i)))]) S.1 S.2.1 dX5_redo_88 rfl hl (by decide) rfl (fun ls hl => ?_)
            refine lv_iload_n S.1 S.2.1 dX5_redo_89 rfl (lv_at hl 4 rfl) ?_
            refine lv_iload S.1 S.2.1 dX5_redo_90 (lv_at hl 1 rfl) ?_
            refine mi_if_eq (tgt := 99) S (by omega) dX5_redo_92 (by decide) (fun c92_11 => by exfalso; omega) (fun c92_11 => ?_)
            refine lv_iconst (v := nI 1) S.1 S.2.1 dX5_redo_95 (by decide) ?_
            refine lv_goto (tgt := 100) S.1 S.2.1 dX5_redo_96 (by decide) ?_
            refine mi_iadd S dX5_redo_100 ?_
            refine lv_istore_n (lv' := [(3, .int (nI (k + 1))), (2, .int (nI (i))), (5, .int (nI (1))), (0, .ref (ad 1000020)), (1, .int (nI (b))), (4, .int (nI (i)))]) S.1 S.2.1 dX5_redo_101 rfl hl (by decide) rfl (fun ls hl => ?_)
            refine lv_iinc (v := nI (i + 1)) (lv' := [(4, .int (nI (i + 1))), (3, .int (nI (k + 1))), (2, .int (nI (i))), (5, .int (nI (1))), (0, .ref (ad 1000020)), (1, .int (nI (b)))]) S.1 S.2.1 dX5_redo_102 hl (k := 5) rfl (mi_inc _) (by decide) rfl (fun ls hl => ?_)
            refine lv_goto (tgt := 42) S.1 S.2.1 dX5_redo_105 (by decide) ?_
            exact ih42 i (k + 1) (i + 1) _ (by omega) (by omega) (by first | (rw [sp_br_1 (by omega)]; omega) | (rw [sp_br_0 (by omega)] <;> omega)) (by first | (rw [sp_fd_1 (by omega) (by omega)]) | (rw [sp_fd_0 (by omega)]; exact hfd) | omega)  (lv_sub hl [4, 5, 2, 1, 0] rfl)
  exact lp42 _ (sW S0) 0 0 _ (Nat.lt_succ_self _) (by omega) (by rfl) (by rfl)  (lv_sub hl [3, 4, 2, 1, 0] rfl)
set_option maxHeartbeats 4000000 in
set_option maxRecDepth 100000 in
theorem c_mredo_1 (l : Launch) (D : va_G) (A : Nat → Prop) {ad : Nat → Nat} {cf0 : Nat → Option va_E} {f : Nat → Int32} {g : Nat → Nat → Int32} {S0 : sT} (hR : st_mo S0 f g) (hO : st_ok S0) {x : Int32} (h9 : ¬ (0 ≤ x.toInt ∧ x.toInt < sp_br S0 (sW S0) (sN S0))) : mi_Mi l yX5_redo (Cond.code yX5_redo cX5_redo 6 (some Jvm.ClassFile.FieldType.int)) (mi_rm 3) D A (mo_W D A ad cf0 f g) [.ref (ad 1000020), .int (x)] 0 0 (fun r H => mo_W D A ad cf0 (upd f 0 (nI 1)) g H) := by
  refine mi_start (cc := cX5_redo) (nL := 6) (ret := (some Jvm.ClassFile.FieldType.int)) rfl (by decide) (Nat.le_of_ble_eq_true rfl) ?_
  intro p e s m below meth c ls S E hM hS hr hk hn hl
  have S : CallFix p m c cX5_redo 6 s _ ((Cond.code yX5_redo cX5_redo 6 (some Jvm.ClassFile.FieldType.int)) :: mi_G) RX5 := S
  have hl : lv_has ls 6 [(0, .ref (ad 1000020)), (1, .int (x))] := hl
  obtain ⟨⟨o1, o2, o3, o4, o5⟩, oP, oK, oD, oX, oC, oI⟩ := id hO
  have hw : sW S0 < 61 := by omega
  have hK := st_mo_K hR o3
  have hKb : ∀ j, j < 128 → sK S0 (sW S0) j < 4 := fun j hj => oK _ _ o3 hj
  have hbr := sp_br_le S0 (sW S0) (sN S0)
  refine lv_aload_n S.1 S.2.1 dX5_redo_0 rfl (lv_at hl 0 rfl) ?_
  refine lv_iload_n S.1 S.2.1 dX5_redo_1 rfl (lv_at hl 1 rfl) ?_
  refine lv_iconst (v := nI 0) S.1 S.2.1 dX5_redo_2 (by decide) ?_
  refine lv_aload_n S.1 S.2.1 dX5_redo_3 rfl (lv_at hl 0 rfl) ?_
  refine mi_cR (mi_runV (P := mo_W D A ad cf0 f g) (As := []) (rest := [.int (nI (0)), .int (x), .ref (ad 1000020)]) S E hS hM (ad 1000020) (c_manyBranches l D A (f := f) (g := g) (hR) hO) (hM.recv E) mw_843 mw_840 mw_842 mw_28 mw_43 ⟨by decide, by decide, by decide +kernel⟩ ⟨rfl, rfl, Nat.le_of_ble_eq_true rfl, Nat.le_of_ble_eq_true rfl⟩ (n := 0) rfl hl.1 rfl (Nat.le_of_ble_eq_true rfl) dX5_redo_4 ⟨Nat.le_of_ble_eq_true rfl, Nat.le_of_ble_eq_true rfl⟩) (fun r9 e9 => ?_)
  subst e9
  refine lv_iconst (v := nI 1) S.1 S.2.1 dX5_redo_7 (by decide) ?_
  refine lv_isub S.1 S.2.1 dX5_redo_8 ?_
  refine mi_cR (mi_runS (P := mo_W D A ad cf0 f g) (As := [.int (x), .int (nI (0)), .int ((nI (sp_br S0 (sW S0) (sN S0))) - (nI (1)))]) (rest := [.ref (ad 1000020)]) S E hS hM (c_in_n l D A (mo_W D A ad cf0 f g) (by skip; have := nI_toInt (n := 0) (by omega); have := pk_sub_toInt (a := sp_br S0 (sW S0) (sN S0)) (b := 1) (by omega) (by omega); omega)) mw_736 mw_734 mw_735 mw_43 ⟨by decide, by decide, by decide +kernel⟩ ⟨rfl, rfl, Nat.le_of_ble_eq_true rfl, Nat.le_of_ble_eq_true rfl⟩ (n := 3) rfl hl.1 rfl (Nat.le_of_ble_eq_true rfl) dX5_redo_9 ⟨Nat.le_of_ble_eq_true rfl, Nat.le_of_ble_eq_true rfl⟩) (fun r9 e9 => ?_)
  subst e9
  refine mi_if_eq (tgt := 19) S (by omega) dX5_redo_12 (by decide) (fun c12_0 => ?_) (fun c12_0 => by exfalso; omega)
  refine lv_iconst (v := nI 1) S.1 S.2.1 dX5_redo_19 (by decide) ?_
  refine mo_p_44 S E hS hM dX5_redo_20 (fun H locs hM hS => ?_)
  refine lv_aload_n S.1 S.2.1 dX5_redo_23 rfl (lv_at hl 0 rfl) ?_
  refine mo_g_44 S E hM dX5_redo_24 ?_
  refine mi_top (v' := .int (nI (1))) (rfl) ?_
  refine mi_if_le (tgt := 32) S (by omega) dX5_redo_27 (by decide) (fun c27_2 => by exfalso; omega) (fun c27_2 => ?_)
  refine lv_iconst (v := nI 0) S.1 S.2.1 dX5_redo_30 (by decide) ?_
  exact mi_retMi S hr hk hS dX5_redo_31 (Nat.le_refl _) (Nat.le_refl _) (hM)
set_option maxHeartbeats 4000000 in
set_option maxRecDepth 100000 in
theorem c_munlike (l : Launch) (D : va_G) (A : Nat → Prop) {ad : Nat → Nat} {cf0 : Nat → Option va_E} {f : Nat → Int32} {g : Nat → Nat → Int32} {S0 : sT} (hR : st_mo S0 f g) (hO : st_ok S0) {a b : Nat} (ha : a < sN S0) (hb : b < sN S0) : mi_Mi l yX5_unlike (Cond.code yX5_unlike cX5_unlike 5 (some Jvm.ClassFile.FieldType.int)) (mi_rm 3) D A (mo_W D A ad cf0 f g) [.ref (ad 1000020), .int (nI (a)), .int (nI (b))] 0 0 (fun r H => r = nI (sp_ul S0 a b 16) ∧ ∃ f1 g1, mo_W D A ad cf0 f1 g1 H ∧ st_mo (S0) f1 g1 ∧ f1 0 = nI 0) := by
  refine mi_start (cc := cX5_unlike) (nL := 5) (ret := (some Jvm.ClassFile.FieldType.int)) rfl (by decide) (Nat.le_of_ble_eq_true rfl) ?_
  intro p e s m below meth c ls S E hM hS hr hk hn hl
  have S : CallFix p m c cX5_unlike 5 s _ ((Cond.code yX5_unlike cX5_unlike 5 (some Jvm.ClassFile.FieldType.int)) :: mi_G) RX5 := S
  have hl : lv_has ls 5 [(0, .ref (ad 1000020)), (1, .int (nI (a))), (2, .int (nI (b)))] := hl
  obtain ⟨⟨o1, o2, o3, o4, o5⟩, oP, oK, oD, oX, oC, oI⟩ := id hO
  have hw : sW S0 < 61 := by omega
  have hK := st_mo_K hR o3
  have hKb : ∀ j, j < 128 → sK S0 (sW S0) j < 4 := fun j hj => oK _ _ o3 hj
  refine lv_aload_n S.1 S.2.1 dX5_unlike_0 rfl (lv_at hl 0 rfl) ?_
  refine lv_aload_n S.1 S.2.1 dX5_unlike_1 rfl (lv_at hl 0 rfl) ?_
  refine lv_iload_n S.1 S.2.1 dX5_unlike_2 rfl (lv_at hl 1 rfl) ?_
  refine mi_cR (mi_runV (P := mo_W D A ad cf0 f g) (As := [.int (nI (a))]) (rest := [.ref (ad 1000020)]) S E hS hM (ad 1000020) (c_isState_y l D A (f := f) (g := g) (n := sN S0) hR.1.1 (by omega) (by omega)) (hM.recv E) mw_831 mw_828 mw_830 mw_27 mw_43 ⟨by decide, by decide, by decide +kernel⟩ ⟨rfl, rfl, Nat.le_of_ble_eq_true rfl, Nat.le_of_ble_eq_true rfl⟩ (n := 1) rfl hl.1 rfl (Nat.le_of_ble_eq_true rfl) dX5_unlike_3 ⟨Nat.le_of_ble_eq_true rfl, Nat.le_of_ble_eq_true rfl⟩) (fun r9 e9 => ?_)
  subst e9
  refine mi_if_eq (tgt := 21) S (by omega) dX5_unlike_6 (by decide) (fun c6_0 => by exfalso; omega) (fun c6_0 => ?_)
  refine lv_aload_n S.1 S.2.1 dX5_unlike_9 rfl (lv_at hl 0 rfl) ?_
  refine lv_iload_n S.1 S.2.1 dX5_unlike_10 rfl (lv_at hl 2 rfl) ?_
  refine mi_cR (mi_runV (P := mo_W D A ad cf0 f g) (As := [.int (nI (b))]) (rest := [.ref (ad 1000020)]) S E hS hM (ad 1000020) (c_isState_y l D A (f := f) (g := g) (n := sN S0) hR.1.1 (by omega) (by omega)) (hM.recv E) mw_831 mw_828 mw_830 mw_27 mw_43 ⟨by decide, by decide, by decide +kernel⟩ ⟨rfl, rfl, Nat.le_of_ble_eq_true rfl, Nat.le_of_ble_eq_true rfl⟩ (n := 1) rfl hl.1 rfl (Nat.le_of_ble_eq_true rfl) dX5_unlike_11 ⟨Nat.le_of_ble_eq_true rfl, Nat.le_of_ble_eq_true rfl⟩) (fun r9 e9 => ?_)
  subst e9
  refine mi_if_eq (tgt := 21) S (by omega) dX5_unlike_14 (by decide) (fun c14_1 => by exfalso; omega) (fun c14_1 => ?_)
  refine lv_iconst (v := nI 0) S.1 S.2.1 dX5_unlike_17 (by decide) ?_
  refine lv_goto (tgt := 22) S.1 S.2.1 dX5_unlike_18 (by decide) ?_
  refine mo_p_44 S E hS hM dX5_unlike_22 (fun H locs hM hS => ?_)
  refine lv_iconst (v := nI 0) S.1 S.2.1 dX5_unlike_25 (by decide) ?_
  refine lv_istore_n (lv' := [(3, .int (nI (0))), (0, .ref (ad 1000020)), (1, .int (nI (a))), (2, .int (nI (b)))]) S.1 S.2.1 dX5_unlike_26 rfl hl (by decide) rfl (fun ls hl => ?_)
  refine lv_iconst (v := nI 0) S.1 S.2.1 dX5_unlike_27 (by decide) ?_
  refine lv_istore (lv' := [(4, .int (nI (0))), (3, .int (nI (0))), (0, .ref (ad 1000020)), (1, .int (nI (a))), (2, .int (nI (b)))]) S.1 S.2.1 dX5_unlike_28 hl (by decide) rfl (fun ls hl => ?_)
  have lp30 : ∀ (n30 : Nat) (n : Nat) (i : Nat) (ls : Array Slot), 16 - i < n30 → i ≤ 16 → n = sp_ul S0 a b i → lv_has ls 5 [(0, .ref (ad 1000020)), (1, .int (nI (a))), (2, .int (nI (b))), (3, .int (nI (n))), (4, .int (nI (i)))] → W p l e (mi_rm 3) s m ([.ref (ad 1000020), .int (nI (a)), .int (nI (b))] : List Value).toArray below meth c H locs 0 0 (MQ below (mi_Qi A (fun r H => r = nI (sp_ul S0 a b 16) ∧ ∃ f1 g1, mo_W D A ad cf0 f1 g1 H ∧ st_mo (S0) f1 g1 ∧ f1 0 = nI 0)) ([.ref (ad 1000020), .int (nI (a)), .int (nI (b))] : List Value).toArray s 0 0 A) (F0 m 30 ls []) := by
    intro n30
    induction n30 with
    | zero => intro n i ls hm hi hn9  hl; exact absurd hm (Nat.not_lt_zero _)
    | succ n30 ih30 =>
      intro n i ls hm hi hn9  hl
      refine lv_iload S.1 S.2.1 dX5_unlike_30 (lv_at hl 4 rfl) ?_
      refine lv_bipush (v := nI 16) S.1 S.2.1 dX5_unlike_32 (by decide) ?_
      refine mi_icmp_ge (tgt := 85) S (by omega) (by omega) dX5_unlike_34 (by decide) (fun c34_3 => ?_) (fun c34_3 => ?_)
      · refine lv_iload_n S.1 S.2.1 dX5_unlike_85 rfl (lv_at hl 3 rfl) ?_
        exact mi_retMi S hr hk hS dX5_unlike_86 (Nat.le_refl _) (Nat.le_refl _) ⟨(by rw [hn9, show i = 16 by omega]), (upd f 0 (nI (0))), g, hM, st_mo_0 hR _, rfl⟩
      · refine lv_aload_n S.1 S.2.1 dX5_unlike_37 rfl (lv_at hl 0 rfl) ?_
        refine mo_g_44 S E hM dX5_unlike_38 ?_
        refine mi_top (v' := .int (nI (0))) (rfl) ?_
        refine mi_if_ne (tgt := 85) S (by omega) dX5_unlike_41 (by decide) (fun c41_4 => by exfalso; omega) (fun c41_4 => ?_)
        have hb1 := sp_ul_le S0 a b i
        refine lv_iload_n S.1 S.2.1 dX5_unlike_44 rfl (lv_at hl 3 rfl) ?_
        refine lv_aload_n S.1 S.2.1 dX5_unlike_45 rfl (lv_at hl 0 rfl) ?_
        refine mo_g_17 S E hM dX5_unlike_46 ?_
        refine lv_bipush (v := nI 16) S.1 S.2.1 dX5_unlike_49 (by decide) ?_
        refine lv_iload_n S.1 S.2.1 dX5_unlike_51 rfl (lv_at hl 1 rfl) ?_
        refine mi_imul S dX5_unlike_52 ?_
        refine lv_iload S.1 S.2.1 dX5_unlike_53 (lv_at hl 4 rfl) ?_
        refine mi_iadd S dX5_unlike_55 ?_
        refine mo_ald 4 S E hM rfl (by show _ < 976; omega) dX5_unlike_56 ?_
        refine lv_aload_n S.1 S.2.1 dX5_unlike_57 rfl (lv_at hl 0 rfl) ?_
        refine mo_g_17 S E hM dX5_unlike_58 ?_
        refine lv_bipush (v := nI 16) S.1 S.2.1 dX5_unlike_61 (by decide) ?_
        refine lv_iload_n S.1 S.2.1 dX5_unlike_63 rfl (lv_at hl 2 rfl) ?_
        refine mi_imul S dX5_unlike_64 ?_
        refine lv_iload S.1 S.2.1 dX5_unlike_65 (lv_at hl 4 rfl) ?_
        refine mi_iadd S dX5_unlike_67 ?_
        refine mo_ald 4 S E hM rfl (by show _ < 976; omega) dX5_unlike_68 ?_
        refine mi_xcmp_ne (tgt := 76) S (rfl : (g 4 ((16 * a) + i)).toInt = _) (rfl : (g 4 ((16 * b) + i)).toInt = _) dX5_unlike_69 (by decide) (fun c69_5 => ?_) (fun c69_5 => ?_)
        · refine lv_iconst (v := nI 1) S.1 S.2.1 dX5_unlike_76 (by decide) ?_
          refine mi_iadd S dX5_unlike_77 ?_
          refine lv_istore_n (lv' := [(3, .int (nI (n + 1))), (0, .ref (ad 1000020)), (1, .int (nI (a))), (2, .int (nI (b))), (4, .int (nI (i)))]) S.1 S.2.1 dX5_unlike_78 rfl hl (by decide) rfl (fun ls hl => ?_)
          refine lv_iinc (v := nI (i + 1)) (lv' := [(4, .int (nI (i + 1))), (3, .int (nI (n + 1))), (0, .ref (ad 1000020)), (1, .int (nI (a))), (2, .int (nI (b)))]) S.1 S.2.1 dX5_unlike_79 hl (k := 4) rfl (mi_inc _) (by decide) rfl (fun ls hl => ?_)
          refine lv_goto (tgt := 30) S.1 S.2.1 dX5_unlike_82 (by decide) ?_
          exact ih30 (n + 1) (i + 1) _ (by omega) (by omega) (by rw [sp_ul_s]; first | (rw [sp_al_0 ((st_al hR hO ha hb (by omega)).mp (by assumption))]; omega) | (rw [sp_al_1 (fun z => absurd ((st_al hR hO ha hb (by omega)).mpr z) (by assumption))]; omega))  (lv_sub hl [2, 3, 4, 1, 0] rfl)
        · refine lv_iconst (v := nI 0) S.1 S.2.1 dX5_unlike_72 (by decide) ?_
          refine lv_goto (tgt := 77) S.1 S.2.1 dX5_unlike_73 (by decide) ?_
          refine mi_iadd S dX5_unlike_77 ?_
          refine lv_istore_n (lv' := [(3, .int (nI (n + 0))), (0, .ref (ad 1000020)), (1, .int (nI (a))), (2, .int (nI (b))), (4, .int (nI (i)))]) S.1 S.2.1 dX5_unlike_78 rfl hl (by decide) rfl (fun ls hl => ?_)
          refine lv_iinc (v := nI (i + 1)) (lv' := [(4, .int (nI (i + 1))), (3, .int (nI (n + 0))), (0, .ref (ad 1000020)), (1, .int (nI (a))), (2, .int (nI (b)))]) S.1 S.2.1 dX5_unlike_79 hl (k := 4) rfl (mi_inc _) (by decide) rfl (fun ls hl => ?_)
          refine lv_goto (tgt := 30) S.1 S.2.1 dX5_unlike_82 (by decide) ?_
          exact ih30 (n + 0) (i + 1) _ (by omega) (by omega) (by rw [sp_ul_s]; first | (rw [sp_al_0 ((st_al hR hO ha hb (by omega)).mp (by assumption))]; omega) | (rw [sp_al_1 (fun z => absurd ((st_al hR hO ha hb (by omega)).mpr z) (by assumption))]; omega))  (lv_sub hl [2, 3, 4, 1, 0] rfl)
  exact lp30 _ 0 0 _ (Nat.lt_succ_self _) (by omega) (by rfl)  (lv_sub hl [2, 3, 4, 1, 0] rfl)
set_option maxHeartbeats 4000000 in
set_option maxRecDepth 100000 in
theorem c_munlike_1 (l : Launch) (D : va_G) (A : Nat → Prop) {ad : Nat → Nat} {cf0 : Nat → Option va_E} {f : Nat → Int32} {g : Nat → Nat → Int32} {S0 : sT} (hR : st_mo S0 f g) (hO : st_ok S0) {y : Int32} {x : Int32} (h9 : ¬ (0 ≤ x.toInt ∧ x.toInt < sN S0)) : mi_Mi l yX5_unlike (Cond.code yX5_unlike cX5_unlike 5 (some Jvm.ClassFile.FieldType.int)) (mi_rm 3) D A (mo_W D A ad cf0 f g) [.ref (ad 1000020), .int (x), .int (y)] 0 0 (fun r H => mo_W D A ad cf0 (upd f 0 (nI 1)) g H) := by
  refine mi_start (cc := cX5_unlike) (nL := 5) (ret := (some Jvm.ClassFile.FieldType.int)) rfl (by decide) (Nat.le_of_ble_eq_true rfl) ?_
  intro p e s m below meth c ls S E hM hS hr hk hn hl
  have S : CallFix p m c cX5_unlike 5 s _ ((Cond.code yX5_unlike cX5_unlike 5 (some Jvm.ClassFile.FieldType.int)) :: mi_G) RX5 := S
  have hl : lv_has ls 5 [(0, .ref (ad 1000020)), (1, .int (x)), (2, .int (y))] := hl
  obtain ⟨⟨o1, o2, o3, o4, o5⟩, oP, oK, oD, oX, oC, oI⟩ := id hO
  have hw : sW S0 < 61 := by omega
  have hK := st_mo_K hR o3
  have hKb : ∀ j, j < 128 → sK S0 (sW S0) j < 4 := fun j hj => oK _ _ o3 hj
  refine lv_aload_n S.1 S.2.1 dX5_unlike_0 rfl (lv_at hl 0 rfl) ?_
  refine lv_aload_n S.1 S.2.1 dX5_unlike_1 rfl (lv_at hl 0 rfl) ?_
  refine lv_iload_n S.1 S.2.1 dX5_unlike_2 rfl (lv_at hl 1 rfl) ?_
  refine mi_cR (mi_runV (P := mo_W D A ad cf0 f g) (As := [.int (x)]) (rest := [.ref (ad 1000020)]) S E hS hM (ad 1000020) (c_isState_n l D A (f := f) (g := g) (n := sN S0) hR.1.1 (by omega) h9) (hM.recv E) mw_831 mw_828 mw_830 mw_27 mw_43 ⟨by decide, by decide, by decide +kernel⟩ ⟨rfl, rfl, Nat.le_of_ble_eq_true rfl, Nat.le_of_ble_eq_true rfl⟩ (n := 1) rfl hl.1 rfl (Nat.le_of_ble_eq_true rfl) dX5_unlike_3 ⟨Nat.le_of_ble_eq_true rfl, Nat.le_of_ble_eq_true rfl⟩) (fun r9 e9 => ?_)
  subst e9
  refine mi_if_eq (tgt := 21) S (by omega) dX5_unlike_6 (by decide) (fun c6_0 => ?_) (fun c6_0 => by exfalso; omega)
  refine lv_iconst (v := nI 1) S.1 S.2.1 dX5_unlike_21 (by decide) ?_
  refine mo_p_44 S E hS hM dX5_unlike_22 (fun H locs hM hS => ?_)
  refine lv_iconst (v := nI 0) S.1 S.2.1 dX5_unlike_25 (by decide) ?_
  refine lv_istore_n (lv' := [(3, .int (nI (0))), (0, .ref (ad 1000020)), (1, .int (x)), (2, .int (y))]) S.1 S.2.1 dX5_unlike_26 rfl hl (by decide) rfl (fun ls hl => ?_)
  refine lv_iconst (v := nI 0) S.1 S.2.1 dX5_unlike_27 (by decide) ?_
  refine lv_istore (lv' := [(4, .int (nI (0))), (3, .int (nI (0))), (0, .ref (ad 1000020)), (1, .int (x)), (2, .int (y))]) S.1 S.2.1 dX5_unlike_28 hl (by decide) rfl (fun ls hl => ?_)
  refine lv_iload S.1 S.2.1 dX5_unlike_30 (lv_at hl 0 rfl) ?_
  refine lv_bipush (v := nI 16) S.1 S.2.1 dX5_unlike_32 (by decide) ?_
  refine mi_icmp_ge (tgt := 85) S (by omega) (by omega) dX5_unlike_34 (by decide) (fun c34_2 => by exfalso; omega) (fun c34_2 => ?_)
  refine lv_aload_n S.1 S.2.1 dX5_unlike_37 rfl (lv_at hl 2 rfl) ?_
  refine mo_g_44 S E hM dX5_unlike_38 ?_
  refine mi_top (v' := .int (nI (1))) (rfl) ?_
  refine mi_if_ne (tgt := 85) S (by omega) dX5_unlike_41 (by decide) (fun c41_3 => ?_) (fun c41_3 => by exfalso; omega)
  refine lv_iload_n S.1 S.2.1 dX5_unlike_85 rfl (lv_at hl 1 rfl) ?_
  exact mi_retMi S hr hk hS dX5_unlike_86 (Nat.le_refl _) (Nat.le_refl _) (hM)
set_option maxHeartbeats 4000000 in
set_option maxRecDepth 100000 in
theorem c_munlike_2 (l : Launch) (D : va_G) (A : Nat → Prop) {ad : Nat → Nat} {cf0 : Nat → Option va_E} {f : Nat → Int32} {g : Nat → Nat → Int32} {S0 : sT} (hR : st_mo S0 f g) (hO : st_ok S0) {a : Nat} (ha : a < sN S0) {x : Int32} (h9 : ¬ (0 ≤ x.toInt ∧ x.toInt < sN S0)) : mi_Mi l yX5_unlike (Cond.code yX5_unlike cX5_unlike 5 (some Jvm.ClassFile.FieldType.int)) (mi_rm 3) D A (mo_W D A ad cf0 f g) [.ref (ad 1000020), .int (nI (a)), .int (x)] 0 0 (fun r H => mo_W D A ad cf0 (upd f 0 (nI 1)) g H) := by
  refine mi_start (cc := cX5_unlike) (nL := 5) (ret := (some Jvm.ClassFile.FieldType.int)) rfl (by decide) (Nat.le_of_ble_eq_true rfl) ?_
  intro p e s m below meth c ls S E hM hS hr hk hn hl
  have S : CallFix p m c cX5_unlike 5 s _ ((Cond.code yX5_unlike cX5_unlike 5 (some Jvm.ClassFile.FieldType.int)) :: mi_G) RX5 := S
  have hl : lv_has ls 5 [(0, .ref (ad 1000020)), (1, .int (nI (a))), (2, .int (x))] := hl
  obtain ⟨⟨o1, o2, o3, o4, o5⟩, oP, oK, oD, oX, oC, oI⟩ := id hO
  have hw : sW S0 < 61 := by omega
  have hK := st_mo_K hR o3
  have hKb : ∀ j, j < 128 → sK S0 (sW S0) j < 4 := fun j hj => oK _ _ o3 hj
  refine lv_aload_n S.1 S.2.1 dX5_unlike_0 rfl (lv_at hl 0 rfl) ?_
  refine lv_aload_n S.1 S.2.1 dX5_unlike_1 rfl (lv_at hl 0 rfl) ?_
  refine lv_iload_n S.1 S.2.1 dX5_unlike_2 rfl (lv_at hl 1 rfl) ?_
  refine mi_cR (mi_runV (P := mo_W D A ad cf0 f g) (As := [.int (nI (a))]) (rest := [.ref (ad 1000020)]) S E hS hM (ad 1000020) (c_isState_y l D A (f := f) (g := g) (n := sN S0) hR.1.1 (by omega) (by omega)) (hM.recv E) mw_831 mw_828 mw_830 mw_27 mw_43 ⟨by decide, by decide, by decide +kernel⟩ ⟨rfl, rfl, Nat.le_of_ble_eq_true rfl, Nat.le_of_ble_eq_true rfl⟩ (n := 1) rfl hl.1 rfl (Nat.le_of_ble_eq_true rfl) dX5_unlike_3 ⟨Nat.le_of_ble_eq_true rfl, Nat.le_of_ble_eq_true rfl⟩) (fun r9 e9 => ?_)
  subst e9
  refine mi_if_eq (tgt := 21) S (by omega) dX5_unlike_6 (by decide) (fun c6_0 => by exfalso; omega) (fun c6_0 => ?_)
  refine lv_aload_n S.1 S.2.1 dX5_unlike_9 rfl (lv_at hl 0 rfl) ?_
  refine lv_iload_n S.1 S.2.1 dX5_unlike_10 rfl (lv_at hl 2 rfl) ?_
  refine mi_cR (mi_runV (P := mo_W D A ad cf0 f g) (As := [.int (x)]) (rest := [.ref (ad 1000020)]) S E hS hM (ad 1000020) (c_isState_n l D A (f := f) (g := g) (n := sN S0) hR.1.1 (by omega) h9) (hM.recv E) mw_831 mw_828 mw_830 mw_27 mw_43 ⟨by decide, by decide, by decide +kernel⟩ ⟨rfl, rfl, Nat.le_of_ble_eq_true rfl, Nat.le_of_ble_eq_true rfl⟩ (n := 1) rfl hl.1 rfl (Nat.le_of_ble_eq_true rfl) dX5_unlike_11 ⟨Nat.le_of_ble_eq_true rfl, Nat.le_of_ble_eq_true rfl⟩) (fun r9 e9 => ?_)
  subst e9
  refine mi_if_eq (tgt := 21) S (by omega) dX5_unlike_14 (by decide) (fun c14_1 => ?_) (fun c14_1 => by exfalso; omega)
  refine lv_iconst (v := nI 1) S.1 S.2.1 dX5_unlike_21 (by decide) ?_
  refine mo_p_44 S E hS hM dX5_unlike_22 (fun H locs hM hS => ?_)
  refine lv_iconst (v := nI 0) S.1 S.2.1 dX5_unlike_25 (by decide) ?_
  refine lv_istore_n (lv' := [(3, .int (nI (0))), (0, .ref (ad 1000020)), (1, .int (nI (a))), (2, .int (x))]) S.1 S.2.1 dX5_unlike_26 rfl hl (by decide) rfl (fun ls hl => ?_)
  refine lv_iconst (v := nI 0) S.1 S.2.1 dX5_unlike_27 (by decide) ?_
  refine lv_istore (lv' := [(4, .int (nI (0))), (3, .int (nI (0))), (0, .ref (ad 1000020)), (1, .int (nI (a))), (2, .int (x))]) S.1 S.2.1 dX5_unlike_28 hl (by decide) rfl (fun ls hl => ?_)
  refine lv_iload S.1 S.2.1 dX5_unlike_30 (lv_at hl 0 rfl) ?_
  refine lv_bipush (v := nI 16) S.1 S.2.1 dX5_unlike_32 (by decide) ?_
  refine mi_icmp_ge (tgt := 85) S (by omega) (by omega) dX5_unlike_34 (by decide) (fun c34_3 => by exfalso; omega) (fun c34_3 => ?_)
  refine lv_aload_n S.1 S.2.1 dX5_unlike_37 rfl (lv_at hl 2 rfl) ?_
  refine mo_g_44 S E hM dX5_unlike_38 ?_
  refine mi_top (v' := .int (nI (1))) (rfl) ?_
  refine mi_if_ne (tgt := 85) S (by omega) dX5_unlike_41 (by decide) (fun c41_4 => ?_) (fun c41_4 => by exfalso; omega)
  refine lv_iload_n S.1 S.2.1 dX5_unlike_85 rfl (lv_at hl 1 rfl) ?_
  exact mi_retMi S hr hk hS dX5_unlike_86 (Nat.le_refl _) (Nat.le_refl _) (hM)
set_option maxHeartbeats 4000000 in
set_option maxRecDepth 100000 in
theorem c_mthrown (l : Launch) (D : va_G) (A : Nat → Prop) {ad : Nat → Nat} {cf0 : Nat → Option va_E} {f : Nat → Int32} {g : Nat → Nat → Int32} {k : Int32} (h0 : f 0 = k) : mi_Rd l yX5_thrown (Cond.code yX5_thrown cX5_thrown 1 (some Jvm.ClassFile.FieldType.int)) (mi_rm 0) D A (mo_W D A ad cf0 f g) [.ref (ad 1000020)] (fun r => r = k) := by
  refine mi_start (cc := cX5_thrown) (nL := 1) (ret := (some Jvm.ClassFile.FieldType.int)) rfl (by decide) (Nat.le_of_ble_eq_true rfl) ?_
  intro p e s m below meth c ls S E hM hS hr hk hn hl
  have S : CallFix p m c cX5_thrown 1 s _ ((Cond.code yX5_thrown cX5_thrown 1 (some Jvm.ClassFile.FieldType.int)) :: mi_G) RX5 := S
  have hl : lv_has ls 1 [(0, .ref (ad 1000020))] := hl
  refine lv_aload_n S.1 S.2.1 dX5_thrown_0 rfl (lv_at hl 0 rfl) ?_
  refine mo_g_44 S E hM dX5_thrown_1 ?_
  exact mi_retR S hr hk dX5_thrown_4 (h0)
