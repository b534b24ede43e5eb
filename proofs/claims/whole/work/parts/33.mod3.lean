/-! the reference's answers -/
set_option maxHeartbeats 4000000 in
set_option maxRecDepth 100000 in
theorem c_mkind (l : Launch) (D : va_G) (A : Nat → Prop) {ad : Nat → Nat} {cf0 : Nat → Option va_E} {f : Nat → Int32} {g : Nat → Nat → Int32} {S0 : sT} (hR : st_mo S0 f g) (hO : st_ok S0) {a : Nat} (ha : a < 16) {b : Nat} (hb : b < 8) : mi_Mi l yX5_kind (Cond.code yX5_kind cX5_kind 3 (some Jvm.ClassFile.FieldType.int)) (mi_rm 3) D A (mo_W D A ad cf0 f g) [.ref (ad 1000020), .int (nI (a)), .int (nI (b))] 0 0 (fun r H => r = nI (sK S0 (sW S0) (8 * a + b)) ∧ ∃ f1 g1, mo_W D A ad cf0 f1 g1 H ∧ st_mo (S0) f1 g1 ∧ f1 0 = nI 0) := by
  refine mi_start (cc := cX5_kind) (nL := 3) (ret := (some Jvm.ClassFile.FieldType.int)) rfl (by decide) (Nat.le_of_ble_eq_true rfl) ?_
  intro p e s m below meth c ls S E hM hS hr hk hn hl
  have S : CallFix p m c cX5_kind 3 s _ ((Cond.code yX5_kind cX5_kind 3 (some Jvm.ClassFile.FieldType.int)) :: mi_G) RX5 := S
  have hl : lv_has ls 3 [(0, .ref (ad 1000020)), (1, .int (nI (a))), (2, .int (nI (b)))] := hl
  obtain ⟨⟨o1, o2, o3, o4, o5⟩, oP, oK, oD, oX, oC, oI⟩ := id hO
  have hw : sW S0 < 61 := by omega
  have hK := st_mo_K hR o3
  have hKb : ∀ j, j < 128 → sK S0 (sW S0) j < 4 := fun j hj => oK _ _ o3 hj
  refine lv_aload_n S.1 S.2.1 dX5_kind_0 rfl (lv_at hl 0 rfl) ?_
  refine lv_iload_n S.1 S.2.1 dX5_kind_1 rfl (lv_at hl 1 rfl) ?_
  refine mi_cR (mi_runS (P := mo_W D A ad cf0 f g) (As := [.int (nI (a))]) (rest := [.ref (ad 1000020)]) S E hS hM (c_misColumn_y l D A (mo_W D A ad cf0 f g) (by omega)) mw_733 mw_731 mw_732 mw_43 ⟨by decide, by decide, by decide +kernel⟩ ⟨rfl, rfl, Nat.le_of_ble_eq_true rfl, Nat.le_of_ble_eq_true rfl⟩ (n := 1) rfl hl.1 rfl (Nat.le_of_ble_eq_true rfl) dX5_kind_2 ⟨Nat.le_of_ble_eq_true rfl, Nat.le_of_ble_eq_true rfl⟩) (fun r9 e9 => ?_)
  subst e9
  refine mi_if_eq (tgt := 19) S (by omega) dX5_kind_5 (by decide) (fun c5_0 => by exfalso; omega) (fun c5_0 => ?_)
  refine lv_iload_n S.1 S.2.1 dX5_kind_8 rfl (lv_at hl 2 rfl) ?_
  refine mi_cR (mi_runS (P := mo_W D A ad cf0 f g) (As := [.int (nI (b))]) (rest := [.ref (ad 1000020)]) S E hS hM (c_misLevel_y l D A (mo_W D A ad cf0 f g) (by omega)) mw_739 mw_737 mw_738 mw_43 ⟨by decide, by decide, by decide +kernel⟩ ⟨rfl, rfl, Nat.le_of_ble_eq_true rfl, Nat.le_of_ble_eq_true rfl⟩ (n := 1) rfl hl.1 rfl (Nat.le_of_ble_eq_true rfl) dX5_kind_9 ⟨Nat.le_of_ble_eq_true rfl, Nat.le_of_ble_eq_true rfl⟩) (fun r9 e9 => ?_)
  subst e9
  refine mi_if_eq (tgt := 19) S (by omega) dX5_kind_12 (by decide) (fun c12_1 => by exfalso; omega) (fun c12_1 => ?_)
  refine lv_iconst (v := nI 0) S.1 S.2.1 dX5_kind_15 (by decide) ?_
  refine lv_goto (tgt := 20) S.1 S.2.1 dX5_kind_16 (by decide) ?_
  refine mo_p_44 S E hS hM dX5_kind_20 (fun H locs hM hS => ?_)
  refine lv_aload_n S.1 S.2.1 dX5_kind_23 rfl (lv_at hl 0 rfl) ?_
  refine mo_g_44 S E hM dX5_kind_24 ?_
  refine mi_top (v' := .int (nI (0))) (rfl) ?_
  refine mi_if_le (tgt := 34) S (by omega) dX5_kind_27 (by decide) (fun c27_3 => ?_) (fun c27_3 => by exfalso; omega)
  refine lv_aload_n S.1 S.2.1 dX5_kind_34 rfl (lv_at hl 0 rfl) ?_
  refine lv_iload_n S.1 S.2.1 dX5_kind_35 rfl (lv_at hl 1 rfl) ?_
  refine lv_iload_n S.1 S.2.1 dX5_kind_36 rfl (lv_at hl 2 rfl) ?_
  refine mi_cR (mi_runV (P := mo_W D A ad cf0 (upd f 0 (nI (0))) g) (As := [.int (nI (a)), .int (nI (b))]) (rest := []) S E hS hM (ad 1000020) (c_mkindNow l D A hw hR.1.2.1 (by omega) (by omega) (hK a b (by omega) (by omega))) (hM.recv E) mw_763 mw_760 mw_762 mw_19 mw_43 ⟨by decide, by decide, by decide +kernel⟩ ⟨rfl, rfl, Nat.le_of_ble_eq_true rfl, Nat.le_of_ble_eq_true rfl⟩ (n := 2) rfl hl.1 rfl (Nat.le_of_ble_eq_true rfl) dX5_kind_37 ⟨Nat.le_of_ble_eq_true rfl, Nat.le_of_ble_eq_true rfl⟩) (fun r9 e9 => ?_)
  subst e9
  exact mi_retMi S hr hk hS dX5_kind_40 (Nat.le_refl _) (Nat.le_refl _) ⟨rfl, (upd f 0 (nI (0))), g, hM, st_mo_0 hR _, rfl⟩
set_option maxHeartbeats 4000000 in
set_option maxRecDepth 100000 in
theorem c_mkind_1 (l : Launch) (D : va_G) (A : Nat → Prop) {ad : Nat → Nat} {cf0 : Nat → Option va_E} {f : Nat → Int32} {g : Nat → Nat → Int32} {S0 : sT} (hR : st_mo S0 f g) (hO : st_ok S0) {y : Int32} {x : Int32} (h9 : ¬ (0 ≤ x.toInt ∧ x.toInt ≤ 15)) : mi_Mi l yX5_kind (Cond.code yX5_kind cX5_kind 3 (some Jvm.ClassFile.FieldType.int)) (mi_rm 3) D A (mo_W D A ad cf0 f g) [.ref (ad 1000020), .int (x), .int (y)] 0 0 (fun r H => mo_W D A ad cf0 (upd f 0 (nI 1)) g H) := by
  refine mi_start (cc := cX5_kind) (nL := 3) (ret := (some Jvm.ClassFile.FieldType.int)) rfl (by decide) (Nat.le_of_ble_eq_true rfl) ?_
  intro p e s m below meth c ls S E hM hS hr hk hn hl
  have S : CallFix p m c cX5_kind 3 s _ ((Cond.code yX5_kind cX5_kind 3 (some Jvm.ClassFile.FieldType.int)) :: mi_G) RX5 := S
  have hl : lv_has ls 3 [(0, .ref (ad 1000020)), (1, .int (x)), (2, .int (y))] := hl
  obtain ⟨⟨o1, o2, o3, o4, o5⟩, oP, oK, oD, oX, oC, oI⟩ := id hO
  have hw : sW S0 < 61 := by omega
  have hK := st_mo_K hR o3
  have hKb : ∀ j, j < 128 → sK S0 (sW S0) j < 4 := fun j hj => oK _ _ o3 hj
  refine lv_aload_n S.1 S.2.1 dX5_kind_0 rfl (lv_at hl 0 rfl) ?_
  refine lv_iload_n S.1 S.2.1 dX5_kind_1 rfl (lv_at hl 1 rfl) ?_
  refine mi_cR (mi_runS (P := mo_W D A ad cf0 f g) (As := [.int (x)]) (rest := [.ref (ad 1000020)]) S E hS hM (c_misColumn_n l D A (mo_W D A ad cf0 f g) (h9)) mw_733 mw_731 mw_732 mw_43 ⟨by decide, by decide, by decide +kernel⟩ ⟨rfl, rfl, Nat.le_of_ble_eq_true rfl, Nat.le_of_ble_eq_true rfl⟩ (n := 1) rfl hl.1 rfl (Nat.le_of_ble_eq_true rfl) dX5_kind_2 ⟨Nat.le_of_ble_eq_true rfl, Nat.le_of_ble_eq_true rfl⟩) (fun r9 e9 => ?_)
  subst e9
  refine mi_if_eq (tgt := 19) S (by omega) dX5_kind_5 (by decide) (fun c5_0 => ?_) (fun c5_0 => by exfalso; omega)
  refine lv_iconst (v := nI 1) S.1 S.2.1 dX5_kind_19 (by decide) ?_
  refine mo_p_44 S E hS hM dX5_kind_20 (fun H locs hM hS => ?_)
  refine lv_aload_n S.1 S.2.1 dX5_kind_23 rfl (lv_at hl 0 rfl) ?_
  refine mo_g_44 S E hM dX5_kind_24 ?_
  refine mi_top (v' := .int (nI (1))) (rfl) ?_
  refine mi_if_le (tgt := 34) S (by omega) dX5_kind_27 (by decide) (fun c27_2 => by exfalso; omega) (fun c27_2 => ?_)
  refine lv_iconst (v := nI 0) S.1 S.2.1 dX5_kind_30 (by decide) ?_
  refine lv_goto (tgt := 40) S.1 S.2.1 dX5_kind_31 (by decide) ?_
  exact mi_retMi S hr hk hS dX5_kind_40 (Nat.le_refl _) (Nat.le_refl _) (hM)
set_option maxHeartbeats 4000000 in
set_option maxRecDepth 100000 in
theorem c_mkind_2 (l : Launch) (D : va_G) (A : Nat → Prop) {ad : Nat → Nat} {cf0 : Nat → Option va_E} {f : Nat → Int32} {g : Nat → Nat → Int32} {S0 : sT} (hR : st_mo S0 f g) (hO : st_ok S0) {a : Nat} (ha : a < 16) {x : Int32} (h9 : ¬ (0 ≤ x.toInt ∧ x.toInt ≤ 7)) : mi_Mi l yX5_kind (Cond.code yX5_kind cX5_kind 3 (some Jvm.ClassFile.FieldType.int)) (mi_rm 3) D A (mo_W D A ad cf0 f g) [.ref (ad 1000020), .int (nI (a)), .int (x)] 0 0 (fun r H => mo_W D A ad cf0 (upd f 0 (nI 1)) g H) := by
  refine mi_start (cc := cX5_kind) (nL := 3) (ret := (some Jvm.ClassFile.FieldType.int)) rfl (by decide) (Nat.le_of_ble_eq_true rfl) ?_
  intro p e s m below meth c ls S E hM hS hr hk hn hl
  have S : CallFix p m c cX5_kind 3 s _ ((Cond.code yX5_kind cX5_kind 3 (some Jvm.ClassFile.FieldType.int)) :: mi_G) RX5 := S
  have hl : lv_has ls 3 [(0, .ref (ad 1000020)), (1, .int (nI (a))), (2, .int (x))] := hl
  obtain ⟨⟨o1, o2, o3, o4, o5⟩, oP, oK, oD, oX, oC, oI⟩ := id hO
  have hw : sW S0 < 61 := by omega
  have hK := st_mo_K hR o3
  have hKb : ∀ j, j < 128 → sK S0 (sW S0) j < 4 := fun j hj => oK _ _ o3 hj
  refine lv_aload_n S.1 S.2.1 dX5_kind_0 rfl (lv_at hl 0 rfl) ?_
  refine lv_iload_n S.1 S.2.1 dX5_kind_1 rfl (lv_at hl 1 rfl) ?_
  refine mi_cR (mi_runS (P := mo_W D A ad cf0 f g) (As := [.int (nI (a))]) (rest := [.ref (ad 1000020)]) S E hS hM (c_misColumn_y l D A (mo_W D A ad cf0 f g) (by omega)) mw_733 mw_731 mw_732 mw_43 ⟨by decide, by decide, by decide +kernel⟩ ⟨rfl, rfl, Nat.le_of_ble_eq_true rfl, Nat.le_of_ble_eq_true rfl⟩ (n := 1) rfl hl.1 rfl (Nat.le_of_ble_eq_true rfl) dX5_kind_2 ⟨Nat.le_of_ble_eq_true rfl, Nat.le_of_ble_eq_true rfl⟩) (fun r9 e9 => ?_)
  subst e9
  refine mi_if_eq (tgt := 19) S (by omega) dX5_kind_5 (by decide) (fun c5_0 => by exfalso; omega) (fun c5_0 => ?_)
  refine lv_iload_n S.1 S.2.1 dX5_kind_8 rfl (lv_at hl 2 rfl) ?_
  refine mi_cR (mi_runS (P := mo_W D A ad cf0 f g) (As := [.int (x)]) (rest := [.ref (ad 1000020)]) S E hS hM (c_misLevel_n l D A (mo_W D A ad cf0 f g) (h9)) mw_739 mw_737 mw_738 mw_43 ⟨by decide, by decide, by decide +kernel⟩ ⟨rfl, rfl, Nat.le_of_ble_eq_true rfl, Nat.le_of_ble_eq_true rfl⟩ (n := 1) rfl hl.1 rfl (Nat.le_of_ble_eq_true rfl) dX5_kind_9 ⟨Nat.le_of_ble_eq_true rfl, Nat.le_of_ble_eq_true rfl⟩) (fun r9 e9 => ?_)
  subst e9
  refine mi_if_eq (tgt := 19) S (by omega) dX5_kind_12 (by decide) (fun c12_1 => ?_) (fun c12_1 => by exfalso; omega)
  refine lv_iconst (v := nI 1) S.1 S.2.1 dX5_kind_19 (by decide) ?_
  refine mo_p_44 S E hS hM dX5_kind_20 (fun H locs hM hS => ?_)
  refine lv_aload_n S.1 S.2.1 dX5_kind_23 rfl (lv_at hl 0 rfl) ?_
  refine mo_g_44 S E hM dX5_kind_24 ?_
  refine mi_top (v' := .int (nI (1))) (rfl) ?_
  refine mi_if_le (tgt := 34) S (by omega) dX5_kind_27 (by decide) (fun c27_3 => by exfalso; omega) (fun c27_3 => ?_)
  refine lv_iconst (v := nI 0) S.1 S.2.1 dX5_kind_30 (by decide) ?_
  refine lv_goto (tgt := 40) S.1 S.2.1 dX5_kind_31 (by decide) ?_
  exact mi_retMi S hr hk hS dX5_kind_40 (Nat.le_refl _) (Nat.le_refl _) (hM)
set_option maxHeartbeats 4000000 in
set_option maxRecDepth 100000 in
theorem c_mruns (l : Launch) (D : va_G) (A : Nat → Prop) {ad : Nat → Nat} {cf0 : Nat → Option va_E} {f : Nat → Int32} {g : Nat → Nat → Int32} {S0 : sT} (hR : st_mo S0 f g) (hO : st_ok S0) {a : Nat} (ha : a < 16) : mi_Mi l yX5_runs (Cond.code yX5_runs cX5_runs 2 (some Jvm.ClassFile.FieldType.int)) (mi_rm 3) D A (mo_W D A ad cf0 f g) [.ref (ad 1000020), .int (nI (a))] 0 0 (fun r H => r = nI (sp_runs (sK S0 (sW S0)) a) ∧ ∃ f1 g1, mo_W D A ad cf0 f1 g1 H ∧ st_mo (S0) f1 g1 ∧ f1 0 = nI 0) := by
  refine mi_start (cc := cX5_runs) (nL := 2) (ret := (some Jvm.ClassFile.FieldType.int)) rfl (by decide) (Nat.le_of_ble_eq_true rfl) ?_
  intro p e s m below meth c ls S E hM hS hr hk hn hl
  have S : CallFix p m c cX5_runs 2 s _ ((Cond.code yX5_runs cX5_runs 2 (some Jvm.ClassFile.FieldType.int)) :: mi_G) RX5 := S
  have hl : lv_has ls 2 [(0, .ref (ad 1000020)), (1, .int (nI (a)))] := hl
  obtain ⟨⟨o1, o2, o3, o4, o5⟩, oP, oK, oD, oX, oC, oI⟩ := id hO
  have hw : sW S0 < 61 := by omega
  have hK := st_mo_K hR o3
  have hKb : ∀ j, j < 128 → sK S0 (sW S0) j < 4 := fun j hj => oK _ _ o3 hj
  refine lv_aload_n S.1 S.2.1 dX5_runs_0 rfl (lv_at hl 0 rfl) ?_
  refine lv_iload_n S.1 S.2.1 dX5_runs_1 rfl (lv_at hl 1 rfl) ?_
  refine mi_cR (mi_runS (P := mo_W D A ad cf0 f g) (As := [.int (nI (a))]) (rest := [.ref (ad 1000020)]) S E hS hM (c_misColumn_y l D A (mo_W D A ad cf0 f g) (by omega)) mw_733 mw_731 mw_732 mw_43 ⟨by decide, by decide, by decide +kernel⟩ ⟨rfl, rfl, Nat.le_of_ble_eq_true rfl, Nat.le_of_ble_eq_true rfl⟩ (n := 1) rfl hl.1 rfl (Nat.le_of_ble_eq_true rfl) dX5_runs_2 ⟨Nat.le_of_ble_eq_true rfl, Nat.le_of_ble_eq_true rfl⟩) (fun r9 e9 => ?_)
  subst e9
  refine mi_if_eq (tgt := 12) S (by omega) dX5_runs_5 (by decide) (fun c5_0 => by exfalso; omega) (fun c5_0 => ?_)
  refine lv_iconst (v := nI 0) S.1 S.2.1 dX5_runs_8 (by decide) ?_
  refine lv_goto (tgt := 13) S.1 S.2.1 dX5_runs_9 (by decide) ?_
  refine mo_p_44 S E hS hM dX5_runs_13 (fun H locs hM hS => ?_)
  refine lv_aload_n S.1 S.2.1 dX5_runs_16 rfl (lv_at hl 0 rfl) ?_
  refine mo_g_44 S E hM dX5_runs_17 ?_
  refine mi_top (v' := .int (nI (0))) (rfl) ?_
  refine mi_if_le (tgt := 27) S (by omega) dX5_runs_20 (by decide) (fun c20_2 => ?_) (fun c20_2 => by exfalso; omega)
  refine lv_aload_n S.1 S.2.1 dX5_runs_27 rfl (lv_at hl 0 rfl) ?_
  refine lv_iload_n S.1 S.2.1 dX5_runs_28 rfl (lv_at hl 1 rfl) ?_
  refine mi_cR (mi_runV (P := mo_W D A ad cf0 (upd f 0 (nI (0))) g) (As := [.int (nI (a))]) (rest := []) S E hS hM (ad 1000020) (c_runsOf l D A (f := (upd f 0 (nI (0)))) (g := g) (w := sW S0) (K := sK S0 (sW S0)) hw hR.1.2.1 hK hKb ha) (hM.recv E) mw_775 mw_772 mw_774 mw_21 mw_43 ⟨by decide, by decide, by decide +kernel⟩ ⟨rfl, rfl, Nat.le_of_ble_eq_true rfl, Nat.le_of_ble_eq_true rfl⟩ (n := 1) rfl hl.1 rfl (Nat.le_of_ble_eq_true rfl) dX5_runs_29 ⟨Nat.le_of_ble_eq_true rfl, Nat.le_of_ble_eq_true rfl⟩) (fun r9 e9 => ?_)
  subst e9
  exact mi_retMi S hr hk hS dX5_runs_32 (Nat.le_refl _) (Nat.le_refl _) ⟨rfl, (upd f 0 (nI (0))), g, hM, st_mo_0 hR _, rfl⟩
set_option maxHeartbeats 4000000 in
set_option maxRecDepth 100000 in
theorem c_mruns_1 (l : Launch) (D : va_G) (A : Nat → Prop) {ad : Nat → Nat} {cf0 : Nat → Option va_E} {f : Nat → Int32} {g : Nat → Nat → Int32} {S0 : sT} (hR : st_mo S0 f g) (hO : st_ok S0) {x : Int32} (h9 : ¬ (0 ≤ x.toInt ∧ x.toInt ≤ 15)) : mi_Mi l yX5_runs (Cond.code yX5_runs cX5_runs 2 (some Jvm.ClassFile.FieldType.int)) (mi_rm 3) D A (mo_W D A ad cf0 f g) [.ref (ad 1000020), .int (x)] 0 0 (fun r H => mo_W D A ad cf0 (upd f 0 (nI 1)) g H) := by
  refine mi_start (cc := cX5_runs) (nL := 2) (ret := (some Jvm.ClassFile.FieldType.int)) rfl (by decide) (Nat.le_of_ble_eq_true rfl) ?_
  intro p e s m below meth c ls S E hM hS hr hk hn hl
  have S : CallFix p m c cX5_runs 2 s _ ((Cond.code yX5_runs cX5_runs 2 (some Jvm.ClassFile.FieldType.int)) :: mi_G) RX5 := S
  have hl : lv_has ls 2 [(0, .ref (ad 1000020)), (1, .int (x))] := hl
  obtain ⟨⟨o1, o2, o3, o4, o5⟩, oP, oK, oD, oX, oC, oI⟩ := id hO
  have hw : sW S0 < 61 := by omega
  have hK := st_mo_K hR o3
  have hKb : ∀ j, j < 128 → sK S0 (sW S0) j < 4 := fun j hj => oK _ _ o3 hj
  refine lv_aload_n S.1 S.2.1 dX5_runs_0 rfl (lv_at hl 0 rfl) ?_
  refine lv_iload_n S.1 S.2.1 dX5_runs_1 rfl (lv_at hl 1 rfl) ?_
  refine mi_cR (mi_runS (P := mo_W D A ad cf0 f g) (As := [.int (x)]) (rest := [.ref (ad 1000020)]) S E hS hM (c_misColumn_n l D A (mo_W D A ad cf0 f g) (h9)) mw_733 mw_731 mw_732 mw_43 ⟨by decide, by decide, by decide +kernel⟩ ⟨rfl, rfl, Nat.le_of_ble_eq_true rfl, Nat.le_of_ble_eq_true rfl⟩ (n := 1) rfl hl.1 rfl (Nat.le_of_ble_eq_true rfl) dX5_runs_2 ⟨Nat.le_of_ble_eq_true rfl, Nat.le_of_ble_eq_true rfl⟩) (fun r9 e9 => ?_)
  subst e9
  refine mi_if_eq (tgt := 12) S (by omega) dX5_runs_5 (by decide) (fun c5_0 => ?_) (fun c5_0 => by exfalso; omega)
  refine lv_iconst (v := nI 1) S.1 S.2.1 dX5_runs_12 (by decide) ?_
  refine mo_p_44 S E hS hM dX5_runs_13 (fun H locs hM hS => ?_)
  refine lv_aload_n S.1 S.2.1 dX5_runs_16 rfl (lv_at hl 0 rfl) ?_
  refine mo_g_44 S E hM dX5_runs_17 ?_
  refine mi_top (v' := .int (nI (1))) (rfl) ?_
  refine mi_if_le (tgt := 27) S (by omega) dX5_runs_20 (by decide) (fun c20_2 => by exfalso; omega) (fun c20_2 => ?_)
  refine lv_iconst (v := nI 0) S.1 S.2.1 dX5_runs_23 (by decide) ?_
  refine lv_goto (tgt := 32) S.1 S.2.1 dX5_runs_24 (by decide) ?_
  exact mi_retMi S hr hk hS dX5_runs_32 (Nat.le_refl _) (Nat.le_refl _) (hM)
set_option maxHeartbeats 4000000 in
set_option maxRecDepth 100000 in
theorem c_mheight (l : Launch) (D : va_G) (A : Nat → Prop) {ad : Nat → Nat} {cf0 : Nat → Option va_E} {f : Nat → Int32} {g : Nat → Nat → Int32} {S0 : sT} (hR : st_mo S0 f g) (hO : st_ok S0) {a : Nat} (ha : a < 16) : mi_Mi l yX5_height (Cond.code yX5_height cX5_height 2 (some Jvm.ClassFile.FieldType.int)) (mi_rm 3) D A (mo_W D A ad cf0 f g) [.ref (ad 1000020), .int (nI (a))] 0 0 (fun r H => r = nI (sp_h (sK S0 (sW S0)) a 8) ∧ ∃ f1 g1, mo_W D A ad cf0 f1 g1 H ∧ st_mo (S0) f1 g1 ∧ f1 0 = nI 0) := by
  refine mi_start (cc := cX5_height) (nL := 2) (ret := (some Jvm.ClassFile.FieldType.int)) rfl (by decide) (Nat.le_of_ble_eq_true rfl) ?_
  intro p e s m below meth c ls S E hM hS hr hk hn hl
  have S : CallFix p m c cX5_height 2 s _ ((Cond.code yX5_height cX5_height 2 (some Jvm.ClassFile.FieldType.int)) :: mi_G) RX5 := S
  have hl : lv_has ls 2 [(0, .ref (ad 1000020)), (1, .int (nI (a)))] := hl
  obtain ⟨⟨o1, o2, o3, o4, o5⟩, oP, oK, oD, oX, oC, oI⟩ := id hO
  have hw : sW S0 < 61 := by omega
  have hK := st_mo_K hR o3
  have hKb : ∀ j, j < 128 → sK S0 (sW S0) j < 4 := fun j hj => oK _ _ o3 hj
  refine lv_aload_n S.1 S.2.1 dX5_height_0 rfl (lv_at hl 0 rfl) ?_
  refine lv_iload_n S.1 S.2.1 dX5_height_1 rfl (lv_at hl 1 rfl) ?_
  refine mi_cR (mi_runS (P := mo_W D A ad cf0 f g) (As := [.int (nI (a))]) (rest := [.ref (ad 1000020)]) S E hS hM (c_misColumn_y l D A (mo_W D A ad cf0 f g) (by omega)) mw_733 mw_731 mw_732 mw_43 ⟨by decide, by decide, by decide +kernel⟩ ⟨rfl, rfl, Nat.le_of_ble_eq_true rfl, Nat.le_of_ble_eq_true rfl⟩ (n := 1) rfl hl.1 rfl (Nat.le_of_ble_eq_true rfl) dX5_height_2 ⟨Nat.le_of_ble_eq_true rfl, Nat.le_of_ble_eq_true rfl⟩) (fun r9 e9 => ?_)
  subst e9
  refine mi_if_eq (tgt := 12) S (by omega) dX5_height_5 (by decide) (fun c5_0 => by exfalso; omega) (fun c5_0 => ?_)
  refine lv_iconst (v := nI 0) S.1 S.2.1 dX5_height_8 (by decide) ?_
  refine lv_goto (tgt := 13) S.1 S.2.1 dX5_height_9 (by decide) ?_
  refine mo_p_44 S E hS hM dX5_height_13 (fun H locs hM hS => ?_)
  refine lv_aload_n S.1 S.2.1 dX5_height_16 rfl (lv_at hl 0 rfl) ?_
  refine mo_g_44 S E hM dX5_height_17 ?_
  refine mi_top (v' := .int (nI (0))) (rfl) ?_
  refine mi_if_le (tgt := 27) S (by omega) dX5_height_20 (by decide) (fun c20_2 => ?_) (fun c20_2 => by exfalso; omega)
  refine lv_aload_n S.1 S.2.1 dX5_height_27 rfl (lv_at hl 0 rfl) ?_
  refine lv_iload_n S.1 S.2.1 dX5_height_28 rfl (lv_at hl 1 rfl) ?_
  refine mi_cR (mi_runV (P := mo_W D A ad cf0 (upd f 0 (nI (0))) g) (As := [.int (nI (a))]) (rest := []) S E hS hM (ad 1000020) (c_heightNow l D A (f := (upd f 0 (nI (0)))) (g := g) (w := sW S0) (K := sK S0 (sW S0)) hw hR.1.2.1 hK hKb ha) (hM.recv E) mw_815 mw_812 mw_814 mw_26 mw_43 ⟨by decide, by decide, by decide +kernel⟩ ⟨rfl, rfl, Nat.le_of_ble_eq_true rfl, Nat.le_of_ble_eq_true rfl⟩ (n := 1) rfl hl.1 rfl (Nat.le_of_ble_eq_true rfl) dX5_height_29 ⟨Nat.le_of_ble_eq_true rfl, Nat.le_of_ble_eq_true rfl⟩) (fun r9 e9 => ?_)
  subst e9
  exact mi_retMi S hr hk hS dX5_height_32 (Nat.le_refl _) (Nat.le_refl _) ⟨rfl, (upd f 0 (nI (0))), g, hM, st_mo_0 hR _, rfl⟩
set_option maxHeartbeats 4000000 in
set_option maxRecDepth 100000 in
theorem c_mheight_1 (l : Launch) (D : va_G) (A : Nat → Prop) {ad : Nat → Nat} {cf0 : Nat → Option va_E} {f : Nat → Int32} {g : Nat → Nat → Int32} {S0 : sT} (hR : st_mo S0 f g) (hO : st_ok S0) {x : Int32} (h9 : ¬ (0 ≤ x.toInt ∧ x.toInt ≤ 15)) : mi_Mi l yX5_height (Cond.code yX5_height cX5_height 2 (some Jvm.ClassFile.FieldType.int)) (mi_rm 3) D A (mo_W D A ad cf0 f g) [.ref (ad 1000020), .int (x)] 0 0 (fun r H => mo_W D A ad cf0 (upd f 0 (nI 1)) g H) := by
  refine mi_start (cc := cX5_height) (nL := 2) (ret := (some Jvm.ClassFile.FieldType.int)) rfl (by decide) (Nat.le_of_ble_eq_true rfl) ?_
  intro p e s m below meth c ls S E hM hS hr hk hn hl
  have S : CallFix p m c cX5_height 2 s _ ((Cond.code yX5_height cX5_height 2 (some Jvm.ClassFile.FieldType.int)) :: mi_G) RX5 := S
  have hl : lv_has ls 2 [(0, .ref (ad 1000020)), (1, .int (x))] := hl
  obtain ⟨⟨o1, o2, o3, o4, o5⟩, oP, oK, oD, oX, oC, oI⟩ := id hO
  have hw : sW S0 < 61 := by omega
  have hK := st_mo_K hR o3
  have hKb : ∀ j, j < 128 → sK S0 (sW S0) j < 4 := fun j hj => oK _ _ o3 hj
  refine lv_aload_n S.1 S.2.1 dX5_height_0 rfl (lv_at hl 0 rfl) ?_
  refine lv_iload_n S.1 S.2.1 dX5_height_1 rfl (lv_at hl 1 rfl) ?_
  refine mi_cR (mi_runS (P := mo_W D A ad cf0 f g) (As := [.int (x)]) (rest := [.ref (ad 1000020)]) S E hS hM (c_misColumn_n l D A (mo_W D A ad cf0 f g) (h9)) mw_733 mw_731 mw_732 mw_43 ⟨by decide, by decide, by decide +kernel⟩ ⟨rfl, rfl, Nat.le_of_ble_eq_true rfl, Nat.le_of_ble_eq_true rfl⟩ (n := 1) rfl hl.1 rfl (Nat.le_of_ble_eq_true rfl) dX5_height_2 ⟨Nat.le_of_ble_eq_true rfl, Nat.le_of_ble_eq_true rfl⟩) (fun r9 e9 => ?_)
  subst e9
  refine mi_if_eq (tgt := 12) S (by omega) dX5_height_5 (by decide) (fun c5_0 => ?_) (fun c5_0 => by exfalso; omega)
  refine lv_iconst (v := nI 1) S.1 S.2.1 dX5_height_12 (by decide) ?_
  refine mo_p_44 S E hS hM dX5_height_13 (fun H locs hM hS => ?_)
  refine lv_aload_n S.1 S.2.1 dX5_height_16 rfl (lv_at hl 0 rfl) ?_
  refine mo_g_44 S E hM dX5_height_17 ?_
  refine mi_top (v' := .int (nI (1))) (rfl) ?_
  refine mi_if_le (tgt := 27) S (by omega) dX5_height_20 (by decide) (fun c20_2 => by exfalso; omega) (fun c20_2 => ?_)
  refine lv_iconst (v := nI 0) S.1 S.2.1 dX5_height_23 (by decide) ?_
  refine lv_goto (tgt := 32) S.1 S.2.1 dX5_height_24 (by decide) ?_
  exact mi_retMi S hr hk hS dX5_height_32 (Nat.le_refl _) (Nat.le_refl _) (hM)
set_option maxHeartbeats 4000000 in
set_option maxRecDepth 100000 in
theorem c_mrunLength (l : Launch) (D : va_G) (A : Nat → Prop) {ad : Nat → Nat} {cf0 : Nat → Option va_E} {f : Nat → Int32} {g : Nat → Nat → Int32} {S0 : sT} (hR : st_mo S0 f g) (hO : st_ok S0) {a : Nat} (ha : a < 16) {u : Nat} (hr9 : u < sp_runs (sK S0 (sW S0)) a) : mi_Mi l yX5_runLength (Cond.code yX5_runLength cX5_runLength 6 (some Jvm.ClassFile.FieldType.int)) (mi_rm 3) D A (mo_W D A ad cf0 f g) [.ref (ad 1000020), .int (nI (a)), .int (nI (u))] 0 0 (fun r H => r = nI (sp_rl (sK S0 (sW S0)) a u) ∧ ∃ f1 g1, mo_W D A ad cf0 f1 g1 H ∧ st_mo (S0) f1 g1 ∧ f1 0 = nI 0) := by
  refine mi_start (cc := cX5_runLength) (nL := 6) (ret := (some Jvm.ClassFile.FieldType.int)) rfl (by decide) (Nat.le_of_ble_eq_true rfl) ?_
  intro p e s m below meth c ls S E hM hS hr hk hn hl
  have S : CallFix p m c cX5_runLength 6 s _ ((Cond.code yX5_runLength cX5_runLength 6 (some Jvm.ClassFile.FieldType.int)) :: mi_G) RX5 := S
  have hl : lv_has ls 6 [(0, .ref (ad 1000020)), (1, .int (nI (a))), (2, .int (nI (u)))] := hl
  obtain ⟨⟨o1, o2, o3, o4, o5⟩, oP, oK, oD, oX, oC, oI⟩ := id hO
  have hw : sW S0 < 61 := by omega
  have hK := st_mo_K hR o3
  have hKb : ∀ j, j < 128 → sK S0 (sW S0) j < 4 := fun j hj => oK _ _ o3 hj
  have hrb : sp_runs (sK S0 (sW S0)) a ≤ 8 := by have := sp_ri_le (sK S0 (sW S0)) a 7; unfold sp_runs; omega
  refine lv_aload_n S.1 S.2.1 dX5_runLength_0 rfl (lv_at hl 0 rfl) ?_
  refine lv_iload_n S.1 S.2.1 dX5_runLength_1 rfl (lv_at hl 1 rfl) ?_
  refine mi_cR (mi_runS (P := mo_W D A ad cf0 f g) (As := [.int (nI (a))]) (rest := [.ref (ad 1000020)]) S E hS hM (c_misColumn_y l D A (mo_W D A ad cf0 f g) (by omega)) mw_733 mw_731 mw_732 mw_43 ⟨by decide, by decide, by decide +kernel⟩ ⟨rfl, rfl, Nat.le_of_ble_eq_true rfl, Nat.le_of_ble_eq_true rfl⟩ (n := 1) rfl hl.1 rfl (Nat.le_of_ble_eq_true rfl) dX5_runLength_2 ⟨Nat.le_of_ble_eq_true rfl, Nat.le_of_ble_eq_true rfl⟩) (fun r9 e9 => ?_)
  subst e9
  refine mi_if_eq (tgt := 27) S (by omega) dX5_runLength_5 (by decide) (fun c5_0 => by exfalso; omega) (fun c5_0 => ?_)
  refine lv_iload_n S.1 S.2.1 dX5_runLength_8 rfl (lv_at hl 2 rfl) ?_
  refine lv_iconst (v := nI 0) S.1 S.2.1 dX5_runLength_9 (by decide) ?_
  refine lv_aload_n S.1 S.2.1 dX5_runLength_10 rfl (lv_at hl 0 rfl) ?_
  refine lv_iload_n S.1 S.2.1 dX5_runLength_11 rfl (lv_at hl 1 rfl) ?_
  refine mi_cR (mi_runV (P := mo_W D A ad cf0 f g) (As := [.int (nI (a))]) (rest := [.int (nI (0)), .int (nI (u)), .ref (ad 1000020)]) S E hS hM (ad 1000020) (c_runsOf l D A (f := f) (g := g) (w := sW S0) (K := sK S0 (sW S0)) hw hR.1.2.1 hK hKb ha) (hM.recv E) mw_775 mw_772 mw_774 mw_21 mw_43 ⟨by decide, by decide, by decide +kernel⟩ ⟨rfl, rfl, Nat.le_of_ble_eq_true rfl, Nat.le_of_ble_eq_true rfl⟩ (n := 1) rfl hl.1 rfl (Nat.le_of_ble_eq_true rfl) dX5_runLength_12 ⟨Nat.le_of_ble_eq_true rfl, Nat.le_of_ble_eq_true rfl⟩) (fun r9 e9 => ?_)
  subst e9
  refine lv_iconst (v := nI 1) S.1 S.2.1 dX5_runLength_15 (by decide) ?_
  refine lv_isub S.1 S.2.1 dX5_runLength_16 ?_
  refine mi_cR (mi_runS (P := mo_W D A ad cf0 f g) (As := [.int (nI (u)), .int (nI (0)), .int ((nI (sp_runs (sK S0 (sW S0)) a)) - (nI (1)))]) (rest := [.ref (ad 1000020)]) S E hS hM (c_in_y l D A (mo_W D A ad cf0 f g) (by have := nI_toInt (n := u) (by omega); have := nI_toInt (n := 0) (by omega); have := pk_sub_toInt (a := sp_runs (sK S0 (sW S0)) a) (b := 1) (by omega) (by omega); omega)) mw_736 mw_734 mw_735 mw_43 ⟨by decide, by decide, by decide +kernel⟩ ⟨rfl, rfl, Nat.le_of_ble_eq_true rfl, Nat.le_of_ble_eq_true rfl⟩ (n := 3) rfl hl.1 rfl (Nat.le_of_ble_eq_true rfl) dX5_runLength_17 ⟨Nat.le_of_ble_eq_true rfl, Nat.le_of_ble_eq_true rfl⟩) (fun r9 e9 => ?_)
  subst e9
  refine mi_if_eq (tgt := 27) S (by omega) dX5_runLength_20 (by decide) (fun c20_1 => by exfalso; omega) (fun c20_1 => ?_)
  refine lv_iconst (v := nI 0) S.1 S.2.1 dX5_runLength_23 (by decide) ?_
  refine lv_goto (tgt := 28) S.1 S.2.1 dX5_runLength_24 (by decide) ?_
  refine mo_p_44 S E hS hM dX5_runLength_28 (fun H locs hM hS => ?_)
  refine lv_iconst (v := nI 0) S.1 S.2.1 dX5_runLength_31 (by decide) ?_
  refine lv_istore_n (lv' := [(3, .int (nI (0))), (0, .ref (ad 1000020)), (1, .int (nI (a))), (2, .int (nI (u)))]) S.1 S.2.1 dX5_runLength_32 rfl hl (by decide) rfl (fun ls hl => ?_)
  refine lv_iconst (v := nI 0) S.1 S.2.1 dX5_runLength_33 (by decide) ?_
  refine lv_istore (lv' := [(4, .int (nI (0))), (3, .int (nI (0))), (0, .ref (ad 1000020)), (1, .int (nI (a))), (2, .int (nI (u)))]) S.1 S.2.1 dX5_runLength_34 hl (by decide) rfl (fun ls hl => ?_)
  refine lv_iconst (v := nI 0) S.1 S.2.1 dX5_runLength_36 (by decide) ?_
  refine lv_istore (lv' := [(5, .int (nI (0))), (4, .int (nI (0))), (3, .int (nI (0))), (0, .ref (ad 1000020)), (1, .int (nI (a))), (2, .int (nI (u)))]) S.1 S.2.1 dX5_runLength_37 hl (by decide) rfl (fun ls hl => ?_)
  have lp39 : ∀ (n39 : Nat) (n : Nat) (t : Nat) (i : Nat) (ls : Array Slot), 8 - i < n39 → i ≤ 8 → t = sp_ri (sK S0 (sW S0)) a (i - 1) → n = fb_sm (fun j => if sp_ri (sK S0 (sW S0)) a j = u then 1 else 0) i → n ≤ i → lv_has ls 6 [(0, .ref (ad 1000020)), (1, .int (nI (a))), (2, .int (nI (u))), (3, .int (nI (n))), (4, .int (nI (t))), (5, .int (nI (i)))] → W p l e (mi_rm 3) s m ([.ref (ad 1000020), .int (nI (a)), .int (nI (u))] : List Value).toArray below meth c H locs 0 0 (MQ below (mi_Qi A (fun r H => r = nI (sp_rl (sK S0 (sW S0)) a u) ∧ ∃ f1 g1, mo_W D A ad cf0 f1 g1 H ∧ st_mo (S0) f1 g1 ∧ f1 0 = nI 0)) ([.ref (ad 1000020), .int (nI (a)), .int (nI (u))] : List Value).toArray s 0 0 A) (F0 m 39 ls []) := by
    intro n39
    induction n39 with
    | zero => intro n t i ls hm hi ht9 hn9 hnb  hl; exact absurd hm (Nat.not_lt_zero _)
    | succ n39 ih39 =>
      intro n t i ls hm hi ht9 hn9 hnb  hl
      refine lv_iload S.1 S.2.1 dX5_runLength_39 (lv_at hl 5 rfl) ?_
      refine lv_bipush (v := nI 8) S.1 S.2.1 dX5_runLength_41 (by decide) ?_
      refine mi_icmp_ge (tgt := 107) S (by omega) (by omega) dX5_runLength_43 (by decide) (fun c43_3 => ?_) (fun c43_3 => ?_)
      · refine lv_iload_n S.1 S.2.1 dX5_runLength_107 rfl (lv_at hl 3 rfl) ?_
        exact mi_retMi S hr hk hS dX5_runLength_108 (Nat.le_refl _) (Nat.le_refl _) ⟨by rw [hn9, show i = 8 by omega]; rfl, (upd f 0 (nI (0))), g, hM, st_mo_0 hR _, rfl⟩
      · refine lv_aload_n S.1 S.2.1 dX5_runLength_46 rfl (lv_at hl 0 rfl) ?_
        refine mo_g_44 S E hM dX5_runLength_47 ?_
        refine mi_top (v' := .int (nI (0))) (rfl) ?_
        refine mi_if_ne (tgt := 107) S (by omega) dX5_runLength_50 (by decide) (fun c50_4 => by exfalso; omega) (fun c50_4 => ?_)
        refine lv_iload S.1 S.2.1 dX5_runLength_53 (lv_at hl 4 rfl) ?_
        refine lv_iload S.1 S.2.1 dX5_runLength_55 (lv_at hl 5 rfl) ?_
        have hr1 := sp_ri_le (sK S0 (sW S0)) a (i - 1)
        have hb1 := hKb (8 * a + i) (by omega)
        have hb2 := hKb (8 * a + (i - 1)) (by omega)
        refine mi_if_le (tgt := 83) S (by omega) dX5_runLength_57 (by decide) (fun c57_5 => ?_) (fun c57_5 => ?_)
        · refine lv_iconst (v := nI 0) S.1 S.2.1 dX5_runLength_83 (by decide) ?_
          refine mi_iadd S dX5_runLength_84 ?_
          refine lv_istore (lv' := [(4, .int (nI (t + 0))), (0, .ref (ad 1000020)), (1, .int (nI (a))), (2, .int (nI (u))), (3, .int (nI (n))), (5, .int (nI (i)))]) S.1 S.2.1 dX5_runLength_85 hl (by decide) rfl (fun ls hl => ?_)
          refine lv_iload_n S.1 S.2.1 dX5_runLength_87 rfl (lv_at hl 4 rfl) ?_
          refine lv_iload S.1 S.2.1 dX5_runLength_88 (lv_at hl 0 rfl) ?_
          refine lv_iload_n S.1 S.2.1 dX5_runLength_90 rfl (lv_at hl 3 rfl) ?_
          refine mi_icmp_ne (tgt := 98) S (by omega) (by omega) dX5_runLength_91 (by decide) (fun c91_6 => ?_) (fun c91_6 => ?_)
          · refine lv_iconst (v := nI 0) S.1 S.2.1 dX5_runLength_98 (by decide) ?_
            refine mi_iadd S dX5_runLength_99 ?_
            refine lv_istore_n (lv' := [(3, .int (nI (n + 0))), (4, .int (nI (t + 0))), (0, .ref (ad 1000020)), (1, .int (nI (a))), (2, .int (nI (u))), (5, .int (nI (i)))]) S.1 S.2.1 dX5_runLength_100 rfl hl (by decide) rfl (fun ls hl => ?_)
            refine lv_iinc (v := nI (i + 1)) (lv' := [(5, .int (nI (i + 1))), (3, .int (nI (n + 0))), (4, .int (nI (t + 0))), (0, .ref (ad 1000020)), (1, .int (nI (a))), (2, .int (nI (u)))]) S.1 S.2.1 dX5_runLength_101 hl (k := 5) rfl (mi_inc _) (by decide) rfl (fun ls hl => ?_)
            refine lv_goto (tgt := 39) S.1 S.2.1 dX5_runLength_104 (by decide) ?_
            exact ih39 (n + 0) (t + 0) (i + 1) _ (by omega) (by omega) (by rw [show i + 1 - 1 = i by omega]; first | (have h0 : i = 0 := (by omega); subst h0; exact ht9) | (rw [show i = (i - 1) + 1 by omega, sp_ri_succ, ← ht9]; unfold sp_ne; rw [show 8 * a + (i - 1) + 1 = 8 * a + i by omega]; first | (rw [if_pos (by omega)] <;> omega) | (rw [if_neg (by omega)] <;> omega))) (by have e9 : t + 0 = sp_ri (sK S0 (sW S0)) a i := (by first | (have h0 : i = 0 := (by omega); subst h0; exact ht9) | (rw [show i = (i - 1) + 1 by omega, sp_ri_succ, ← ht9]; unfold sp_ne; rw [show 8 * a + (i - 1) + 1 = 8 * a + i by omega]; first | (rw [if_pos (by omega)] <;> omega) | (rw [if_neg (by omega)] <;> omega))); rw [fb_sm_succ, ← hn9]; first | (rw [if_pos (by omega)]) | (rw [if_neg (by omega)])) (by omega)  (lv_sub hl [3, 4, 5, 1, 2, 0] rfl)
          · refine lv_iconst (v := nI 1) S.1 S.2.1 dX5_runLength_94 (by decide) ?_
            refine lv_goto (tgt := 99) S.1 S.2.1 dX5_runLength_95 (by decide) ?_
            refine mi_iadd S dX5_runLength_99 ?_
            refine lv_istore_n (lv' := [(3, .int (nI (n + 1))), (4, .int (nI (t + 0))), (0, .ref (ad 1000020)), (1, .int (nI (a))), (2, .int (nI (u))), (5, .int (nI (i)))]) S.1 S.2.1 dX5_runLength_100 rfl hl (by decide) rfl (fun ls hl => ?_)
            refine lv_iinc (v := nI (i + 1)) (lv' := [(5, .int (nI (i + 1))), (3, .int (nI (n + 1))), (4, .int (nI (t + 0))), (0, .ref (ad 1000020)), (1, .int (nI (a))), (2, .int (nI (u)))]) S.1 S.2.1 dX5_runLength_101 hl (k := 5) rfl (mi_inc _) (by decide) rfl (fun ls hl => ?_)
            refine lv_goto (tgt := 39) S.1 S.2.1 dX5_runLength_104 (by decide) ?_
            exact ih39 (n + 1) (t + 0) (i + 1) _ (by omega) (by omega) (by rw [show i + 1 - 1 = i by omega]; first | (have h0 : i = 0 := (by omega); subst h0; exact ht9) | (rw [show i = (i - 1) + 1 by omega, sp_ri_succ, ← ht9]; unfold sp_ne; rw [show 8 * a + (i - 1) + 1 = 8 * a + i by omega]; first | (rw [if_pos (by omega)] <;> omega) | (rw [if_neg (by omega)] <;> omega))) (by have e9 : t + 0 = sp_ri (sK S0 (sW S0)) a i := (by first | (have h0 : i = 0 := (by omega); subst h0; exact ht9) | (rw [show i = (i - 1) + 1 by omega, sp_ri_succ, ← ht9]; unfold sp_ne; rw [show 8 * a + (i - 1) + 1 = 8 * a + i by omega]; first | (rw [if_pos (by omega)] <;> omega) | (rw [if_neg (by omega)] <;> omega))); rw [fb_sm_succ, ← hn9]; first | (rw [if_pos (by omega)]) | (rw [if_neg (by omega)])) (by omega)  (lv_sub hl [3, 4, 5, 1, 2, 0] rfl)
        · refine lv_aload_n S.1 S.2.1 dX5_runLength_60 rfl (lv_at hl 0 rfl) ?_
          refine lv_iload_n S.1 S.2.1 dX5_runLength_61 rfl (lv_at hl 1 rfl) ?_
          refine lv_iload S.1 S.2.1 dX5_runLength_62 (lv_at hl 5 rfl) ?_
          refine mi_cR (mi_runV (P := mo_W D A ad cf0 (upd f 0 (nI (0))) g) (As := [.int (nI (a)), .int (nI (i))]) (rest := [.int (nI (t))]) S E hS hM (ad 1000020) (c_mkindNow l D A hw hR.1.2.1 (by omega) (by omega) (hK a i (by omega) (by omega))) (hM.recv E) mw_763 mw_760 mw_762 mw_19 mw_43 ⟨by decide, by decide, by decide +kernel⟩ ⟨rfl, rfl, Nat.le_of_ble_eq_true rfl, Nat.le_of_ble_eq_true rfl⟩ (n := 2) rfl hl.1 rfl (Nat.le_of_ble_eq_true rfl) dX5_runLength_64 ⟨Nat.le_of_ble_eq_true rfl, Nat.le_of_ble_eq_true rfl⟩) (fun r9 e9 => ?_)
          subst e9
          refine lv_aload_n S.1 S.2.1 dX5_runLength_67 rfl (lv_at hl 0 rfl) ?_
          refine lv_iload_n S.1 S.2.1 dX5_runLength_68 rfl (lv_at hl 1 rfl) ?_
          refine lv_iload S.1 S.2.1 dX5_runLength_69 (lv_at hl 5 rfl) ?_
          refine lv_iconst (v := nI 1) S.1 S.2.1 dX5_runLength_71 (by decide) ?_
          refine mi_isub S (by omega) dX5_runLength_72 ?_
          refine mi_cR (mi_runV (P := mo_W D A ad cf0 (upd f 0 (nI (0))) g) (As := [.int (nI (a)), .int (nI (i - 1))]) (rest := [.int (nI (sK S0 (sW S0) (8 * a + i))), .int (nI (t))]) S E hS hM (ad 1000020) (c_mkindNow l D A hw hR.1.2.1 (by omega) (by omega) (hK a (i - 1) (by omega) (by omega))) (hM.recv E) mw_763 mw_760 mw_762 mw_19 mw_43 ⟨by decide, by decide, by decide +kernel⟩ ⟨rfl, rfl, Nat.le_of_ble_eq_true rfl, Nat.le_of_ble_eq_true rfl⟩ (n := 2) rfl hl.1 rfl (Nat.le_of_ble_eq_true rfl) dX5_runLength_73 ⟨Nat.le_of_ble_eq_true rfl, Nat.le_of_ble_eq_true rfl⟩) (fun r9 e9 => ?_)
          subst e9
          refine mi_icmp_eq (tgt := 83) S (by omega) (by omega) dX5_runLength_76 (by decide) (fun c76_7 => ?_) (fun c76_7 => ?_)
          · refine lv_iconst (v := nI 0) S.1 S.2.1 dX5_runLength_83 (by decide) ?_
            refine mi_iadd S dX5_runLength_84 ?_
            refine lv_istore (lv' := [(4, .int (nI (t + 0))), (0, .ref (ad 1000020)), (1, .int (nI (a))), (2, .int (nI (u))), (3, .int (nI (n))), (5, .int (nI (i)))]) S.1 S.2.1 dX5_runLength_85 hl (by decide) rfl (fun ls hl => ?_)
            refine lv_iload_n S.1 S.2.1 dX5_runLength_87 rfl (lv_at hl 4 rfl) ?_
            refine lv_iload S.1 S.2.1 dX5_runLength_88 (lv_at hl 0 rfl) ?_
            refine lv_iload_n S.1 S.2.1 dX5_runLength_90 rfl (lv_at hl 3 rfl) ?_
            refine mi_icmp_ne (tgt := 98) S (by omega) (by omega) dX5_runLength_91 (by decide) (fun c91_8 => ?_) (fun c91_8 => ?_)
            · refine lv_iconst (v := nI 0) S.1 S.2.1 dX5_runLength_98 (by decide) ?_
              refine mi_iadd S dX5_runLength_99 ?_
              refine lv_istore_n (lv' := [(3, .int (nI (n + 0))), (4, .int (nI (t + 0))), (0, .ref (ad 1000020)), (1, .int (nI (a))), (2, .int (nI (u))), (5, .int (nI (i)))]) S.1 S.2.1 dX5_runLength_100 rfl hl (by decide) rfl (fun ls hl => ?_)
              refine lv_iinc (v := nI (i + 1)) (lv' := [(5, .int (nI (i + 1))), (3, .int (nI (n + 0))), (4, .int (nI (t + 0))), (0, .ref (ad 1000020)), (1, .int (nI (a))), (2, .int (nI (u)))]) S.1 S.2.1 dX5_runLength_101 hl (k := 5) rfl (mi_inc _) (by decide) rfl (fun ls hl => ?_)
              refine lv_goto (tgt := 39) S.1 S.2.1 dX5_runLength_104 (by decide) ?_
              exact ih39 (n + 0) (t + 0) (i + 1) _ (by omega) (by omega) (by rw [show i + 1 - 1 = i by omega]; first | (have h0 : i = 0 := (by omega); subst h0; exact ht9) | (rw [show i = (i - 1) + 1 by omega, sp_ri_succ, ← ht9]; unfold sp_ne; rw [show 8 * a + (i - 1) + 1 = 8 * a + i by omega]; first | (rw [if_pos (by omega)] <;> omega) | (rw [if_neg (by omega)] <;> omega))) (by have e9 : t + 0 = sp_ri (sK S0 (sW S0)) a i := (by first | (have h0 : i = 0 := (by omega); subst h0; exact ht9) | (rw [show i = (i - 1) + 1 by omega, sp_ri_succ, ← ht9]; unfold sp_ne; rw [show 8 * a + (i - 1) + 1 = 8 * a + i by omega]; first | (rw [if_pos (by omega)] <;> omega) | (rw [if_neg (by omega)] <;> omega))); rw [fb_sm_succ, ← hn9]; first | (rw [if_pos (by omega)]) | (rw [if_neg (by omega)])) (by omega)  (lv_sub hl [3, 4, 5, 1, 2, 0] rfl)
            · refine lv_iconst (v := nI 1) S.1 S.2.1 dX5_runLength_94 (by decide) ?_
              refine lv_goto (tgt := 99) S.1 S.2.1 dX5_runLength_95 (by decide) ?_
              refine mi_iadd S dX5_runLength_99 ?_
              refine lv_istore_n (lv' := [(3, .int (nI (n + 1))), (4, .int (nI (t + 0))), (0, .ref (ad 1000020)), (1, .int (nI (a))), (2, .int (nI (u))), (5, .int (nI (i)))]) S.1 S.2.1 dX5_runLength_100 rfl hl (by decide) rfl (fun ls hl => ?_)
              refine lv_iinc (v := nI (i + 1)) (lv' := [(5, .int (nI (i + 1))), (3, .int (nI (n + 1))), (4, .int (nI (t + 0))), (0, .ref (ad 1000020)), (1, .int (nI (a))), (2, .int (nI (u)))]) S.1 S.2.1 dX5_runLength_101 hl (k := 5) rfl (mi_inc _) (by decide) rfl (fun ls hl => ?_)
              refine lv_goto (tgt := 39) S.1 S.2.1 dX5_runLength_104 (by decide) ?_
              exact ih39 (n + 1) (t + 0) (i + 1) _ (by omega) (by omega) (by rw [show i + 1 - 1 = i by omega]; first | (have h0 : i = 0 := (by omega); subst h0; exact ht9) | (rw [show i = (i - 1) + 1 by omega, sp_ri_succ, ← ht9]; unfold sp_ne; rw [show 8 * a + (i - 1) + 1 = 8 * a + i by omega]; first | (rw [if_pos (by omega)] <;> omega) | (rw [if_neg (by omega)] <;> omega))) (by have e9 : t + 0 = sp_ri (sK S0 (sW S0)) a i := (by first | (have h0 : i = 0 := (by omega); subst h0; exact ht9) | (rw [show i = (i - 1) + 1 by omega, sp_ri_succ, ← ht9]; unfold sp_ne; rw [show 8 * a + (i - 1) + 1 = 8 * a + i by omega]; first | (rw [if_pos (by omega)] <;> omega) | (rw [if_neg (by omega)] <;> omega))); rw [fb_sm_succ, ← hn9]; first | (rw [if_pos (by omega)]) | (rw [if_neg (by omega)])) (by omega)  (lv_sub hl [3, 4, 5, 1, 2, 0] rfl)
          · refine lv_iconst (v := nI 1) S.1 S.2.1 dX5_runLength_79 (by decide) ?_
            refine lv_goto (tgt := 84) S.1 S.2.1 dX5_runLength_80 (by decide) ?_
            refine mi_iadd S dX5_runLength_84 ?_
            refine lv_istore (lv' := [(4, .int (nI (t + 1))), (0, .ref (ad 1000020)), (1, .int (nI (a))), (2, .int (nI (u))), (3, .int (nI (n))), (5, .int (nI (i)))]) S.1 S.2.1 dX5_runLength_85 hl (by decide) rfl (fun ls hl => ?_)
            refine lv_iload_n S.1 S.2.1 dX5_runLength_87 rfl (lv_at hl 4 rfl) ?_
            refine lv_iload S.1 S.2.1 dX5_runLength_88 (lv_at hl 0 rfl) ?_
            refine lv_iload_n S.1 S.2.1 dX5_runLength_90 rfl (lv_at hl 3 rfl) ?_
            refine mi_icmp_ne (tgt := 98) S (by omega) (by omega) dX5_runLength_91 (by decide) (fun c91_9 => ?_) (fun c91_9 => ?_)
            · refine lv_iconst (v := nI 0) S.1 S.2.1 dX5_runLength_98 (by decide) ?_
              refine mi_iadd S dX5_runLength_99 ?_
              refine lv_istore_n (lv' := [(3, .int (nI (n + 0))), (4, .int (nI (t + 1))), (0, .ref (ad 1000020)), (1, .int (nI (a))), (2, .int (nI (u))), (5, .int (nI (i)))]) S.1 S.2.1 dX5_runLength_100 rfl hl (by decide) rfl (fun ls hl => ?_)
              refine lv_iinc (v := nI (i + 1)) (lv' := [(5, .int (nI (i + 1))), (3, .int (nI (n + 0))), (4, .int (nI (t + 1))), (0, .ref (ad 1000020)), (1, .int (nI (a))), (2, .int (nI (u)))]) S.1 S.2.1 dX5_runLength_101 hl (k := 5) rfl (mi_inc _) (by decide) rfl (fun ls hl => ?_)
              refine lv_goto (tgt := 39) S.1 S.2.1 dX5_runLength_104 (by decide) ?_
              exact ih39 (n + 0) (t + 1) (i + 1) _ (by omega) (by omega) (by rw [show i + 1 - 1 = i by omega]; first | (have h0 : i = 0 := (by omega); subst h0; exact ht9) | (rw [show i = (i - 1) + 1 by omega, sp_ri_succ, ← ht9]; unfold sp_ne; rw [show 8 * a + (i - 1) + 1 = 8 * a + i by omega]; first | (rw [if_pos (by omega)] <;> omega) | (rw [if_neg (by omega)] <;> omega))) (by have e9 : t + 1 = sp_ri (sK S0 (sW S0)) a i := (by first | (have h0 : i = 0 := (by omega); subst h0; exact ht9) | (rw [show i = (i - 1) + 1 by omega, sp_ri_succ, ← ht9]; unfold sp_ne; rw [show 8 * a + (i - 1) + 1 = 8 * a + i by omega]; first | (rw [if_pos (by omega)] <;> omega) | (rw [if_neg (by omega)] <;> omega))); rw [fb_sm_succ, ← hn9]; first | (rw [if_pos (by omega)]) | (rw [if_neg (by omega)])) (by omega)  (lv_sub hl [3, 4, 5, 1, 2, 0] rfl)
            · refine lv_iconst (v := nI 1) S.1 S.2.1 dX5_runLength_94 (by decide) ?_
              refine lv_goto (tgt := 99) S.1 S.2.1 dX5_runLength_95 (by decide) ?_
              refine mi_iadd S dX5_runLength_99 ?_
              refine lv_istore_n (lv' := [(3, .int (nI (n + 1))), (4, .int (nI (t + 1))), (0, .ref (ad 1000020)), (1, .int (nI (a))), (2, .int (nI (u))), (5, .int (nI (i)))]) S.1 S.2.1 dX5_runLength_100 rfl hl (by decide) rfl (fun ls hl => ?_)
              refine lv_iinc (v := nI (i + 1)) (lv' := [(5, .int (nI (i + 1))), (3, .int (nI (n + 1))), (4, .int (nI (t + 1))), (0, .ref (ad 1000020)), (1, .int (nI (a))), (2, .int (nI (u)))]) S.1 S.2.1 dX5_runLength_101 hl (k := 5) rfl (mi_inc _) (by decide) rfl (fun ls hl => ?_)
              refine lv_goto (tgt := 39) S.1 S.2.1 dX5_runLength_104 (by decide) ?_
              exact ih39 (n + 1) (t + 1) (i + 1) _ (by omega) (by omega) (by rw [show i + 1 - 1 = i by omega]; first | (have h0 : i = 0 := (by omega); subst h0; exact ht9) | (rw [show i = (i - 1) + 1 by omega, sp_ri_succ, ← ht9]; unfold sp_ne; rw [show 8 * a + (i - 1) + 1 = 8 * a + i by omega]; first | (rw [if_pos (by omega)] <;> omega) | (rw [if_neg (by omega)] <;> omega))) (by have e9 : t + 1 = sp_ri (sK S0 (sW S0)) a i := (by first | (have h0 : i = 0 := (by omega); subst h0; exact ht9) | (rw [show i = (i - 1) + 1 by omega, sp_ri_succ, ← ht9]; unfold sp_ne; rw [show 8 * a + (i - 1) + 1 = 8 * a + i by omega]; first | (rw [if_pos (by omega)] <;> omega) | (rw [if_neg (by omega)] <;> omega))); rw [fb_sm_succ, ← hn9]; first | (rw [if_pos (by omega)]) | (rw [if_neg (by omega)])) (by omega)  (lv_sub hl [3, 4, 5, 1, 2, 0] rfl)
  exact lp39 _ 0 0 0 _ (Nat.lt_succ_self _) (by omega) (by rfl) (by rfl) (by omega)  (lv_sub hl [3, 4, 5, 2, 1, 0] rfl)
