/-! the reference's dies and coins -/
set_option maxHeartbeats 4000000 in
set_option maxRecDepth 100000 in
theorem c_mdieHeight (l : Launch) (D : va_G) (A : Nat → Prop) {ad : Nat → Nat} {cf0 : Nat → Option va_E} {f : Nat → Int32} {g : Nat → Nat → Int32} {S0 : sT} (hR : st_mo S0 f g) (hO : st_ok S0) {d : Nat} (hd : d < sD S0) {b : Nat} (hb : b < 16) : mi_Mi l yX5_dieHeight (Cond.code yX5_dieHeight cX5_dieHeight 3 (some Jvm.ClassFile.FieldType.int)) (mi_rm 3) D A (mo_W D A ad cf0 f g) [.ref (ad 1000020), .int (nI (d)), .int (nI (b))] 0 0 (fun r H => r = nI (sH S0 d b) ∧ ∃ f1 g1, mo_W D A ad cf0 f1 g1 H ∧ st_mo (S0) f1 g1 ∧ f1 0 = nI 0) := by
  refine mi_start (cc := cX5_dieHeight) (nL := 3) (ret := (some Jvm.ClassFile.FieldType.int)) rfl (by decide) (Nat.le_of_ble_eq_true rfl) ?_
  intro p e s m below meth c ls S E hM hS hr hk hn hl
  have S : CallFix p m c cX5_dieHeight 3 s _ ((Cond.code yX5_dieHeight cX5_dieHeight 3 (some Jvm.ClassFile.FieldType.int)) :: mi_G) RX5 := S
  have hl : lv_has ls 3 [(0, .ref (ad 1000020)), (1, .int (nI (d))), (2, .int (nI (b)))] := hl
  obtain ⟨⟨o1, o2, o3, o4, o5⟩, oP, oK, oD, oX, oC, oI⟩ := id hO
  have hw : sW S0 < 61 := by omega
  have hK := st_mo_K hR o3
  have hKb : ∀ j, j < 128 → sK S0 (sW S0) j < 4 := fun j hj => oK _ _ o3 hj
  refine lv_aload_n S.1 S.2.1 dX5_dieHeight_0 rfl (lv_at hl 0 rfl) ?_
  refine lv_aload_n S.1 S.2.1 dX5_dieHeight_1 rfl (lv_at hl 0 rfl) ?_
  refine lv_iload_n S.1 S.2.1 dX5_dieHeight_2 rfl (lv_at hl 1 rfl) ?_
  refine mi_cR (mi_runV (P := mo_W D A ad cf0 f g) (As := [.int (nI (d))]) (rest := [.ref (ad 1000020)]) S E hS hM (ad 1000020) (c_isDie_y l D A (f := f) (g := g) (n := sD S0) hR.1.2.2.1 (by omega) (by omega)) (hM.recv E) mw_863 mw_860 mw_862 mw_29 mw_43 ⟨by decide, by decide, by decide +kernel⟩ ⟨rfl, rfl, Nat.le_of_ble_eq_true rfl, Nat.le_of_ble_eq_true rfl⟩ (n := 1) rfl hl.1 rfl (Nat.le_of_ble_eq_true rfl) dX5_dieHeight_3 ⟨Nat.le_of_ble_eq_true rfl, Nat.le_of_ble_eq_true rfl⟩) (fun r9 e9 => ?_)
  subst e9
  refine mi_if_eq (tgt := 20) S (by omega) dX5_dieHeight_6 (by decide) (fun c6_0 => by exfalso; omega) (fun c6_0 => ?_)
  refine lv_iload_n S.1 S.2.1 dX5_dieHeight_9 rfl (lv_at hl 2 rfl) ?_
  refine mi_cR (mi_runS (P := mo_W D A ad cf0 f g) (As := [.int (nI (b))]) (rest := [.ref (ad 1000020)]) S E hS hM (c_misColumn_y l D A (mo_W D A ad cf0 f g) (by omega)) mw_733 mw_731 mw_732 mw_43 ⟨by decide, by decide, by decide +kernel⟩ ⟨rfl, rfl, Nat.le_of_ble_eq_true rfl, Nat.le_of_ble_eq_true rfl⟩ (n := 1) rfl hl.1 rfl (Nat.le_of_ble_eq_true rfl) dX5_dieHeight_10 ⟨Nat.le_of_ble_eq_true rfl, Nat.le_of_ble_eq_true rfl⟩) (fun r9 e9 => ?_)
  subst e9
  refine mi_if_eq (tgt := 20) S (by omega) dX5_dieHeight_13 (by decide) (fun c13_1 => by exfalso; omega) (fun c13_1 => ?_)
  refine lv_iconst (v := nI 0) S.1 S.2.1 dX5_dieHeight_16 (by decide) ?_
  refine lv_goto (tgt := 21) S.1 S.2.1 dX5_dieHeight_17 (by decide) ?_
  refine mo_p_44 S E hS hM dX5_dieHeight_21 (fun H locs hM hS => ?_)
  refine lv_aload_n S.1 S.2.1 dX5_dieHeight_24 rfl (lv_at hl 0 rfl) ?_
  refine mo_g_44 S E hM dX5_dieHeight_25 ?_
  refine mi_top (v' := .int (nI (0))) (rfl) ?_
  refine mi_if_le (tgt := 35) S (by omega) dX5_dieHeight_28 (by decide) (fun c28_3 => ?_) (fun c28_3 => by exfalso; omega)
  refine lv_aload_n S.1 S.2.1 dX5_dieHeight_35 rfl (lv_at hl 0 rfl) ?_
  refine mo_g_26 S E hM dX5_dieHeight_36 ?_
  refine lv_bipush (v := nI 16) S.1 S.2.1 dX5_dieHeight_39 (by decide) ?_
  refine lv_iload_n S.1 S.2.1 dX5_dieHeight_41 rfl (lv_at hl 1 rfl) ?_
  refine mi_imul S dX5_dieHeight_42 ?_
  refine lv_iload_n S.1 S.2.1 dX5_dieHeight_43 rfl (lv_at hl 2 rfl) ?_
  refine mi_iadd S dX5_dieHeight_44 ?_
  refine mo_ald 8 S E hM rfl (by show _ < 128; omega) dX5_dieHeight_45 ?_
  refine mi_top (v' := .int (nI (sH S0 d b))) (congrArg Value.int (st_dh hR (by omega) (by omega))) ?_
  exact mi_retMi S hr hk hS dX5_dieHeight_46 (Nat.le_refl _) (Nat.le_refl _) ⟨rfl, (upd f 0 (nI (0))), g, hM, st_mo_0 hR _, rfl⟩
set_option maxHeartbeats 4000000 in
set_option maxRecDepth 100000 in
theorem c_mdieHeight_1 (l : Launch) (D : va_G) (A : Nat → Prop) {ad : Nat → Nat} {cf0 : Nat → Option va_E} {f : Nat → Int32} {g : Nat → Nat → Int32} {S0 : sT} (hR : st_mo S0 f g) (hO : st_ok S0) {y : Int32} {x : Int32} (h9 : ¬ (0 ≤ x.toInt ∧ x.toInt < sD S0)) : mi_Mi l yX5_dieHeight (Cond.code yX5_dieHeight cX5_dieHeight 3 (some Jvm.ClassFile.FieldType.int)) (mi_rm 3) D A (mo_W D A ad cf0 f g) [.ref (ad 1000020), .int (x), .int (y)] 0 0 (fun r H => mo_W D A ad cf0 (upd f 0 (nI 1)) g H) := by
  refine mi_start (cc := cX5_dieHeight) (nL := 3) (ret := (some Jvm.ClassFile.FieldType.int)) rfl (by decide) (Nat.le_of_ble_eq_true rfl) ?_
  intro p e s m below meth c ls S E hM hS hr hk hn hl
  have S : CallFix p m c cX5_dieHeight 3 s _ ((Cond.code yX5_dieHeight cX5_dieHeight 3 (some Jvm.ClassFile.FieldType.int)) :: mi_G) RX5 := S
  have hl : lv_has ls 3 [(0, .ref (ad 1000020)), (1, .int (x)), (2, .int (y))] := hl
  obtain ⟨⟨o1, o2, o3, o4, o5⟩, oP, oK, oD, oX, oC, oI⟩ := id hO
  have hw : sW S0 < 61 := by omega
  have hK := st_mo_K hR o3
  have hKb : ∀ j, j < 128 → sK S0 (sW S0) j < 4 := fun j hj => oK _ _ o3 hj
  refine lv_aload_n S.1 S.2.1 dX5_dieHeight_0 rfl (lv_at hl 0 rfl) ?_
  refine lv_aload_n S.1 S.2.1 dX5_dieHeight_1 rfl (lv_at hl 0 rfl) ?_
  refine lv_iload_n S.1 S.2.1 dX5_dieHeight_2 rfl (lv_at hl 1 rfl) ?_
  refine mi_cR (mi_runV (P := mo_W D A ad cf0 f g) (As := [.int (x)]) (rest := [.ref (ad 1000020)]) S E hS hM (ad 1000020) (c_isDie_n l D A (f := f) (g := g) (n := sD S0) hR.1.2.2.1 (by omega) h9) (hM.recv E) mw_863 mw_860 mw_862 mw_29 mw_43 ⟨by decide, by decide, by decide +kernel⟩ ⟨rfl, rfl, Nat.le_of_ble_eq_true rfl, Nat.le_of_ble_eq_true rfl⟩ (n := 1) rfl hl.1 rfl (Nat.le_of_ble_eq_true rfl) dX5_dieHeight_3 ⟨Nat.le_of_ble_eq_true rfl, Nat.le_of_ble_eq_true rfl⟩) (fun r9 e9 => ?_)
  subst e9
  refine mi_if_eq (tgt := 20) S (by omega) dX5_dieHeight_6 (by decide) (fun c6_0 => ?_) (fun c6_0 => by exfalso; omega)
  refine lv_iconst (v := nI 1) S.1 S.2.1 dX5_dieHeight_20 (by decide) ?_
  refine mo_p_44 S E hS hM dX5_dieHeight_21 (fun H locs hM hS => ?_)
  refine lv_aload_n S.1 S.2.1 dX5_dieHeight_24 rfl (lv_at hl 0 rfl) ?_
  refine mo_g_44 S E hM dX5_dieHeight_25 ?_
  refine mi_top (v' := .int (nI (1))) (rfl) ?_
  refine mi_if_le (tgt := 35) S (by omega) dX5_dieHeight_28 (by decide) (fun c28_2 => by exfalso; omega) (fun c28_2 => ?_)
  refine lv_iconst (v := nI 0) S.1 S.2.1 dX5_dieHeight_31 (by decide) ?_
  refine lv_goto (tgt := 46) S.1 S.2.1 dX5_dieHeight_32 (by decide) ?_
  exact mi_retMi S hr hk hS dX5_dieHeight_46 (Nat.le_refl _) (Nat.le_refl _) (hM)
set_option maxHeartbeats 4000000 in
set_option maxRecDepth 100000 in
theorem c_mdieHeight_2 (l : Launch) (D : va_G) (A : Nat → Prop) {ad : Nat → Nat} {cf0 : Nat → Option va_E} {f : Nat → Int32} {g : Nat → Nat → Int32} {S0 : sT} (hR : st_mo S0 f g) (hO : st_ok S0) {d : Nat} (hd : d < sD S0) {x : Int32} (h9 : ¬ (0 ≤ x.toInt ∧ x.toInt ≤ 15)) : mi_Mi l yX5_dieHeight (Cond.code yX5_dieHeight cX5_dieHeight 3 (some Jvm.ClassFile.FieldType.int)) (mi_rm 3) D A (mo_W D A ad cf0 f g) [.ref (ad 1000020), .int (nI (d)), .int (x)] 0 0 (fun r H => mo_W D A ad cf0 (upd f 0 (nI 1)) g H) := by
  refine mi_start (cc := cX5_dieHeight) (nL := 3) (ret := (some Jvm.ClassFile.FieldType.int)) rfl (by decide) (Nat.le_of_ble_eq_true rfl) ?_
  intro p e s m below meth c ls S E hM hS hr hk hn hl
  have S : CallFix p m c cX5_dieHeight 3 s _ ((Cond.code yX5_dieHeight cX5_dieHeight 3 (some Jvm.ClassFile.FieldType.int)) :: mi_G) RX5 := S
  have hl : lv_has ls 3 [(0, .ref (ad 1000020)), (1, .int (nI (d))), (2, .int (x))] := hl
  obtain ⟨⟨o1, o2, o3, o4, o5⟩, oP, oK, oD, oX, oC, oI⟩ := id hO
  have hw : sW S0 < 61 := by omega
  have hK := st_mo_K hR o3
  have hKb : ∀ j, j < 128 → sK S0 (sW S0) j < 4 := fun j hj => oK _ _ o3 hj
  refine lv_aload_n S.1 S.2.1 dX5_dieHeight_0 rfl (lv_at hl 0 rfl) ?_
  refine lv_aload_n S.1 S.2.1 dX5_dieHeight_1 rfl (lv_at hl 0 rfl) ?_
  refine lv_iload_n S.1 S.2.1 dX5_dieHeight_2 rfl (lv_at hl 1 rfl) ?_
  refine mi_cR (mi_runV (P := mo_W D A ad cf0 f g) (As := [.int (nI (d))]) (rest := [.ref (ad 1000020)]) S E hS hM (ad 1000020) (c_isDie_y l D A (f := f) (g := g) (n := sD S0) hR.1.2.2.1 (by omega) (by omega)) (hM.recv E) mw_863 mw_860 mw_862 mw_29 mw_43 ⟨by decide, by decide, by decide +kernel⟩ ⟨rfl, rfl, Nat.le_of_ble_eq_true rfl, Nat.le_of_ble_eq_true rfl⟩ (n := 1) rfl hl.1 rfl (Nat.le_of_ble_eq_true rfl) dX5_dieHeight_3 ⟨Nat.le_of_ble_eq_true rfl, Nat.le_of_ble_eq_true rfl⟩) (fun r9 e9 => ?_)
  subst e9
  refine mi_if_eq (tgt := 20) S (by omega) dX5_dieHeight_6 (by decide) (fun c6_0 => by exfalso; omega) (fun c6_0 => ?_)
  refine lv_iload_n S.1 S.2.1 dX5_dieHeight_9 rfl (lv_at hl 2 rfl) ?_
  refine mi_cR (mi_runS (P := mo_W D A ad cf0 f g) (As := [.int (x)]) (rest := [.ref (ad 1000020)]) S E hS hM (c_misColumn_n l D A (mo_W D A ad cf0 f g) (h9)) mw_733 mw_731 mw_732 mw_43 ⟨by decide, by decide, by decide +kernel⟩ ⟨rfl, rfl, Nat.le_of_ble_eq_true rfl, Nat.le_of_ble_eq_true rfl⟩ (n := 1) rfl hl.1 rfl (Nat.le_of_ble_eq_true rfl) dX5_dieHeight_10 ⟨Nat.le_of_ble_eq_true rfl, Nat.le_of_ble_eq_true rfl⟩) (fun r9 e9 => ?_)
  subst e9
  refine mi_if_eq (tgt := 20) S (by omega) dX5_dieHeight_13 (by decide) (fun c13_1 => ?_) (fun c13_1 => by exfalso; omega)
  refine lv_iconst (v := nI 1) S.1 S.2.1 dX5_dieHeight_20 (by decide) ?_
  refine mo_p_44 S E hS hM dX5_dieHeight_21 (fun H locs hM hS => ?_)
  refine lv_aload_n S.1 S.2.1 dX5_dieHeight_24 rfl (lv_at hl 0 rfl) ?_
  refine mo_g_44 S E hM dX5_dieHeight_25 ?_
  refine mi_top (v' := .int (nI (1))) (rfl) ?_
  refine mi_if_le (tgt := 35) S (by omega) dX5_dieHeight_28 (by decide) (fun c28_3 => by exfalso; omega) (fun c28_3 => ?_)
  refine lv_iconst (v := nI 0) S.1 S.2.1 dX5_dieHeight_31 (by decide) ?_
  refine lv_goto (tgt := 46) S.1 S.2.1 dX5_dieHeight_32 (by decide) ?_
  exact mi_retMi S hr hk hS dX5_dieHeight_46 (Nat.le_refl _) (Nat.le_refl _) (hM)
set_option maxHeartbeats 4000000 in
set_option maxRecDepth 100000 in
theorem c_mcoinHeight (l : Launch) (D : va_G) (A : Nat → Prop) {ad : Nat → Nat} {cf0 : Nat → Option va_E} {f : Nat → Int32} {g : Nat → Nat → Int32} {S0 : sT} (hR : st_mo S0 f g) (hO : st_ok S0) {a : Nat} (ha : a < sC S0) {b : Nat} (hb : b < 16) : mi_Mi l yX5_coinHeight (Cond.code yX5_coinHeight cX5_coinHeight 3 (some Jvm.ClassFile.FieldType.int)) (mi_rm 3) D A (mo_W D A ad cf0 f g) [.ref (ad 1000020), .int (nI (a)), .int (nI (b))] 0 0 (fun r H => r = nI (sCh S0 a b) ∧ ∃ f1 g1, mo_W D A ad cf0 f1 g1 H ∧ st_mo (S0) f1 g1 ∧ f1 0 = nI 0) := by
  refine mi_start (cc := cX5_coinHeight) (nL := 3) (ret := (some Jvm.ClassFile.FieldType.int)) rfl (by decide) (Nat.le_of_ble_eq_true rfl) ?_
  intro p e s m below meth c ls S E hM hS hr hk hn hl
  have S : CallFix p m c cX5_coinHeight 3 s _ ((Cond.code yX5_coinHeight cX5_coinHeight 3 (some Jvm.ClassFile.FieldType.int)) :: mi_G) RX5 := S
  have hl : lv_has ls 3 [(0, .ref (ad 1000020)), (1, .int (nI (a))), (2, .int (nI (b)))] := hl
  obtain ⟨⟨o1, o2, o3, o4, o5⟩, oP, oK, oD, oX, oC, oI⟩ := id hO
  have hw : sW S0 < 61 := by omega
  have hK := st_mo_K hR o3
  have hKb : ∀ j, j < 128 → sK S0 (sW S0) j < 4 := fun j hj => oK _ _ o3 hj
  refine lv_aload_n S.1 S.2.1 dX5_coinHeight_0 rfl (lv_at hl 0 rfl) ?_
  refine lv_aload_n S.1 S.2.1 dX5_coinHeight_1 rfl (lv_at hl 0 rfl) ?_
  refine lv_iload_n S.1 S.2.1 dX5_coinHeight_2 rfl (lv_at hl 1 rfl) ?_
  refine mi_cR (mi_runV (P := mo_W D A ad cf0 f g) (As := [.int (nI (a))]) (rest := [.ref (ad 1000020)]) S E hS hM (ad 1000020) (c_isCoin_y l D A (f := f) (g := g) (n := sC S0) hR.1.2.2.2 (by omega) (by omega)) (hM.recv E) mw_871 mw_868 mw_870 mw_30 mw_43 ⟨by decide, by decide, by decide +kernel⟩ ⟨rfl, rfl, Nat.le_of_ble_eq_true rfl, Nat.le_of_ble_eq_true rfl⟩ (n := 1) rfl hl.1 rfl (Nat.le_of_ble_eq_true rfl) dX5_coinHeight_3 ⟨Nat.le_of_ble_eq_true rfl, Nat.le_of_ble_eq_true rfl⟩) (fun r9 e9 => ?_)
  subst e9
  refine mi_if_eq (tgt := 20) S (by omega) dX5_coinHeight_6 (by decide) (fun c6_0 => by exfalso; omega) (fun c6_0 => ?_)
  refine lv_iload_n S.1 S.2.1 dX5_coinHeight_9 rfl (lv_at hl 2 rfl) ?_
  refine mi_cR (mi_runS (P := mo_W D A ad cf0 f g) (As := [.int (nI (b))]) (rest := [.ref (ad 1000020)]) S E hS hM (c_misColumn_y l D A (mo_W D A ad cf0 f g) (by omega)) mw_733 mw_731 mw_732 mw_43 ⟨by decide, by decide, by decide +kernel⟩ ⟨rfl, rfl, Nat.le_of_ble_eq_true rfl, Nat.le_of_ble_eq_true rfl⟩ (n := 1) rfl hl.1 rfl (Nat.le_of_ble_eq_true rfl) dX5_coinHeight_10 ⟨Nat.le_of_ble_eq_true rfl, Nat.le_of_ble_eq_true rfl⟩) (fun r9 e9 => ?_)
  subst e9
  refine mi_if_eq (tgt := 20) S (by omega) dX5_coinHeight_13 (by decide) (fun c13_1 => by exfalso; omega) (fun c13_1 => ?_)
  refine lv_iconst (v := nI 0) S.1 S.2.1 dX5_coinHeight_16 (by decide) ?_
  refine lv_goto (tgt := 21) S.1 S.2.1 dX5_coinHeight_17 (by decide) ?_
  refine mo_p_44 S E hS hM dX5_coinHeight_21 (fun H locs hM hS => ?_)
  refine lv_aload_n S.1 S.2.1 dX5_coinHeight_24 rfl (lv_at hl 0 rfl) ?_
  refine mo_g_44 S E hM dX5_coinHeight_25 ?_
  refine mi_top (v' := .int (nI (0))) (rfl) ?_
  refine mi_if_le (tgt := 35) S (by omega) dX5_coinHeight_28 (by decide) (fun c28_3 => ?_) (fun c28_3 => by exfalso; omega)
  refine lv_aload_n S.1 S.2.1 dX5_coinHeight_35 rfl (lv_at hl 0 rfl) ?_
  refine mo_g_32 S E hM dX5_coinHeight_36 ?_
  refine lv_bipush (v := nI 16) S.1 S.2.1 dX5_coinHeight_39 (by decide) ?_
  refine lv_iload_n S.1 S.2.1 dX5_coinHeight_41 rfl (lv_at hl 1 rfl) ?_
  refine mi_imul S dX5_coinHeight_42 ?_
  refine lv_iload_n S.1 S.2.1 dX5_coinHeight_43 rfl (lv_at hl 2 rfl) ?_
  refine mi_iadd S dX5_coinHeight_44 ?_
  refine mo_ald 11 S E hM rfl (by show _ < 960; omega) dX5_coinHeight_45 ?_
  refine mi_top (v' := .int (nI (sCh S0 a b))) (congrArg Value.int (st_ch hR (by omega) (by omega))) ?_
  exact mi_retMi S hr hk hS dX5_coinHeight_46 (Nat.le_refl _) (Nat.le_refl _) ⟨rfl, (upd f 0 (nI (0))), g, hM, st_mo_0 hR _, rfl⟩
set_option maxHeartbeats 4000000 in
set_option maxRecDepth 100000 in
theorem c_mcoinHeight_1 (l : Launch) (D : va_G) (A : Nat → Prop) {ad : Nat → Nat} {cf0 : Nat → Option va_E} {f : Nat → Int32} {g : Nat → Nat → Int32} {S0 : sT} (hR : st_mo S0 f g) (hO : st_ok S0) {y : Int32} {x : Int32} (h9 : ¬ (0 ≤ x.toInt ∧ x.toInt < sC S0)) : mi_Mi l yX5_coinHeight (Cond.code yX5_coinHeight cX5_coinHeight 3 (some Jvm.ClassFile.FieldType.int)) (mi_rm 3) D A (mo_W D A ad cf0 f g) [.ref (ad 1000020), .int (x), .int (y)] 0 0 (fun r H => mo_W D A ad cf0 (upd f 0 (nI 1)) g H) := by
  refine mi_start (cc := cX5_coinHeight) (nL := 3) (ret := (some Jvm.ClassFile.FieldType.int)) rfl (by decide) (Nat.le_of_ble_eq_true rfl) ?_
  intro p e s m below meth c ls S E hM hS hr hk hn hl
  have S : CallFix p m c cX5_coinHeight 3 s _ ((Cond.code yX5_coinHeight cX5_coinHeight 3 (some Jvm.ClassFile.FieldType.int)) :: mi_G) RX5 := S
  have hl : lv_has ls 3 [(0, .ref (ad 1000020)), (1, .int (x)), (2, .int (y))] := hl
  obtain ⟨⟨o1, o2, o3, o4, o5⟩, oP, oK, oD, oX, oC, oI⟩ := id hO
  have hw : sW S0 < 61 := by omega
  have hK := st_mo_K hR o3
  have hKb : ∀ j, j < 128 → sK S0 (sW S0) j < 4 := fun j hj => oK _ _ o3 hj
  refine lv_aload_n S.1 S.2.1 dX5_coinHeight_0 rfl (lv_at hl 0 rfl) ?_
  refine lv_aload_n S.1 S.2.1 dX5_coinHeight_1 rfl (lv_at hl 0 rfl) ?_
  refine lv_iload_n S.1 S.2.1 dX5_coinHeight_2 rfl (lv_at hl 1 rfl) ?_
  refine mi_cR (mi_runV (P := mo_W D A ad cf0 f g) (As := [.int (x)]) (rest := [.ref (ad 1000020)]) S E hS hM (ad 1000020) (c_isCoin_n l D A (f := f) (g := g) (n := sC S0) hR.1.2.2.2 (by omega) h9) (hM.recv E) mw_871 mw_868 mw_870 mw_30 mw_43 ⟨by decide, by decide, by decide +kernel⟩ ⟨rfl, rfl, Nat.le_of_ble_eq_true rfl, Nat.le_of_ble_eq_true rfl⟩ (n := 1) rfl hl.1 rfl (Nat.le_of_ble_eq_true rfl) dX5_coinHeight_3 ⟨Nat.le_of_ble_eq_true rfl, Nat.le_of_ble_eq_true rfl⟩) (fun r9 e9 => ?_)
  subst e9
  refine mi_if_eq (tgt := 20) S (by omega) dX5_coinHeight_6 (by decide) (fun c6_0 => ?_) (fun c6_0 => by exfalso; omega)
  refine lv_iconst (v := nI 1) S.1 S.2.1 dX5_coinHeight_20 (by decide) ?_
  refine mo_p_44 S E hS hM dX5_coinHeight_21 (fun H locs hM hS => ?_)
  refine lv_aload_n S.1 S.2.1 dX5_coinHeight_24 rfl (lv_at hl 0 rfl) ?_
  refine mo_g_44 S E hM dX5_coinHeight_25 ?_
  refine mi_top (v' := .int (nI (1))) (rfl) ?_
  refine mi_if_le (tgt := 35) S (by omega) dX5_coinHeight_28 (by decide) (fun c28_2 => by exfalso; omega) (fun c28_2 => ?_)
  refine lv_iconst (v := nI 0) S.1 S.2.1 dX5_coinHeight_31 (by decide) ?_
  refine lv_goto (tgt := 46) S.1 S.2.1 dX5_coinHeight_32 (by decide) ?_
  exact mi_retMi S hr hk hS dX5_coinHeight_46 (Nat.le_refl _) (Nat.le_refl _) (hM)
set_option maxHeartbeats 4000000 in
set_option maxRecDepth 100000 in
theorem c_mcoinHeight_2 (l : Launch) (D : va_G) (A : Nat → Prop) {ad : Nat → Nat} {cf0 : Nat → Option va_E} {f : Nat → Int32} {g : Nat → Nat → Int32} {S0 : sT} (hR : st_mo S0 f g) (hO : st_ok S0) {a : Nat} (ha : a < sC S0) {x : Int32} (h9 : ¬ (0 ≤ x.toInt ∧ x.toInt ≤ 15)) : mi_Mi l yX5_coinHeight (Cond.code yX5_coinHeight cX5_coinHeight 3 (some Jvm.ClassFile.FieldType.int)) (mi_rm 3) D A (mo_W D A ad cf0 f g) [.ref (ad 1000020), .int (nI (a)), .int (x)] 0 0 (fun r H => mo_W D A ad cf0 (upd f 0 (nI 1)) g H) := by
  refine mi_start (cc := cX5_coinHeight) (nL := 3) (ret := (some Jvm.ClassFile.FieldType.int)) rfl (by decide) (Nat.le_of_ble_eq_true rfl) ?_
  intro p e s m below meth c ls S E hM hS hr hk hn hl
  have S : CallFix p m c cX5_coinHeight 3 s _ ((Cond.code yX5_coinHeight cX5_coinHeight 3 (some Jvm.ClassFile.FieldType.int)) :: mi_G) RX5 := S
  have hl : lv_has ls 3 [(0, .ref (ad 1000020)), (1, .int (nI (a))), (2, .int (x))] := hl
  obtain ⟨⟨o1, o2, o3, o4, o5⟩, oP, oK, oD, oX, oC, oI⟩ := id hO
  have hw : sW S0 < 61 := by omega
  have hK := st_mo_K hR o3
  have hKb : ∀ j, j < 128 → sK S0 (sW S0) j < 4 := fun j hj => oK _ _ o3 hj
  refine lv_aload_n S.1 S.2.1 dX5_coinHeight_0 rfl (lv_at hl 0 rfl) ?_
  refine lv_aload_n S.1 S.2.1 dX5_coinHeight_1 rfl (lv_at hl 0 rfl) ?_
  refine lv_iload_n S.1 S.2.1 dX5_coinHeight_2 rfl (lv_at hl 1 rfl) ?_
  refine mi_cR (mi_runV (P := mo_W D A ad cf0 f g) (As := [.int (nI (a))]) (rest := [.ref (ad 1000020)]) S E hS hM (ad 1000020) (c_isCoin_y l D A (f := f) (g := g) (n := sC S0) hR.1.2.2.2 (by omega) (by omega)) (hM.recv E) mw_871 mw_868 mw_870 mw_30 mw_43 ⟨by decide, by decide, by decide +kernel⟩ ⟨rfl, rfl, Nat.le_of_ble_eq_true rfl, Nat.le_of_ble_eq_true rfl⟩ (n := 1) rfl hl.1 rfl (Nat.le_of_ble_eq_true rfl) dX5_coinHeight_3 ⟨Nat.le_of_ble_eq_true rfl, Nat.le_of_ble_eq_true rfl⟩) (fun r9 e9 => ?_)
  subst e9
  refine mi_if_eq (tgt := 20) S (by omega) dX5_coinHeight_6 (by decide) (fun c6_0 => by exfalso; omega) (fun c6_0 => ?_)
  refine lv_iload_n S.1 S.2.1 dX5_coinHeight_9 rfl (lv_at hl 2 rfl) ?_
  refine mi_cR (mi_runS (P := mo_W D A ad cf0 f g) (As := [.int (x)]) (rest := [.ref (ad 1000020)]) S E hS hM (c_misColumn_n l D A (mo_W D A ad cf0 f g) (h9)) mw_733 mw_731 mw_732 mw_43 ⟨by decide, by decide, by decide +kernel⟩ ⟨rfl, rfl, Nat.le_of_ble_eq_true rfl, Nat.le_of_ble_eq_true rfl⟩ (n := 1) rfl hl.1 rfl (Nat.le_of_ble_eq_true rfl) dX5_coinHeight_10 ⟨Nat.le_of_ble_eq_true rfl, Nat.le_of_ble_eq_true rfl⟩) (fun r9 e9 => ?_)
  subst e9
  refine mi_if_eq (tgt := 20) S (by omega) dX5_coinHeight_13 (by decide) (fun c13_1 => ?_) (fun c13_1 => by exfalso; omega)
  refine lv_iconst (v := nI 1) S.1 S.2.1 dX5_coinHeight_20 (by decide) ?_
  refine mo_p_44 S E hS hM dX5_coinHeight_21 (fun H locs hM hS => ?_)
  refine lv_aload_n S.1 S.2.1 dX5_coinHeight_24 rfl (lv_at hl 0 rfl) ?_
  refine mo_g_44 S E hM dX5_coinHeight_25 ?_
  refine mi_top (v' := .int (nI (1))) (rfl) ?_
  refine mi_if_le (tgt := 35) S (by omega) dX5_coinHeight_28 (by decide) (fun c28_3 => by exfalso; omega) (fun c28_3 => ?_)
  refine lv_iconst (v := nI 0) S.1 S.2.1 dX5_coinHeight_31 (by decide) ?_
  refine lv_goto (tgt := 46) S.1 S.2.1 dX5_coinHeight_32 (by decide) ?_
  exact mi_retMi S hr hk hS dX5_coinHeight_46 (Nat.le_refl _) (Nat.le_refl _) (hM)
set_option maxHeartbeats 4000000 in
set_option maxRecDepth 100000 in
theorem c_mgrade (l : Launch) (D : va_G) (A : Nat → Prop) {ad : Nat → Nat} {cf0 : Nat → Option va_E} {f : Nat → Int32} {g : Nat → Nat → Int32} {S0 : sT} (hR : st_mo S0 f g) (hO : st_ok S0) {a : Nat} (ha : a < sC S0) : mi_Mi l yX5_grade (Cond.code yX5_grade cX5_grade 4 (some Jvm.ClassFile.FieldType.int)) (mi_rm 3) D A (mo_W D A ad cf0 f g) [.ref (ad 1000020), .int (nI (a))] 0 0 (fun r H => r = nI (if 20 < sp_ds (sCh S0 a) (sF S0 (sCd S0 a)) 16 then 0 else 100 - 5 * sp_ds (sCh S0 a) (sF S0 (sCd S0 a)) 16) ∧ ∃ f1 g1, mo_W D A ad cf0 f1 g1 H ∧ st_mo (S0) f1 g1 ∧ f1 0 = nI 0) := by
  refine mi_start (cc := cX5_grade) (nL := 4) (ret := (some Jvm.ClassFile.FieldType.int)) rfl (by decide) (Nat.le_of_ble_eq_true rfl) ?_
  intro p e s m below meth c ls S E hM hS hr hk hn hl
  have S : CallFix p m c cX5_grade 4 s _ ((Cond.code yX5_grade cX5_grade 4 (some Jvm.ClassFile.FieldType.int)) :: mi_G) RX5 := S
  have hl : lv_has ls 4 [(0, .ref (ad 1000020)), (1, .int (nI (a)))] := hl
  obtain ⟨⟨o1, o2, o3, o4, o5⟩, oP, oK, oD, oX, oC, oI⟩ := id hO
  have hw : sW S0 < 61 := by omega
  have hK := st_mo_K hR o3
  have hKb : ∀ j, j < 128 → sK S0 (sW S0) j < 4 := fun j hj => oK _ _ o3 hj
  obtain ⟨ci1, ci2, ci3⟩ := st_ci hO ha
  have hs16 : sp_ds (sCh S0 a) (sF S0 (sCd S0 a)) 16 ≤ 8 * 16 := sp_ds_le (fun c hc => st_cb hO ha hc) (fun c hc => st_fb hO ci1 hc)
  refine lv_aload_n S.1 S.2.1 dX5_grade_0 rfl (lv_at hl 0 rfl) ?_
  refine lv_aload_n S.1 S.2.1 dX5_grade_1 rfl (lv_at hl 0 rfl) ?_
  refine lv_iload_n S.1 S.2.1 dX5_grade_2 rfl (lv_at hl 1 rfl) ?_
  refine mi_cR (mi_runV (P := mo_W D A ad cf0 f g) (As := [.int (nI (a))]) (rest := [.ref (ad 1000020)]) S E hS hM (ad 1000020) (c_isCoin_y l D A (f := f) (g := g) (n := sC S0) hR.1.2.2.2 (by omega) (by omega)) (hM.recv E) mw_871 mw_868 mw_870 mw_30 mw_43 ⟨by decide, by decide, by decide +kernel⟩ ⟨rfl, rfl, Nat.le_of_ble_eq_true rfl, Nat.le_of_ble_eq_true rfl⟩ (n := 1) rfl hl.1 rfl (Nat.le_of_ble_eq_true rfl) dX5_grade_3 ⟨Nat.le_of_ble_eq_true rfl, Nat.le_of_ble_eq_true rfl⟩) (fun r9 e9 => ?_)
  subst e9
  refine mi_if_eq (tgt := 13) S (by omega) dX5_grade_6 (by decide) (fun c6_0 => by exfalso; omega) (fun c6_0 => ?_)
  refine lv_iconst (v := nI 0) S.1 S.2.1 dX5_grade_9 (by decide) ?_
  refine lv_goto (tgt := 14) S.1 S.2.1 dX5_grade_10 (by decide) ?_
  refine mo_p_44 S E hS hM dX5_grade_14 (fun H locs hM hS => ?_)
  refine lv_aload_n S.1 S.2.1 dX5_grade_17 rfl (lv_at hl 0 rfl) ?_
  refine mo_g_44 S E hM dX5_grade_18 ?_
  refine mi_top (v' := .int (nI (0))) (rfl) ?_
  refine mi_if_le (tgt := 26) S (by omega) dX5_grade_21 (by decide) (fun c21_2 => ?_) (fun c21_2 => by exfalso; omega)
  refine lv_iconst (v := nI 0) S.1 S.2.1 dX5_grade_26 (by decide) ?_
  refine lv_istore_n (lv' := [(2, .int (nI (0))), (0, .ref (ad 1000020)), (1, .int (nI (a)))]) S.1 S.2.1 dX5_grade_27 rfl hl (by decide) rfl (fun ls hl => ?_)
  refine lv_iconst (v := nI 0) S.1 S.2.1 dX5_grade_28 (by decide) ?_
  refine lv_istore_n (lv' := [(3, .int (nI (0))), (2, .int (nI (0))), (0, .ref (ad 1000020)), (1, .int (nI (a)))]) S.1 S.2.1 dX5_grade_29 rfl hl (by decide) rfl (fun ls hl => ?_)
  have lp30 : ∀ (n30 : Nat) (n : Nat) (i : Nat) (ls : Array Slot), 16 - i < n30 → i ≤ 16 → n = sp_ds (sCh S0 a) (sF S0 (sCd S0 a)) i → lv_has ls 4 [(0, .ref (ad 1000020)), (1, .int (nI (a))), (2, .int (nI (n))), (3, .int (nI (i)))] → W p l e (mi_rm 3) s m ([.ref (ad 1000020), .int (nI (a))] : List Value).toArray below meth c H locs 0 0 (MQ below (mi_Qi A (fun r H => r = nI (if 20 < sp_ds (sCh S0 a) (sF S0 (sCd S0 a)) 16 then 0 else 100 - 5 * sp_ds (sCh S0 a) (sF S0 (sCd S0 a)) 16) ∧ ∃ f1 g1, mo_W D A ad cf0 f1 g1 H ∧ st_mo (S0) f1 g1 ∧ f1 0 = nI 0)) ([.ref (ad 1000020), .int (nI (a))] : List Value).toArray s 0 0 A) (F0 m 30 ls []) := by
    intro n30
    induction n30 with
    | zero => intro n i ls hm hi hn9  hl; exact absurd hm (Nat.not_lt_zero _)
    | succ n30 ih30 =>
      intro n i ls hm hi hn9  hl
      refine lv_iload_n S.1 S.2.1 dX5_grade_30 rfl (lv_at hl 3 rfl) ?_
      refine lv_bipush (v := nI 16) S.1 S.2.1 dX5_grade_31 (by decide) ?_
      refine mi_icmp_ge (tgt := 75) S (by omega) (by omega) dX5_grade_33 (by decide) (fun c33_3 => ?_) (fun c33_3 => ?_)
      · have hs9 : n ≤ 128 := by rw [hn9, show i = 16 by omega]; exact hs16
        refine lv_iload_n S.1 S.2.1 dX5_grade_75 rfl (lv_at hl 2 rfl) ?_
        refine lv_bipush (v := nI 20) S.1 S.2.1 dX5_grade_76 (by decide) ?_
        refine mi_icmp_le (tgt := 85) S (by omega) (by omega) dX5_grade_78 (by decide) (fun c78_4 => ?_) (fun c78_4 => ?_)
        · refine lv_bipush (v := nI 100) S.1 S.2.1 dX5_grade_85 (by decide) ?_
          refine lv_iconst (v := nI 5) S.1 S.2.1 dX5_grade_87 (by decide) ?_
          refine lv_iload_n S.1 S.2.1 dX5_grade_88 rfl (lv_at hl 2 rfl) ?_
          refine mi_imul S dX5_grade_89 ?_
          refine mi_isub S (by omega) dX5_grade_90 ?_
          have e9 : n = sp_ds (sCh S0 a) (sF S0 (sCd S0 a)) 16 := by rw [hn9, show i = 16 by omega]
          exact mi_retMi S hr hk hS dX5_grade_91 (Nat.le_refl _) (Nat.le_refl _) ⟨(by rw [← e9]; first | (rw [if_pos (by omega)]) | (rw [if_neg (by omega)])), (upd f 0 (nI (0))), g, hM, st_mo_0 hR _, rfl⟩
        · refine lv_iconst (v := nI 0) S.1 S.2.1 dX5_grade_81 (by decide) ?_
          refine lv_goto (tgt := 91) S.1 S.2.1 dX5_grade_82 (by decide) ?_
          have e9 : n = sp_ds (sCh S0 a) (sF S0 (sCd S0 a)) 16 := by rw [hn9, show i = 16 by omega]
          exact mi_retMi S hr hk hS dX5_grade_91 (Nat.le_refl _) (Nat.le_refl _) ⟨(by rw [← e9]; first | (rw [if_pos (by omega)]) | (rw [if_neg (by omega)])), (upd f 0 (nI (0))), g, hM, st_mo_0 hR _, rfl⟩
      · have hf0 := st_cb hO ha (show i < 16 by omega)
        have hf1 := st_fb hO ci1 (show i < 16 by omega)
        refine lv_iload_n S.1 S.2.1 dX5_grade_36 rfl (lv_at hl 2 rfl) ?_
        refine lv_aload_n S.1 S.2.1 dX5_grade_37 rfl (lv_at hl 0 rfl) ?_
        refine mo_g_32 S E hM dX5_grade_38 ?_
        refine lv_bipush (v := nI 16) S.1 S.2.1 dX5_grade_41 (by decide) ?_
        refine lv_iload_n S.1 S.2.1 dX5_grade_43 rfl (lv_at hl 1 rfl) ?_
        refine mi_imul S dX5_grade_44 ?_
        refine lv_iload_n S.1 S.2.1 dX5_grade_45 rfl (lv_at hl 3 rfl) ?_
        refine mi_iadd S dX5_grade_46 ?_
        refine mo_ald 11 S E hM rfl (by show _ < 960; omega) dX5_grade_47 ?_
        refine mi_top (v' := .int (nI (sCh S0 a i))) (congrArg Value.int (st_ch hR (by omega) (by omega))) ?_
        refine lv_aload_n S.1 S.2.1 dX5_grade_48 rfl (lv_at hl 0 rfl) ?_
        refine mo_g_23 S E hM dX5_grade_49 ?_
        refine lv_bipush (v := nI 16) S.1 S.2.1 dX5_grade_52 (by decide) ?_
        refine lv_aload_n S.1 S.2.1 dX5_grade_54 rfl (lv_at hl 0 rfl) ?_
        refine mo_g_35 S E hM dX5_grade_55 ?_
        refine lv_iload_n S.1 S.2.1 dX5_grade_58 rfl (lv_at hl 1 rfl) ?_
        refine mo_ald 12 S E hM rfl (by show _ < 60; omega) dX5_grade_59 ?_
        refine mi_top (v' := .int (nI (sCd S0 a))) (congrArg Value.int (st_cd hR (by omega))) ?_
        refine mi_imul S dX5_grade_60 ?_
        refine lv_iload_n S.1 S.2.1 dX5_grade_61 rfl (lv_at hl 3 rfl) ?_
        refine mi_iadd S dX5_grade_62 ?_
        refine mo_ald 7 S E hM rfl (by show _ < 128; omega) dX5_grade_63 ?_
        refine mi_top (v' := .int (nI (sF S0 (sCd S0 a) i))) (congrArg Value.int (st_df hR (by omega) (by omega))) ?_
        refine mi_cR (mi_runS (P := mo_W D A ad cf0 (upd f 0 (nI (0))) g) (As := [.int (nI (sCh S0 a i)), .int (nI (sF S0 (sCd S0 a) i))]) (rest := [.int (nI (n))]) S E hS hM (c_far l D A (mo_W D A ad cf0 (upd f 0 (nI (0))) g) (a := sCh S0 a i) (b := sF S0 (sCd S0 a) i) (by omega) (by omega)) mw_886 mw_884 mw_885 mw_43 ⟨by decide, by decide, by decide +kernel⟩ ⟨rfl, rfl, Nat.le_of_ble_eq_true rfl, Nat.le_of_ble_eq_true rfl⟩ (n := 2) rfl hl.1 rfl (Nat.le_of_ble_eq_true rfl) dX5_grade_64 ⟨Nat.le_of_ble_eq_true rfl, Nat.le_of_ble_eq_true rfl⟩) (fun r9 e9 => ?_)
        subst e9
        refine mi_iadd S dX5_grade_67 ?_
        refine lv_istore_n (lv' := [(2, .int (nI (n + (sp_df (sCh S0 a i) (sF S0 (sCd S0 a) i))))), (0, .ref (ad 1000020)), (1, .int (nI (a))), (3, .int (nI (i)))]) S.1 S.2.1 dX5_grade_68 rfl hl (by decide) rfl (fun ls hl => ?_)
        refine lv_iinc (v := nI (i + 1)) (lv' := [(3, .int (nI (i + 1))), (2, .int (nI (n + (sp_df (sCh S0 a i) (sF S0 (sCd S0 a) i))))), (0, .ref (ad 1000020)), (1, .int (nI (a)))]) S.1 S.2.1 dX5_grade_69 hl (k := 3) rfl (mi_inc _) (by decide) rfl (fun ls hl => ?_)
        refine lv_goto (tgt := 30) S.1 S.2.1 dX5_grade_72 (by decide) ?_
        exact ih30 (n + (sp_df (sCh S0 a i) (sF S0 (sCd S0 a) i))) (i + 1) _ (by omega) (by omega) (by rw [sp_ds_s, ← hn9])  (lv_sub hl [2, 3, 1, 0] rfl)
  exact lp30 _ 0 0 _ (Nat.lt_succ_self _) (by omega) (by rfl)  (lv_sub hl [2, 3, 1, 0] rfl)
set_option maxHeartbeats 4000000 in
set_option maxRecDepth 100000 in
theorem c_mgrade_1 (l : Launch) (D : va_G) (A : Nat → Prop) {ad : Nat → Nat} {cf0 : Nat → Option va_E} {f : Nat → Int32} {g : Nat → Nat → Int32} {S0 : sT} (hR : st_mo S0 f g) (hO : st_ok S0) {x : Int32} (h9 : ¬ (0 ≤ x.toInt ∧ x.toInt < sC S0)) : mi_Mi l yX5_grade (Cond.code yX5_grade cX5_grade 4 (some Jvm.ClassFile.FieldType.int)) (mi_rm 3) D A (mo_W D A ad cf0 f g) [.ref (ad 1000020), .int (x)] 0 0 (fun r H => mo_W D A ad cf0 (upd f 0 (nI 1)) g H) := by
  refine mi_start (cc := cX5_grade) (nL := 4) (ret := (some Jvm.ClassFile.FieldType.int)) rfl (by decide) (Nat.le_of_ble_eq_true rfl) ?_
  intro p e s m below meth c ls S E hM hS hr hk hn hl
  have S : CallFix p m c cX5_grade 4 s _ ((Cond.code yX5_grade cX5_grade 4 (some Jvm.ClassFile.FieldType.int)) :: mi_G) RX5 := S
  have hl : lv_has ls 4 [(0, .ref (ad 1000020)), (1, .int (x))] := hl
  obtain ⟨⟨o1, o2, o3, o4, o5⟩, oP, oK, oD, oX, oC, oI⟩ := id hO
  have hw : sW S0 < 61 := by omega
  have hK := st_mo_K hR o3
  have hKb : ∀ j, j < 128 → sK S0 (sW S0) j < 4 := fun j hj => oK _ _ o3 hj
  refine lv_aload_n S.1 S.2.1 dX5_grade_0 rfl (lv_at hl 0 rfl) ?_
  refine lv_aload_n S.1 S.2.1 dX5_grade_1 rfl (lv_at hl 0 rfl) ?_
  refine lv_iload_n S.1 S.2.1 dX5_grade_2 rfl (lv_at hl 1 rfl) ?_
  refine mi_cR (mi_runV (P := mo_W D A ad cf0 f g) (As := [.int (x)]) (rest := [.ref (ad 1000020)]) S E hS hM (ad 1000020) (c_isCoin_n l D A (f := f) (g := g) (n := sC S0) hR.1.2.2.2 (by omega) h9) (hM.recv E) mw_871 mw_868 mw_870 mw_30 mw_43 ⟨by decide, by decide, by decide +kernel⟩ ⟨rfl, rfl, Nat.le_of_ble_eq_true rfl, Nat.le_of_ble_eq_true rfl⟩ (n := 1) rfl hl.1 rfl (Nat.le_of_ble_eq_true rfl) dX5_grade_3 ⟨Nat.le_of_ble_eq_true rfl, Nat.le_of_ble_eq_true rfl⟩) (fun r9 e9 => ?_)
  subst e9
  refine mi_if_eq (tgt := 13) S (by omega) dX5_grade_6 (by decide) (fun c6_0 => ?_) (fun c6_0 => by exfalso; omega)
  refine lv_iconst (v := nI 1) S.1 S.2.1 dX5_grade_13 (by decide) ?_
  refine mo_p_44 S E hS hM dX5_grade_14 (fun H locs hM hS => ?_)
  refine lv_aload_n S.1 S.2.1 dX5_grade_17 rfl (lv_at hl 0 rfl) ?_
  refine mo_g_44 S E hM dX5_grade_18 ?_
  refine mi_top (v' := .int (nI (1))) (rfl) ?_
  refine mi_if_le (tgt := 26) S (by omega) dX5_grade_21 (by decide) (fun c21_2 => by exfalso; omega) (fun c21_2 => ?_)
  refine lv_iconst (v := nI 0) S.1 S.2.1 dX5_grade_24 (by decide) ?_
  exact mi_retMi S hr hk hS dX5_grade_25 (Nat.le_refl _) (Nat.le_refl _) (hM)
set_option maxHeartbeats 4000000 in
set_option maxRecDepth 100000 in
theorem c_mdistance (l : Launch) (D : va_G) (A : Nat → Prop) {ad : Nat → Nat} {cf0 : Nat → Option va_E} {f : Nat → Int32} {g : Nat → Nat → Int32} {S0 : sT} (hR : st_mo S0 f g) (hO : st_ok S0) {a b : Nat} (ha : a < sC S0) (hb : b < sC S0) : mi_Mi l yX5_distance (Cond.code yX5_distance cX5_distance 5 (some Jvm.ClassFile.FieldType.int)) (mi_rm 3) D A (mo_W D A ad cf0 f g) [.ref (ad 1000020), .int (nI (a)), .int (nI (b))] 0 0 (fun r H => r = nI (sp_ds (sCh S0 a) (sCh S0 b) 16) ∧ ∃ f1 g1, mo_W D A ad cf0 f1 g1 H ∧ st_mo (S0) f1 g1 ∧ f1 0 = nI 0) := by
  refine mi_start (cc := cX5_distance) (nL := 5) (ret := (some Jvm.ClassFile.FieldType.int)) rfl (by decide) (Nat.le_of_ble_eq_true rfl) ?_
  intro p e s m below meth c ls S E hM hS hr hk hn hl
  have S : CallFix p m c cX5_distance 5 s _ ((Cond.code yX5_distance cX5_distance 5 (some Jvm.ClassFile.FieldType.int)) :: mi_G) RX5 := S
  have hl : lv_has ls 5 [(0, .ref (ad 1000020)), (1, .int (nI (a))), (2, .int (nI (b)))] := hl
  obtain ⟨⟨o1, o2, o3, o4, o5⟩, oP, oK, oD, oX, oC, oI⟩ := id hO
  have hw : sW S0 < 61 := by omega
  have hK := st_mo_K hR o3
  have hKb : ∀ j, j < 128 → sK S0 (sW S0) j < 4 := fun j hj => oK _ _ o3 hj
  refine lv_aload_n S.1 S.2.1 dX5_distance_0 rfl (lv_at hl 0 rfl) ?_
  refine lv_aload_n S.1 S.2.1 dX5_distance_1 rfl (lv_at hl 0 rfl) ?_
  refine lv_iload_n S.1 S.2.1 dX5_distance_2 rfl (lv_at hl 1 rfl) ?_
  refine mi_cR (mi_runV (P := mo_W D A ad cf0 f g) (As := [.int (nI (a))]) (rest := [.ref (ad 1000020)]) S E hS hM (ad 1000020) (c_isCoin_y l D A (f := f) (g := g) (n := sC S0) hR.1.2.2.2 (by omega) (by omega)) (hM.recv E) mw_871 mw_868 mw_870 mw_30 mw_43 ⟨by decide, by decide, by decide +kernel⟩ ⟨rfl, rfl, Nat.le_of_ble_eq_true rfl, Nat.le_of_ble_eq_true rfl⟩ (n := 1) rfl hl.1 rfl (Nat.le_of_ble_eq_true rfl) dX5_distance_3 ⟨Nat.le_of_ble_eq_true rfl, Nat.le_of_ble_eq_true rfl⟩) (fun r9 e9 => ?_)
  subst e9
  refine mi_if_eq (tgt := 21) S (by omega) dX5_distance_6 (by decide) (fun c6_0 => by exfalso; omega) (fun c6_0 => ?_)
  refine lv_aload_n S.1 S.2.1 dX5_distance_9 rfl (lv_at hl 0 rfl) ?_
  refine lv_iload_n S.1 S.2.1 dX5_distance_10 rfl (lv_at hl 2 rfl) ?_
  refine mi_cR (mi_runV (P := mo_W D A ad cf0 f g) (As := [.int (nI (b))]) (rest := [.ref (ad 1000020)]) S E hS hM (ad 1000020) (c_isCoin_y l D A (f := f) (g := g) (n := sC S0) hR.1.2.2.2 (by omega) (by omega)) (hM.recv E) mw_871 mw_868 mw_870 mw_30 mw_43 ⟨by decide, by decide, by decide +kernel⟩ ⟨rfl, rfl, Nat.le_of_ble_eq_true rfl, Nat.le_of_ble_eq_true rfl⟩ (n := 1) rfl hl.1 rfl (Nat.le_of_ble_eq_true rfl) dX5_distance_11 ⟨Nat.le_of_ble_eq_true rfl, Nat.le_of_ble_eq_true rfl⟩) (fun r9 e9 => ?_)
  subst e9
  refine mi_if_eq (tgt := 21) S (by omega) dX5_distance_14 (by decide) (fun c14_1 => by exfalso; omega) (fun c14_1 => ?_)
  refine lv_iconst (v := nI 0) S.1 S.2.1 dX5_distance_17 (by decide) ?_
  refine lv_goto (tgt := 22) S.1 S.2.1 dX5_distance_18 (by decide) ?_
  refine mo_p_44 S E hS hM dX5_distance_22 (fun H locs hM hS => ?_)
  refine lv_iconst (v := nI 0) S.1 S.2.1 dX5_distance_25 (by decide) ?_
  refine lv_istore_n (lv' := [(3, .int (nI (0))), (0, .ref (ad 1000020)), (1, .int (nI (a))), (2, .int (nI (b)))]) S.1 S.2.1 dX5_distance_26 rfl hl (by decide) rfl (fun ls hl => ?_)
  refine lv_iconst (v := nI 0) S.1 S.2.1 dX5_distance_27 (by decide) ?_
  refine lv_istore (lv' := [(4, .int (nI (0))), (3, .int (nI (0))), (0, .ref (ad 1000020)), (1, .int (nI (a))), (2, .int (nI (b)))]) S.1 S.2.1 dX5_distance_28 hl (by decide) rfl (fun ls hl => ?_)
  have lp30 : ∀ (n30 : Nat) (n : Nat) (i : Nat) (ls : Array Slot), 16 - i < n30 → i ≤ 16 → n = sp_ds (sCh S0 a) (sCh S0 b) i → lv_has ls 5 [(0, .ref (ad 1000020)), (1, .int (nI (a))), (2, .int (nI (b))), (3, .int (nI (n))), (4, .int (nI (i)))] → W p l e (mi_rm 3) s m ([.ref (ad 1000020), .int (nI (a)), .int (nI (b))] : List Value).toArray below meth c H locs 0 0 (MQ below (mi_Qi A (fun r H => r = nI (sp_ds (sCh S0 a) (sCh S0 b) 16) ∧ ∃ f1 g1, mo_W D A ad cf0 f1 g1 H ∧ st_mo (S0) f1 g1 ∧ f1 0 = nI 0)) ([.ref (ad 1000020), .int (nI (a)), .int (nI (b))] : List Value).toArray s 0 0 A) (F0 m 30 ls []) := by
    intro n30
    induction n30 with
    | zero => intro n i ls hm hi hn9  hl; exact absurd hm (Nat.not_lt_zero _)
    | succ n30 ih30 =>
      intro n i ls hm hi hn9  hl
      refine lv_iload S.1 S.2.1 dX5_distance_30 (lv_at hl 4 rfl) ?_
      refine lv_bipush (v := nI 16) S.1 S.2.1 dX5_distance_32 (by decide) ?_
      refine mi_icmp_ge (tgt := 80) S (by omega) (by omega) dX5_distance_34 (by decide) (fun c34_3 => ?_) (fun c34_3 => ?_)
      · refine lv_iload_n S.1 S.2.1 dX5_distance_80 rfl (lv_at hl 3 rfl) ?_
        exact mi_retMi S hr hk hS dX5_distance_81 (Nat.le_refl _) (Nat.le_refl _) ⟨(by rw [hn9, show i = 16 by omega]), (upd f 0 (nI (0))), g, hM, st_mo_0 hR _, rfl⟩
      · refine lv_aload_n S.1 S.2.1 dX5_distance_37 rfl (lv_at hl 0 rfl) ?_
        refine mo_g_44 S E hM dX5_distance_38 ?_
        refine mi_top (v' := .int (nI (0))) (rfl) ?_
        refine mi_if_ne (tgt := 80) S (by omega) dX5_distance_41 (by decide) (fun c41_4 => by exfalso; omega) (fun c41_4 => ?_)
        have hf0 := st_cb hO ha (show i < 16 by omega)
        have hf1 := st_cb hO hb (show i < 16 by omega)
        refine lv_iload_n S.1 S.2.1 dX5_distance_44 rfl (lv_at hl 3 rfl) ?_
        refine lv_aload_n S.1 S.2.1 dX5_distance_45 rfl (lv_at hl 0 rfl) ?_
        refine mo_g_32 S E hM dX5_distance_46 ?_
        refine lv_bipush (v := nI 16) S.1 S.2.1 dX5_distance_49 (by decide) ?_
        refine lv_iload_n S.1 S.2.1 dX5_distance_51 rfl (lv_at hl 1 rfl) ?_
        refine mi_imul S dX5_distance_52 ?_
        refine lv_iload S.1 S.2.1 dX5_distance_53 (lv_at hl 4 rfl) ?_
        refine mi_iadd S dX5_distance_55 ?_
        refine mo_ald 11 S E hM rfl (by show _ < 960; omega) dX5_distance_56 ?_
        refine mi_top (v' := .int (nI (sCh S0 a i))) (congrArg Value.int (st_ch hR (by omega) (by omega))) ?_
        refine lv_aload_n S.1 S.2.1 dX5_distance_57 rfl (lv_at hl 0 rfl) ?_
        refine mo_g_32 S E hM dX5_distance_58 ?_
        refine lv_bipush (v := nI 16) S.1 S.2.1 dX5_distance_61 (by decide) ?_
        refine lv_iload_n S.1 S.2.1 dX5_distance_63 rfl (lv_at hl 2 rfl) ?_
        refine mi_imul S dX5_distance_64 ?_
        refine lv_iload S.1 S.2.1 dX5_distance_65 (lv_at hl 4 rfl) ?_
        refine mi_iadd S dX5_distance_67 ?_
        refine mo_ald 11 S E hM rfl (by show _ < 960; omega) dX5_distance_68 ?_
        refine mi_top (v' := .int (nI (sCh S0 b i))) (congrArg Value.int (st_ch hR (by omega) (by omega))) ?_
        refine mi_cR (mi_runS (P := mo_W D A ad cf0 (upd f 0 (nI (0))) g) (As := [.int (nI (sCh S0 a i)), .int (nI (sCh S0 b i))]) (rest := [.int (nI (n))]) S E hS hM (c_far l D A (mo_W D A ad cf0 (upd f 0 (nI (0))) g) (a := sCh S0 a i) (b := sCh S0 b i) (by omega) (by omega)) mw_886 mw_884 mw_885 mw_43 ⟨by decide, by decide, by decide +kernel⟩ ⟨rfl, rfl, Nat.le_of_ble_eq_true rfl, Nat.le_of_ble_eq_true rfl⟩ (n := 2) rfl hl.1 rfl (Nat.le_of_ble_eq_true rfl) dX5_distance_69 ⟨Nat.le_of_ble_eq_true rfl, Nat.le_of_ble_eq_true rfl⟩) (fun r9 e9 => ?_)
        subst e9
        refine mi_iadd S dX5_distance_72 ?_
        refine lv_istore_n (lv' := [(3, .int (nI (n + (sp_df (sCh S0 a i) (sCh S0 b i))))), (0, .ref (ad 1000020)), (1, .int (nI (a))), (2, .int (nI (b))), (4, .int (nI (i)))]) S.1 S.2.1 dX5_distance_73 rfl hl (by decide) rfl (fun ls hl => ?_)
        refine lv_iinc (v := nI (i + 1)) (lv' := [(4, .int (nI (i + 1))), (3, .int (nI (n + (sp_df (sCh S0 a i) (sCh S0 b i))))), (0, .ref (ad 1000020)), (1, .int (nI (a))), (2, .int (nI (b)))]) S.1 S.2.1 dX5_distance_74 hl (k := 4) rfl (mi_inc _) (by decide) rfl (fun ls hl => ?_)
        refine lv_goto (tgt := 30) S.1 S.2.1 dX5_distance_77 (by decide) ?_
        exact ih30 (n + (sp_df (sCh S0 a i) (sCh S0 b i))) (i + 1) _ (by omega) (by omega) (by rw [sp_ds_s, ← hn9])  (lv_sub hl [2, 3, 4, 1, 0] rfl)
  exact lp30 _ 0 0 _ (Nat.lt_succ_self _) (by omega) (by rfl)  (lv_sub hl [2, 3, 4, 1, 0] rfl)
set_option maxHeartbeats 4000000 in
set_option maxRecDepth 100000 in
theorem c_mdistance_1 (l : Launch) (D : va_G) (A : Nat → Prop) {ad : Nat → Nat} {cf0 : Nat → Option va_E} {f : Nat → Int32} {g : Nat → Nat → Int32} {S0 : sT} (hR : st_mo S0 f g) (hO : st_ok S0) {y : Int32} {x : Int32} (h9 : ¬ (0 ≤ x.toInt ∧ x.toInt < sC S0)) : mi_Mi l yX5_distance (Cond.code yX5_distance cX5_distance 5 (some Jvm.ClassFile.FieldType.int)) (mi_rm 3) D A (mo_W D A ad cf0 f g) [.ref (ad 1000020), .int (x), .int (y)] 0 0 (fun r H => mo_W D A ad cf0 (upd f 0 (nI 1)) g H) := by
  refine mi_start (cc := cX5_distance) (nL := 5) (ret := (some Jvm.ClassFile.FieldType.int)) rfl (by decide) (Nat.le_of_ble_eq_true rfl) ?_
  intro p e s m below meth c ls S E hM hS hr hk hn hl
  have S : CallFix p m c cX5_distance 5 s _ ((Cond.code yX5_distance cX5_distance 5 (some Jvm.ClassFile.FieldType.int)) :: mi_G) RX5 := S
  have hl : lv_has ls 5 [(0, .ref (ad 1000020)), (1, .int (x)), (2, .int (y))] := hl
  obtain ⟨⟨o1, o2, o3, o4, o5⟩, oP, oK, oD, oX, oC, oI⟩ := id hO
  have hw : sW S0 < 61 := by omega
  have hK := st_mo_K hR o3
  have hKb : ∀ j, j < 128 → sK S0 (sW S0) j < 4 := fun j hj => oK _ _ o3 hj
  refine lv_aload_n S.1 S.2.1 dX5_distance_0 rfl (lv_at hl 0 rfl) ?_
  refine lv_aload_n S.1 S.2.1 dX5_distance_1 rfl (lv_at hl 0 rfl) ?_
  refine lv_iload_n S.1 S.2.1 dX5_distance_2 rfl (lv_at hl 1 rfl) ?_
  refine mi_cR (mi_runV (P := mo_W D A ad cf0 f g) (As := [.int (x)]) (rest := [.ref (ad 1000020)]) S E hS hM (ad 1000020) (c_isCoin_n l D A (f := f) (g := g) (n := sC S0) hR.1.2.2.2 (by omega) h9) (hM.recv E) mw_871 mw_868 mw_870 mw_30 mw_43 ⟨by decide, by decide, by decide +kernel⟩ ⟨rfl, rfl, Nat.le_of_ble_eq_true rfl, Nat.le_of_ble_eq_true rfl⟩ (n := 1) rfl hl.1 rfl (Nat.le_of_ble_eq_true rfl) dX5_distance_3 ⟨Nat.le_of_ble_eq_true rfl, Nat.le_of_ble_eq_true rfl⟩) (fun r9 e9 => ?_)
  subst e9
  refine mi_if_eq (tgt := 21) S (by omega) dX5_distance_6 (by decide) (fun c6_0 => ?_) (fun c6_0 => by exfalso; omega)
  refine lv_iconst (v := nI 1) S.1 S.2.1 dX5_distance_21 (by decide) ?_
  refine mo_p_44 S E hS hM dX5_distance_22 (fun H locs hM hS => ?_)
  refine lv_iconst (v := nI 0) S.1 S.2.1 dX5_distance_25 (by decide) ?_
  refine lv_istore_n (lv' := [(3, .int (nI (0))), (0, .ref (ad 1000020)), (1, .int (x)), (2, .int (y))]) S.1 S.2.1 dX5_distance_26 rfl hl (by decide) rfl (fun ls hl => ?_)
  refine lv_iconst (v := nI 0) S.1 S.2.1 dX5_distance_27 (by decide) ?_
  refine lv_istore (lv' := [(4, .int (nI (0))), (3, .int (nI (0))), (0, .ref (ad 1000020)), (1, .int (x)), (2, .int (y))]) S.1 S.2.1 dX5_distance_28 hl (by decide) rfl (fun ls hl => ?_)
  refine lv_iload S.1 S.2.1 dX5_distance_30 (lv_at hl 0 rfl) ?_
  refine lv_bipush (v := nI 16) S.1 S.2.1 dX5_distance_32 (by decide) ?_
  refine mi_icmp_ge (tgt := 80) S (by omega) (by omega) dX5_distance_34 (by decide) (fun c34_2 => by exfalso; omega) (fun c34_2 => ?_)
  refine lv_aload_n S.1 S.2.1 dX5_distance_37 rfl (lv_at hl 2 rfl) ?_
  refine mo_g_44 S E hM dX5_distance_38 ?_
  refine mi_top (v' := .int (nI (1))) (rfl) ?_
  refine mi_if_ne (tgt := 80) S (by omega) dX5_distance_41 (by decide) (fun c41_3 => ?_) (fun c41_3 => by exfalso; omega)
  refine lv_iload_n S.1 S.2.1 dX5_distance_80 rfl (lv_at hl 1 rfl) ?_
  exact mi_retMi S hr hk hS dX5_distance_81 (Nat.le_refl _) (Nat.le_refl _) (hM)
set_option maxHeartbeats 4000000 in
set_option maxRecDepth 100000 in
theorem c_mdistance_2 (l : Launch) (D : va_G) (A : Nat → Prop) {ad : Nat → Nat} {cf0 : Nat → Option va_E} {f : Nat → Int32} {g : Nat → Nat → Int32} {S0 : sT} (hR : st_mo S0 f g) (hO : st_ok S0) {a : Nat} (ha : a < sC S0) {x : Int32} (h9 : ¬ (0 ≤ x.toInt ∧ x.toInt < sC S0)) : mi_Mi l yX5_distance (Cond.code yX5_distance cX5_distance 5 (some Jvm.ClassFile.FieldType.int)) (mi_rm 3) D A (mo_W D A ad cf0 f g) [.ref (ad 1000020), .int (nI (a)), .int (x)] 0 0 (fun r H => mo_W D A ad cf0 (upd f 0 (nI 1)) g H) := by
  refine mi_start (cc := cX5_distance) (nL := 5) (ret := (some Jvm.ClassFile.FieldType.int)) rfl (by decide) (Nat.le_of_ble_eq_true rfl) ?_
  intro p e s m below meth c ls S E hM hS hr hk hn hl
  have S : CallFix p m c cX5_distance 5 s _ ((Cond.code yX5_distance cX5_distance 5 (some Jvm.ClassFile.FieldType.int)) :: mi_G) RX5 := S
  have hl : lv_has ls 5 [(0, .ref (ad 1000020)), (1, .int (nI (a))), (2, .int (x))] := hl
  obtain ⟨⟨o1, o2, o3, o4, o5⟩, oP, oK, oD, oX, oC, oI⟩ := id hO
  have hw : sW S0 < 61 := by omega
  have hK := st_mo_K hR o3
  have hKb : ∀ j, j < 128 → sK S0 (sW S0) j < 4 := fun j hj => oK _ _ o3 hj
  refine lv_aload_n S.1 S.2.1 dX5_distance_0 rfl (lv_at hl 0 rfl) ?_
  refine lv_aload_n S.1 S.2.1 dX5_distance_1 rfl (lv_at hl 0 rfl) ?_
  refine lv_iload_n S.1 S.2.1 dX5_distance_2 rfl (lv_at hl 1 rfl) ?_
  refine mi_cR (mi_runV (P := mo_W D A ad cf0 f g) (As := [.int (nI (a))]) (rest := [.ref (ad 1000020)]) S E hS hM (ad 1000020) (c_isCoin_y l D A (f := f) (g := g) (n := sC S0) hR.1.2.2.2 (by omega) (by omega)) (hM.recv E) mw_871 mw_868 mw_870 mw_30 mw_43 ⟨by decide, by decide, by decide +kernel⟩ ⟨rfl, rfl, Nat.le_of_ble_eq_true rfl, Nat.le_of_ble_eq_true rfl⟩ (n := 1) rfl hl.1 rfl (Nat.le_of_ble_eq_true rfl) dX5_distance_3 ⟨Nat.le_of_ble_eq_true rfl, Nat.le_of_ble_eq_true rfl⟩) (fun r9 e9 => ?_)
  subst e9
  refine mi_if_eq (tgt := 21) S (by omega) dX5_distance_6 (by decide) (fun c6_0 => by exfalso; omega) (fun c6_0 => ?_)
  refine lv_aload_n S.1 S.2.1 dX5_distance_9 rfl (lv_at hl 0 rfl) ?_
  refine lv_iload_n S.1 S.2.1 dX5_distance_10 rfl (lv_at hl 2 rfl) ?_
  refine mi_cR (mi_runV (P := mo_W D A ad cf0 f g) (As := [.int (x)]) (rest := [.ref (ad 1000020)]) S E hS hM (ad 1000020) (c_isCoin_n l D A (f := f) (g := g) (n := sC S0) hR.1.2.2.2 (by omega) h9) (hM.recv E) mw_871 mw_868 mw_870 mw_30 mw_43 ⟨by decide, by decide, by decide +kernel⟩ ⟨rfl, rfl, Nat.le_of_ble_eq_true rfl, Nat.le_of_ble_eq_true rfl⟩ (n := 1) rfl hl.1 rfl (Nat.le_of_ble_eq_true rfl) dX5_distance_11 ⟨Nat.le_of_ble_eq_true rfl, Nat.le_of_ble_eq_true rfl⟩) (fun r9 e9 => ?_)
  subst e9
  refine mi_if_eq (tgt := 21) S (by omega) dX5_distance_14 (by decide) (fun c14_1 => ?_) (fun c14_1 => by exfalso; omega)
  refine lv_iconst (v := nI 1) S.1 S.2.1 dX5_distance_21 (by decide) ?_
  refine mo_p_44 S E hS hM dX5_distance_22 (fun H locs hM hS => ?_)
  refine lv_iconst (v := nI 0) S.1 S.2.1 dX5_distance_25 (by decide) ?_
  refine lv_istore_n (lv' := [(3, .int (nI (0))), (0, .ref (ad 1000020)), (1, .int (nI (a))), (2, .int (x))]) S.1 S.2.1 dX5_distance_26 rfl hl (by decide) rfl (fun ls hl => ?_)
  refine lv_iconst (v := nI 0) S.1 S.2.1 dX5_distance_27 (by decide) ?_
  refine lv_istore (lv' := [(4, .int (nI (0))), (3, .int (nI (0))), (0, .ref (ad 1000020)), (1, .int (nI (a))), (2, .int (x))]) S.1 S.2.1 dX5_distance_28 hl (by decide) rfl (fun ls hl => ?_)
  refine lv_iload S.1 S.2.1 dX5_distance_30 (lv_at hl 0 rfl) ?_
  refine lv_bipush (v := nI 16) S.1 S.2.1 dX5_distance_32 (by decide) ?_
  refine mi_icmp_ge (tgt := 80) S (by omega) (by omega) dX5_distance_34 (by decide) (fun c34_3 => by exfalso; omega) (fun c34_3 => ?_)
  refine lv_aload_n S.1 S.2.1 dX5_distance_37 rfl (lv_at hl 2 rfl) ?_
  refine mo_g_44 S E hM dX5_distance_38 ?_
  refine mi_top (v' := .int (nI (1))) (rfl) ?_
  refine mi_if_ne (tgt := 80) S (by omega) dX5_distance_41 (by decide) (fun c41_4 => ?_) (fun c41_4 => by exfalso; omega)
  refine lv_iload_n S.1 S.2.1 dX5_distance_80 rfl (lv_at hl 1 rfl) ?_
  exact mi_retMi S hr hk hS dX5_distance_81 (Nat.le_refl _) (Nat.le_refl _) (hM)
set_option maxHeartbeats 4000000 in
set_option maxRecDepth 100000 in
theorem c_mstrike (l : Launch) (D : va_G) (A : Nat → Prop) {ad : Nat → Nat} {cf0 : Nat → Option va_E} {f : Nat → Int32} {g : Nat → Nat → Int32} {S0 : sT} (hR : st_mo S0 f g) (hO : st_ok S0) {d : Nat} (hd : d < sD S0) (h60 : sC S0 < 60) : mi_Mi l yX5_strike (Cond.code yX5_strike cX5_strike 4 (some Jvm.ClassFile.FieldType.int)) (mi_rm 3) D A (mo_W D A ad cf0 f g) [.ref (ad 1000020), .int (nI (d))] 0 0 (fun r H => r = nI (sC S0) ∧ ∃ f1 g1, mo_W D A ad cf0 f1 g1 H ∧ st_mo (st_strike S0 d) f1 g1 ∧ f1 0 = nI 0) := by
  refine mi_start (cc := cX5_strike) (nL := 4) (ret := (some Jvm.ClassFile.FieldType.int)) rfl (by decide) (Nat.le_of_ble_eq_true rfl) ?_
  intro p e s m below meth c ls S E hM hS hr hk hn hl
  have S : CallFix p m c cX5_strike 4 s _ ((Cond.code yX5_strike cX5_strike 4 (some Jvm.ClassFile.FieldType.int)) :: mi_G) RX5 := S
  have hl : lv_has ls 4 [(0, .ref (ad 1000020)), (1, .int (nI (d)))] := hl
  obtain ⟨⟨o1, o2, o3, o4, o5⟩, oP, oK, oD, oX, oC, oI⟩ := id hO
  have hw : sW S0 < 61 := by omega
  have hK := st_mo_K hR o3
  have hKb : ∀ j, j < 128 → sK S0 (sW S0) j < 4 := fun j hj => oK _ _ o3 hj
  have oXd := oX d hd
  refine lv_aload_n S.1 S.2.1 dX5_strike_0 rfl (lv_at hl 0 rfl) ?_
  refine lv_aload_n S.1 S.2.1 dX5_strike_1 rfl (lv_at hl 0 rfl) ?_
  refine lv_iload_n S.1 S.2.1 dX5_strike_2 rfl (lv_at hl 1 rfl) ?_
  refine mi_cR (mi_runV (P := mo_W D A ad cf0 f g) (As := [.int (nI (d))]) (rest := [.ref (ad 1000020)]) S E hS hM (ad 1000020) (c_isDie_y l D A (f := f) (g := g) (n := sD S0) hR.1.2.2.1 (by omega) (by omega)) (hM.recv E) mw_863 mw_860 mw_862 mw_29 mw_43 ⟨by decide, by decide, by decide +kernel⟩ ⟨rfl, rfl, Nat.le_of_ble_eq_true rfl, Nat.le_of_ble_eq_true rfl⟩ (n := 1) rfl hl.1 rfl (Nat.le_of_ble_eq_true rfl) dX5_strike_3 ⟨Nat.le_of_ble_eq_true rfl, Nat.le_of_ble_eq_true rfl⟩) (fun r9 e9 => ?_)
  subst e9
  refine mi_if_ne (tgt := 13) S (by omega) dX5_strike_6 (by decide) (fun c6_0 => ?_) (fun c6_0 => by exfalso; omega)
  refine lv_aload_n S.1 S.2.1 dX5_strike_13 rfl (lv_at hl 0 rfl) ?_
  refine mo_g_107 S E hM dX5_strike_14 ?_
  refine mi_top (v' := .int (nI (sC S0))) (congrArg Value.int hR.1.2.2.2) ?_
  refine lv_bipush (v := nI 60) S.1 S.2.1 dX5_strike_17 (by decide) ?_
  refine mi_icmp_ne (tgt := 26) S (by omega) (by omega) dX5_strike_19 (by decide) (fun c19_1 => ?_) (fun c19_1 => by exfalso; omega)
  refine lv_iconst (v := nI 0) S.1 S.2.1 dX5_strike_26 (by decide) ?_
  refine mo_p_44 S E hS hM dX5_strike_27 (fun H locs hM hS => ?_)
  refine lv_aload_n S.1 S.2.1 dX5_strike_30 rfl (lv_at hl 0 rfl) ?_
  refine mo_g_44 S E hM dX5_strike_31 ?_
  refine mi_top (v' := .int (nI (0))) (rfl) ?_
  refine mi_if_le (tgt := 39) S (by omega) dX5_strike_34 (by decide) (fun c34_3 => ?_) (fun c34_3 => by exfalso; omega)
  refine lv_iconst (v := nI 0) S.1 S.2.1 dX5_strike_39 (by decide) ?_
  refine lv_istore_n (lv' := [(2, .int (nI (0))), (0, .ref (ad 1000020)), (1, .int (nI (d)))]) S.1 S.2.1 dX5_strike_40 rfl hl (by decide) rfl (fun ls hl => ?_)
  have lp41 : ∀ (n41 : Nat) (i : Nat) (H : Heap) (locs : List Loc) (ls : Array Slot), 16 - i < n41 → i ≤ 16 → mo_W D A ad cf0 (upd f 0 (nI (0))) (va_up g 11 (mo_ly (g 11) (sC S0) (sH S0 d) i)) H → va_S A s.heap H locs → lv_has ls 4 [(0, .ref (ad 1000020)), (1, .int (nI (d))), (2, .int (nI (i)))] → W p l e (mi_rm 3) s m ([.ref (ad 1000020), .int (nI (d))] : List Value).toArray below meth c H locs 0 0 (MQ below (mi_Qi A (fun r H => r = nI (sC S0) ∧ ∃ f1 g1, mo_W D A ad cf0 f1 g1 H ∧ st_mo (st_strike S0 d) f1 g1 ∧ f1 0 = nI 0)) ([.ref (ad 1000020), .int (nI (d))] : List Value).toArray s 0 0 A) (F0 m 41 ls []) := by
    intro n41
    induction n41 with
    | zero => intro i H locs ls hm hi hM hS hl; exact absurd hm (Nat.not_lt_zero _)
    | succ n41 ih41 =>
      intro i H locs ls hm hi hM hS hl
      refine lv_iload_n S.1 S.2.1 dX5_strike_41 rfl (lv_at hl 2 rfl) ?_
      refine lv_bipush (v := nI 16) S.1 S.2.1 dX5_strike_42 (by decide) ?_
      refine mi_icmp_ge (tgt := 78) S (by omega) (by omega) dX5_strike_44 (by decide) (fun c44_4 => ?_) (fun c44_4 => ?_)
      · have h16 : i = 16 := by omega
        rw [h16] at hM
        refine lv_aload_n S.1 S.2.1 dX5_strike_78 rfl (lv_at hl 0 rfl) ?_
        refine mo_g_29 S E hM dX5_strike_79 ?_
        refine lv_iload_n S.1 S.2.1 dX5_strike_82 rfl (lv_at hl 1 rfl) ?_
        refine lv_dup2_11 S.1 S.2.1 dX5_strike_83 rfl rfl ?_
        refine mo_ald 9 S E hM rfl (by show _ < 8; omega) dX5_strike_84 ?_
        refine mi_top (v' := .int (nI (sX S0 d))) (congrArg Value.int (st_sx hR (by omega))) ?_
        refine lv_iconst (v := nI 1) S.1 S.2.1 dX5_strike_85 (by decide) ?_
        refine mi_iadd S dX5_strike_86 ?_
        refine mo_ast 9 S E hS hM rfl (by show _ < 8; omega) dX5_strike_87 (fun H locs hM hS => ?_)
        refine lv_aload_n S.1 S.2.1 dX5_strike_88 rfl (lv_at hl 0 rfl) ?_
        refine mo_g_35 S E hM dX5_strike_89 ?_
        refine lv_aload_n S.1 S.2.1 dX5_strike_92 rfl (lv_at hl 0 rfl) ?_
        refine mo_g_107 S E hM dX5_strike_93 ?_
        refine mi_top (v' := .int (nI (sC S0))) (congrArg Value.int hR.1.2.2.2) ?_
        refine lv_iload_n S.1 S.2.1 dX5_strike_96 rfl (lv_at hl 1 rfl) ?_
        refine mo_ast 12 S E hS hM rfl (by show _ < 60; omega) dX5_strike_97 (fun H locs hM hS => ?_)
        refine lv_aload_n S.1 S.2.1 dX5_strike_98 rfl (lv_at hl 0 rfl) ?_
        refine mo_g_38 S E hM dX5_strike_99 ?_
        refine lv_aload_n S.1 S.2.1 dX5_strike_102 rfl (lv_at hl 0 rfl) ?_
        refine mo_g_107 S E hM dX5_strike_103 ?_
        refine mi_top (v' := .int (nI (sC S0))) (congrArg Value.int hR.1.2.2.2) ?_
        refine lv_aload_n S.1 S.2.1 dX5_strike_106 rfl (lv_at hl 0 rfl) ?_
        refine mo_g_29 S E hM dX5_strike_107 ?_
        refine lv_iload_n S.1 S.2.1 dX5_strike_110 rfl (lv_at hl 1 rfl) ?_
        refine mo_ald 9 S E hM rfl (by show _ < 8; omega) dX5_strike_111 ?_
        refine mi_top (v' := .int (nI (sX S0 d + 1))) (congrArg Value.int (if_pos rfl)) ?_
        refine mo_ast 13 S E hS hM rfl (by show _ < 60; omega) dX5_strike_112 (fun H locs hM hS => ?_)
        refine lv_aload_n S.1 S.2.1 dX5_strike_113 rfl (lv_at hl 0 rfl) ?_
        refine lv_dup S.1 S.2.1 dX5_strike_114 rfl ?_
        refine mo_g_107 S E hM dX5_strike_115 ?_
        refine mi_top (v' := .int (nI (sC S0))) (congrArg Value.int hR.1.2.2.2) ?_
        refine lv_iconst (v := nI 1) S.1 S.2.1 dX5_strike_118 (by decide) ?_
        refine mi_iadd S dX5_strike_119 ?_
        refine mo_p_107 S E hS hM dX5_strike_120 (fun H locs hM hS => ?_)
        refine lv_aload_n S.1 S.2.1 dX5_strike_123 rfl (lv_at hl 0 rfl) ?_
        refine mo_g_29 S E hM dX5_strike_124 ?_
        refine lv_iload_n S.1 S.2.1 dX5_strike_127 rfl (lv_at hl 1 rfl) ?_
        refine mo_ald 9 S E hM rfl (by show _ < 8; omega) dX5_strike_128 ?_
        refine mi_top (v' := .int (nI (sX S0 d + 1))) (congrArg Value.int (if_pos rfl)) ?_
        refine lv_iconst (v := nI 2) S.1 S.2.1 dX5_strike_129 (by decide) ?_
        refine mi_irem S (by omega) (by omega) (by omega) dX5_strike_130 ?_
        refine mi_if_ne (tgt := 205) S (by omega) dX5_strike_131 (by decide) (fun c131_6 => ?_) (fun c131_6 => ?_)
        · refine lv_aload_n S.1 S.2.1 dX5_strike_205 rfl (lv_at hl 0 rfl) ?_
          refine mo_g_107 S E hM dX5_strike_206 ?_
          refine mi_top (v' := .int (nI ((sC S0) + 1))) (rfl) ?_
          refine lv_iconst (v := nI 1) S.1 S.2.1 dX5_strike_209 (by decide) ?_
          refine mi_isub S (by omega) dX5_strike_210 ?_
          exact mi_retMi S hr hk hS dX5_strike_211 (Nat.le_refl _) (Nat.le_refl _) ⟨rfl, (upd (upd f 0 (nI (0))) 10 (nI ((sC S0) + 1))), (va_up (va_up (va_up (va_up g 11 (mo_ly (g 11) (sC S0) (sH S0 d) 16)) 9 (upd ((va_up g 11 (mo_ly (g 11) (sC S0) (sH S0 d) 16)) 9) (d) (nI ((sX S0 d) + 1)))) 12 (upd ((va_up (va_up g 11 (mo_ly (g 11) (sC S0) (sH S0 d) 16)) 9 (upd ((va_up g 11 (mo_ly (g 11) (sC S0) (sH S0 d) 16)) 9) (d) (nI ((sX S0 d) + 1)))) 12) (sC S0) (nI (d)))) 13 (upd ((va_up (va_up (va_up g 11 (mo_ly (g 11) (sC S0) (sH S0 d) 16)) 9 (upd ((va_up g 11 (mo_ly (g 11) (sC S0) (sH S0 d) 16)) 9) (d) (nI ((sX S0 d) + 1)))) 12 (upd ((va_up (va_up g 11 (mo_ly (g 11) (sC S0) (sH S0 d) 16)) 9 (upd ((va_up g 11 (mo_ly (g 11) (sC S0) (sH S0 d) 16)) 9) (d) (nI ((sX S0 d) + 1)))) 12) (sC S0) (nI (d)))) 13) (sC S0) (nI (sX S0 d + 1)))), hM, st_mo_strike (st_mo_0 hR (nI 0)) rfl rfl rfl rfl rfl rfl rfl rfl rfl rfl rfl (st_nowear hR (by omega)), rfl⟩
        · refine lv_bipush (v := nI 16) S.1 S.2.1 dX5_strike_134 (by decide) ?_
          refine lv_iload_n S.1 S.2.1 dX5_strike_136 rfl (lv_at hl 1 rfl) ?_
          refine mi_imul S dX5_strike_137 ?_
          refine lv_istore_n (lv' := [(2, .int (nI (16 * d))), (0, .ref (ad 1000020)), (1, .int (nI (d)))]) S.1 S.2.1 dX5_strike_138 rfl hl (by decide) rfl (fun ls hl => ?_)
          refine lv_bipush (v := nI 16) S.1 S.2.1 dX5_strike_139 (by decide) ?_
          refine lv_iload_n S.1 S.2.1 dX5_strike_141 rfl (lv_at hl 2 rfl) ?_
          refine mi_imul S dX5_strike_142 ?_
          refine lv_istore_n (lv' := [(3, .int (nI (16 * d))), (2, .int (nI (16 * d))), (0, .ref (ad 1000020)), (1, .int (nI (d)))]) S.1 S.2.1 dX5_strike_143 rfl hl (by decide) rfl (fun ls hl => ?_)
          have lp144 : ∀ (n144 : Nat) (t : Nat) (i : Nat) (ls : Array Slot), 16 * d + 16 - i < n144 → 16 * d ≤ i ∧ i ≤ 16 * d + 16 → t = 16 * d + wr_mx (sH S0 d) (i - 16 * d) → t < 16 * d + 16 → lv_has ls 4 [(0, .ref (ad 1000020)), (1, .int (nI (d))), (2, .int (nI (t))), (3, .int (nI (i)))] → W p l e (mi_rm 3) s m ([.ref (ad 1000020), .int (nI (d))] : List Value).toArray below meth c H locs 0 0 (MQ below (mi_Qi A (fun r H => r = nI (sC S0) ∧ ∃ f1 g1, mo_W D A ad cf0 f1 g1 H ∧ st_mo (st_strike S0 d) f1 g1 ∧ f1 0 = nI 0)) ([.ref (ad 1000020), .int (nI (d))] : List Value).toArray s 0 0 A) (F0 m 144 ls []) := by
            intro n144
            induction n144 with
            | zero => intro t i ls hm hi ht9 htb  hl; exact absurd hm (Nat.not_lt_zero _)
            | succ n144 ih144 =>
              intro t i ls hm hi ht9 htb  hl
              refine lv_iload_n S.1 S.2.1 dX5_strike_144 rfl (lv_at hl 3 rfl) ?_
              refine lv_bipush (v := nI 16) S.1 S.2.1 dX5_strike_145 (by decide) ?_
              refine lv_iload_n S.1 S.2.1 dX5_strike_147 rfl (lv_at hl 1 rfl) ?_
              refine mi_imul S dX5_strike_148 ?_
              refine lv_bipush (v := nI 16) S.1 S.2.1 dX5_strike_149 (by decide) ?_
              refine mi_iadd S dX5_strike_151 ?_
              refine mi_icmp_ge (tgt := 182) S (by omega) (by omega) dX5_strike_152 (by decide) (fun c152_7 => ?_) (fun c152_7 => ?_)
              · have h169 : i - 16 * d = 16 := by omega
                have hb2 := st_hb hO hd (show t - 16 * d < 16 by omega)
                refine lv_aload_n S.1 S.2.1 dX5_strike_182 rfl (lv_at hl 0 rfl) ?_
                refine mo_g_26 S E hM dX5_strike_183 ?_
                refine lv_iload_n S.1 S.2.1 dX5_strike_186 rfl (lv_at hl 2 rfl) ?_
                refine lv_dup2_11 S.1 S.2.1 dX5_strike_187 rfl rfl ?_
                refine mo_ald 8 S E hM rfl (by show _ < 128; omega) dX5_strike_188 ?_
                refine mi_top (v' := .int (nI (sH S0 d (t - 16 * d)))) (congrArg Value.int (st_dhi hR hd (by omega) (by omega))) ?_
                refine lv_aload_n S.1 S.2.1 dX5_strike_189 rfl (lv_at hl 0 rfl) ?_
                refine mo_g_26 S E hM dX5_strike_190 ?_
                refine lv_iload_n S.1 S.2.1 dX5_strike_193 rfl (lv_at hl 2 rfl) ?_
                refine mo_ald 8 S E hM rfl (by show _ < 128; omega) dX5_strike_194 ?_
                refine mi_top (v' := .int (nI (sH S0 d (t - 16 * d)))) (congrArg Value.int (st_dhi hR hd (by omega) (by omega))) ?_
                refine mi_if_le (tgt := 202) S (by omega) dX5_strike_195 (by decide) (fun c195_8 => ?_) (fun c195_8 => ?_)
                · refine lv_iconst (v := nI 0) S.1 S.2.1 dX5_strike_202 (by decide) ?_
                  refine mi_isub S (by omega) dX5_strike_203 ?_
                  refine mo_ast 8 S E hS hM rfl (by show _ < 128; omega) dX5_strike_204 (fun H locs hM hS => ?_)
                  refine lv_aload_n S.1 S.2.1 dX5_strike_205 rfl (lv_at hl 0 rfl) ?_
                  refine mo_g_107 S E hM dX5_strike_206 ?_
                  refine mi_top (v' := .int (nI ((sC S0) + 1))) (rfl) ?_
                  refine lv_iconst (v := nI 1) S.1 S.2.1 dX5_strike_209 (by decide) ?_
                  refine mi_isub S (by omega) dX5_strike_210 ?_
                  exact mi_retMi S hr hk hS dX5_strike_211 (Nat.le_refl _) (Nat.le_refl _) ⟨rfl, (upd (upd f 0 (nI (0))) 10 (nI ((sC S0) + 1))), (va_up (va_up (va_up (va_up (va_up g 11 (mo_ly (g 11) (sC S0) (sH S0 d) 16)) 9 (upd ((va_up g 11 (mo_ly (g 11) (sC S0) (sH S0 d) 16)) 9) (d) (nI ((sX S0 d) + 1)))) 12 (upd ((va_up (va_up g 11 (mo_ly (g 11) (sC S0) (sH S0 d) 16)) 9 (upd ((va_up g 11 (mo_ly (g 11) (sC S0) (sH S0 d) 16)) 9) (d) (nI ((sX S0 d) + 1)))) 12) (sC S0) (nI (d)))) 13 (upd ((va_up (va_up (va_up g 11 (mo_ly (g 11) (sC S0) (sH S0 d) 16)) 9 (upd ((va_up g 11 (mo_ly (g 11) (sC S0) (sH S0 d) 16)) 9) (d) (nI ((sX S0 d) + 1)))) 12 (upd ((va_up (va_up g 11 (mo_ly (g 11) (sC S0) (sH S0 d) 16)) 9 (upd ((va_up g 11 (mo_ly (g 11) (sC S0) (sH S0 d) 16)) 9) (d) (nI ((sX S0 d) + 1)))) 12) (sC S0) (nI (d)))) 13) (sC S0) (nI (sX S0 d + 1)))) 8 (upd ((va_up (va_up (va_up (va_up g 11 (mo_ly (g 11) (sC S0) (sH S0 d) 16)) 9 (upd ((va_up g 11 (mo_ly (g 11) (sC S0) (sH S0 d) 16)) 9) (d) (nI ((sX S0 d) + 1)))) 12 (upd ((va_up (va_up g 11 (mo_ly (g 11) (sC S0) (sH S0 d) 16)) 9 (upd ((va_up g 11 (mo_ly (g 11) (sC S0) (sH S0 d) 16)) 9) (d) (nI ((sX S0 d) + 1)))) 12) (sC S0) (nI (d)))) 13 (upd ((va_up (va_up (va_up g 11 (mo_ly (g 11) (sC S0) (sH S0 d) 16)) 9 (upd ((va_up g 11 (mo_ly (g 11) (sC S0) (sH S0 d) 16)) 9) (d) (nI ((sX S0 d) + 1)))) 12 (upd ((va_up (va_up g 11 (mo_ly (g 11) (sC S0) (sH S0 d) 16)) 9 (upd ((va_up g 11 (mo_ly (g 11) (sC S0) (sH S0 d) 16)) 9) (d) (nI ((sX S0 d) + 1)))) 12) (sC S0) (nI (d)))) 13) (sC S0) (nI (sX S0 d + 1)))) 8) (t) (nI ((sH S0 d (t - 16 * d)) - 0)))), hM, st_mo_strike (st_mo_0 hR (nI 0)) rfl rfl rfl rfl rfl rfl rfl rfl rfl rfl rfl (st_wear hR hd (by rw [ht9, h169]) (by first | rfl | omega) (by omega)), rfl⟩
                · refine lv_iconst (v := nI 1) S.1 S.2.1 dX5_strike_198 (by decide) ?_
                  refine lv_goto (tgt := 203) S.1 S.2.1 dX5_strike_199 (by decide) ?_
                  refine mi_isub S (by omega) dX5_strike_203 ?_
                  refine mo_ast 8 S E hS hM rfl (by show _ < 128; omega) dX5_strike_204 (fun H locs hM hS => ?_)
                  refine lv_aload_n S.1 S.2.1 dX5_strike_205 rfl (lv_at hl 0 rfl) ?_
                  refine mo_g_107 S E hM dX5_strike_206 ?_
                  refine mi_top (v' := .int (nI ((sC S0) + 1))) (rfl) ?_
                  refine lv_iconst (v := nI 1) S.1 S.2.1 dX5_strike_209 (by decide) ?_
                  refine mi_isub S (by omega) dX5_strike_210 ?_
                  exact mi_retMi S hr hk hS dX5_strike_211 (Nat.le_refl _) (Nat.le_refl _) ⟨rfl, (upd (upd f 0 (nI (0))) 10 (nI ((sC S0) + 1))), (va_up (va_up (va_up (va_up (va_up g 11 (mo_ly (g 11) (sC S0) (sH S0 d) 16)) 9 (upd ((va_up g 11 (mo_ly (g 11) (sC S0) (sH S0 d) 16)) 9) (d) (nI ((sX S0 d) + 1)))) 12 (upd ((va_up (va_up g 11 (mo_ly (g 11) (sC S0) (sH S0 d) 16)) 9 (upd ((va_up g 11 (mo_ly (g 11) (sC S0) (sH S0 d) 16)) 9) (d) (nI ((sX S0 d) + 1)))) 12) (sC S0) (nI (d)))) 13 (upd ((va_up (va_up (va_up g 11 (mo_ly (g 11) (sC S0) (sH S0 d) 16)) 9 (upd ((va_up g 11 (mo_ly (g 11) (sC S0) (sH S0 d) 16)) 9) (d) (nI ((sX S0 d) + 1)))) 12 (upd ((va_up (va_up g 11 (mo_ly (g 11) (sC S0) (sH S0 d) 16)) 9 (upd ((va_up g 11 (mo_ly (g 11) (sC S0) (sH S0 d) 16)) 9) (d) (nI ((sX S0 d) + 1)))) 12) (sC S0) (nI (d)))) 13) (sC S0) (nI (sX S0 d + 1)))) 8 (upd ((va_up (va_up (va_up (va_up g 11 (mo_ly (g 11) (sC S0) (sH S0 d) 16)) 9 (upd ((va_up g 11 (mo_ly (g 11) (sC S0) (sH S0 d) 16)) 9) (d) (nI ((sX S0 d) + 1)))) 12 (upd ((va_up (va_up g 11 (mo_ly (g 11) (sC S0) (sH S0 d) 16)) 9 (upd ((va_up g 11 (mo_ly (g 11) (sC S0) (sH S0 d) 16)) 9) (d) (nI ((sX S0 d) + 1)))) 12) (sC S0) (nI (d)))) 13 (upd ((va_up (va_up (va_up g 11 (mo_ly (g 11) (sC S0) (sH S0 d) 16)) 9 (upd ((va_up g 11 (mo_ly (g 11) (sC S0) (sH S0 d) 16)) 9) (d) (nI ((sX S0 d) + 1)))) 12 (upd ((va_up (va_up g 11 (mo_ly (g 11) (sC S0) (sH S0 d) 16)) 9 (upd ((va_up g 11 (mo_ly (g 11) (sC S0) (sH S0 d) 16)) 9) (d) (nI ((sX S0 d) + 1)))) 12) (sC S0) (nI (d)))) 13) (sC S0) (nI (sX S0 d + 1)))) 8) (t) (nI ((sH S0 d (t - 16 * d)) - 1)))), hM, st_mo_strike (st_mo_0 hR (nI 0)) rfl rfl rfl rfl rfl rfl rfl rfl rfl rfl rfl (st_wear hR hd (by rw [ht9, h169]) (by first | rfl | omega) (by omega)), rfl⟩
              · have hb1 := st_hb hO hd (show i - 16 * d < 16 by omega)
                have hb2 := st_hb hO hd (show t - 16 * d < 16 by omega)
                refine lv_aload_n S.1 S.2.1 dX5_strike_155 rfl (lv_at hl 0 rfl) ?_
                refine mo_g_26 S E hM dX5_strike_156 ?_
                refine lv_iload_n S.1 S.2.1 dX5_strike_159 rfl (lv_at hl 3 rfl) ?_
                refine mo_ald 8 S E hM rfl (by show _ < 128; omega) dX5_strike_160 ?_
                refine mi_top (v' := .int (nI (sH S0 d (i - 16 * d)))) (congrArg Value.int (st_dhi hR hd (by omega) (by omega))) ?_
                refine lv_aload_n S.1 S.2.1 dX5_strike_161 rfl (lv_at hl 0 rfl) ?_
                refine mo_g_26 S E hM dX5_strike_162 ?_
                refine lv_iload_n S.1 S.2.1 dX5_strike_165 rfl (lv_at hl 2 rfl) ?_
                refine mo_ald 8 S E hM rfl (by show _ < 128; omega) dX5_strike_166 ?_
                refine mi_top (v' := .int (nI (sH S0 d (t - 16 * d)))) (congrArg Value.int (st_dhi hR hd (by omega) (by omega))) ?_
                refine mi_icmp_le (tgt := 174) S (by omega) (by omega) dX5_strike_167 (by decide) (fun c167_9 => ?_) (fun c167_9 => ?_)
                · refine lv_iload_n S.1 S.2.1 dX5_strike_174 rfl (lv_at hl 2 rfl) ?_
                  refine lv_istore_n (lv' := [(2, .int (nI (t))), (0, .ref (ad 1000020)), (1, .int (nI (d))), (3, .int (nI (i)))]) S.1 S.2.1 dX5_strike_175 rfl hl (by decide) rfl (fun ls hl => ?_)
                  refine lv_iinc (v := nI (i + 1)) (lv' := [(3, .int (nI (i + 1))), (2, .int (nI (t))), (0, .ref (ad 1000020)), (1, .int (nI (d)))]) S.1 S.2.1 dX5_strike_176 hl (k := 3) rfl (mi_inc _) (by decide) rfl (fun ls hl => ?_)
                  refine lv_goto (tgt := 144) S.1 S.2.1 dX5_strike_179 (by decide) ?_
                  exact ih144 t (i + 1) _ (by omega) (by omega) (by have e9 : t - 16 * d = wr_mx (sH S0 d) (i - 16 * d) := (by omega); rw [show i + 1 - 16 * d = (i - 16 * d) + 1 by omega]; first | (rw [wr_mx_1 (by rw [← e9]; omega)]; omega) | (rw [wr_mx_0 (by rw [← e9]; omega)]; omega)) (by omega)  (lv_sub hl [2, 3, 1, 0] rfl)
                · refine lv_iload_n S.1 S.2.1 dX5_strike_170 rfl (lv_at hl 3 rfl) ?_
                  refine lv_goto (tgt := 175) S.1 S.2.1 dX5_strike_171 (by decide) ?_
                  refine lv_istore_n (lv' := [(2, .int (nI (i))), (0, .ref (ad 1000020)), (1, .int (nI (d))), (3, .int (nI (i)))]) S.1 S.2.1 dX5_strike_175 rfl hl (by decide) rfl (fun ls hl => ?_)
                  refine lv_iinc (v := nI (i + 1)) (lv' := [(3, .int (nI (i + 1))), (2, .int (nI (i))), (0, .ref (ad 1000020)), (1, .int (nI (d)))]) S.1 S.2.1 dX5_strike_176 hl (k := 3) rfl (mi_inc _) (by decide) rfl (fun ls hl => ?_)
                  refine lv_goto (tgt := 144) S.1 S.2.1 dX5_strike_179 (by decide) ?_
                  exact ih144 i (i + 1) _ (by omega) (by omega) (by have e9 : t - 16 * d = wr_mx (sH S0 d) (i - 16 * d) := (by omega); rw [show i + 1 - 16 * d = (i - 16 * d) + 1 by omega]; first | (rw [wr_mx_1 (by rw [← e9]; omega)]; omega) | (rw [wr_mx_0 (by rw [← e9]; omega)]; omega)) (by omega)  (lv_sub hl [2, 3, 1, 0] rfl)
          exact lp144 _ (16 * d) (16 * d) _ (Nat.lt_succ_self _) (by omega) (by rw [show 16 * d - 16 * d = 0 by omega]; rfl) (by omega)  (lv_sub hl [2, 3, 1, 0] rfl)
      · refine lv_aload_n S.1 S.2.1 dX5_strike_47 rfl (lv_at hl 0 rfl) ?_
        refine mo_g_32 S E hM dX5_strike_48 ?_
        refine lv_bipush (v := nI 16) S.1 S.2.1 dX5_strike_51 (by decide) ?_
        refine lv_aload_n S.1 S.2.1 dX5_strike_53 rfl (lv_at hl 0 rfl) ?_
        refine mo_g_107 S E hM dX5_strike_54 ?_
        refine mi_top (v' := .int (nI (sC S0))) (congrArg Value.int hR.1.2.2.2) ?_
        refine mi_imul S dX5_strike_57 ?_
        refine lv_iload_n S.1 S.2.1 dX5_strike_58 rfl (lv_at hl 2 rfl) ?_
        refine mi_iadd S dX5_strike_59 ?_
        refine lv_aload_n S.1 S.2.1 dX5_strike_60 rfl (lv_at hl 0 rfl) ?_
        refine mo_g_26 S E hM dX5_strike_61 ?_
        refine lv_bipush (v := nI 16) S.1 S.2.1 dX5_strike_64 (by decide) ?_
        refine lv_iload_n S.1 S.2.1 dX5_strike_66 rfl (lv_at hl 1 rfl) ?_
        refine mi_imul S dX5_strike_67 ?_
        refine lv_iload_n S.1 S.2.1 dX5_strike_68 rfl (lv_at hl 2 rfl) ?_
        refine mi_iadd S dX5_strike_69 ?_
        refine mo_ald 8 S E hM rfl (by show _ < 128; omega) dX5_strike_70 ?_
        refine mi_top (v' := .int (nI (sH S0 d i))) (congrArg Value.int (st_dh hR (by omega) (by omega))) ?_
        refine mo_ast 11 S E hS hM rfl (by show _ < 960; omega) dX5_strike_71 (fun H locs hM hS => ?_)
        refine lv_iinc (v := nI (i + 1)) (lv' := [(2, .int (nI (i + 1))), (0, .ref (ad 1000020)), (1, .int (nI (d)))]) S.1 S.2.1 dX5_strike_72 hl (k := 2) rfl (mi_inc _) (by decide) rfl (fun ls hl => ?_)
        refine lv_goto (tgt := 41) S.1 S.2.1 dX5_strike_75 (by decide) ?_
        exact ih41 (i + 1) _ _ _ (by omega) (by omega) (by rw [mi_up_up, mi_up_s, mo_ly_step] at hM; exact hM) hS (lv_sub hl [1, 2, 0] rfl)
  exact lp41 _ 0 _ _ _ (Nat.lt_succ_self _) (by omega) (by rw [mo_ly_0, mi_up_fn]; exact hM) hS (lv_sub hl [1, 2, 0] rfl)
set_option maxHeartbeats 4000000 in
set_option maxRecDepth 100000 in
theorem c_mstrike_1 (l : Launch) (D : va_G) (A : Nat → Prop) {ad : Nat → Nat} {cf0 : Nat → Option va_E} {f : Nat → Int32} {g : Nat → Nat → Int32} {S0 : sT} (hR : st_mo S0 f g) (hO : st_ok S0) {x : Int32} (h9 : ¬ (0 ≤ x.toInt ∧ x.toInt < sD S0)) : mi_Mi l yX5_strike (Cond.code yX5_strike cX5_strike 4 (some Jvm.ClassFile.FieldType.int)) (mi_rm 3) D A (mo_W D A ad cf0 f g) [.ref (ad 1000020), .int (x)] 0 0 (fun r H => mo_W D A ad cf0 (upd f 0 (nI 1)) g H) := by
  refine mi_start (cc := cX5_strike) (nL := 4) (ret := (some Jvm.ClassFile.FieldType.int)) rfl (by decide) (Nat.le_of_ble_eq_true rfl) ?_
  intro p e s m below meth c ls S E hM hS hr hk hn hl
  have S : CallFix p m c cX5_strike 4 s _ ((Cond.code yX5_strike cX5_strike 4 (some Jvm.ClassFile.FieldType.int)) :: mi_G) RX5 := S
  have hl : lv_has ls 4 [(0, .ref (ad 1000020)), (1, .int (x))] := hl
  obtain ⟨⟨o1, o2, o3, o4, o5⟩, oP, oK, oD, oX, oC, oI⟩ := id hO
  have hw : sW S0 < 61 := by omega
  have hK := st_mo_K hR o3
  have hKb : ∀ j, j < 128 → sK S0 (sW S0) j < 4 := fun j hj => oK _ _ o3 hj
  refine lv_aload_n S.1 S.2.1 dX5_strike_0 rfl (lv_at hl 0 rfl) ?_
  refine lv_aload_n S.1 S.2.1 dX5_strike_1 rfl (lv_at hl 0 rfl) ?_
  refine lv_iload_n S.1 S.2.1 dX5_strike_2 rfl (lv_at hl 1 rfl) ?_
  refine mi_cR (mi_runV (P := mo_W D A ad cf0 f g) (As := [.int (x)]) (rest := [.ref (ad 1000020)]) S E hS hM (ad 1000020) (c_isDie_n l D A (f := f) (g := g) (n := sD S0) hR.1.2.2.1 (by omega) h9) (hM.recv E) mw_863 mw_860 mw_862 mw_29 mw_43 ⟨by decide, by decide, by decide +kernel⟩ ⟨rfl, rfl, Nat.le_of_ble_eq_true rfl, Nat.le_of_ble_eq_true rfl⟩ (n := 1) rfl hl.1 rfl (Nat.le_of_ble_eq_true rfl) dX5_strike_3 ⟨Nat.le_of_ble_eq_true rfl, Nat.le_of_ble_eq_true rfl⟩) (fun r9 e9 => ?_)
  subst e9
  refine mi_if_ne (tgt := 13) S (by omega) dX5_strike_6 (by decide) (fun c6_0 => by exfalso; omega) (fun c6_0 => ?_)
  refine lv_iconst (v := nI 1) S.1 S.2.1 dX5_strike_9 (by decide) ?_
  refine lv_goto (tgt := 27) S.1 S.2.1 dX5_strike_10 (by decide) ?_
  refine mo_p_44 S E hS hM dX5_strike_27 (fun H locs hM hS => ?_)
  refine lv_aload_n S.1 S.2.1 dX5_strike_30 rfl (lv_at hl 0 rfl) ?_
  refine mo_g_44 S E hM dX5_strike_31 ?_
  refine mi_top (v' := .int (nI (1))) (rfl) ?_
  refine mi_if_le (tgt := 39) S (by omega) dX5_strike_34 (by decide) (fun c34_2 => by exfalso; omega) (fun c34_2 => ?_)
  refine lv_iconst (v := nI 0) S.1 S.2.1 dX5_strike_37 (by decide) ?_
  exact mi_retMi S hr hk hS dX5_strike_38 (Nat.le_refl _) (Nat.le_refl _) (hM)
set_option maxHeartbeats 4000000 in
set_option maxRecDepth 100000 in
theorem c_mstrike_2 (l : Launch) (D : va_G) (A : Nat → Prop) {ad : Nat → Nat} {cf0 : Nat → Option va_E} {f : Nat → Int32} {g : Nat → Nat → Int32} {S0 : sT} (hR : st_mo S0 f g) (hO : st_ok S0) {d : Nat} (hd : d < sD S0) (h60 : sC S0 = 60) : mi_Mi l yX5_strike (Cond.code yX5_strike cX5_strike 4 (some Jvm.ClassFile.FieldType.int)) (mi_rm 3) D A (mo_W D A ad cf0 f g) [.ref (ad 1000020), .int (nI (d))] 0 0 (fun r H => mo_W D A ad cf0 (upd f 0 (nI 2)) g H) := by
  refine mi_start (cc := cX5_strike) (nL := 4) (ret := (some Jvm.ClassFile.FieldType.int)) rfl (by decide) (Nat.le_of_ble_eq_true rfl) ?_
  intro p e s m below meth c ls S E hM hS hr hk hn hl
  have S : CallFix p m c cX5_strike 4 s _ ((Cond.code yX5_strike cX5_strike 4 (some Jvm.ClassFile.FieldType.int)) :: mi_G) RX5 := S
  have hl : lv_has ls 4 [(0, .ref (ad 1000020)), (1, .int (nI (d)))] := hl
  obtain ⟨⟨o1, o2, o3, o4, o5⟩, oP, oK, oD, oX, oC, oI⟩ := id hO
  have hw : sW S0 < 61 := by omega
  have hK := st_mo_K hR o3
  have hKb : ∀ j, j < 128 → sK S0 (sW S0) j < 4 := fun j hj => oK _ _ o3 hj
  refine lv_aload_n S.1 S.2.1 dX5_strike_0 rfl (lv_at hl 0 rfl) ?_
  refine lv_aload_n S.1 S.2.1 dX5_strike_1 rfl (lv_at hl 0 rfl) ?_
  refine lv_iload_n S.1 S.2.1 dX5_strike_2 rfl (lv_at hl 1 rfl) ?_
  refine mi_cR (mi_runV (P := mo_W D A ad cf0 f g) (As := [.int (nI (d))]) (rest := [.ref (ad 1000020)]) S E hS hM (ad 1000020) (c_isDie_y l D A (f := f) (g := g) (n := sD S0) hR.1.2.2.1 (by omega) (by omega)) (hM.recv E) mw_863 mw_860 mw_862 mw_29 mw_43 ⟨by decide, by decide, by decide +kernel⟩ ⟨rfl, rfl, Nat.le_of_ble_eq_true rfl, Nat.le_of_ble_eq_true rfl⟩ (n := 1) rfl hl.1 rfl (Nat.le_of_ble_eq_true rfl) dX5_strike_3 ⟨Nat.le_of_ble_eq_true rfl, Nat.le_of_ble_eq_true rfl⟩) (fun r9 e9 => ?_)
  subst e9
  refine mi_if_ne (tgt := 13) S (by omega) dX5_strike_6 (by decide) (fun c6_0 => ?_) (fun c6_0 => by exfalso; omega)
  refine lv_aload_n S.1 S.2.1 dX5_strike_13 rfl (lv_at hl 0 rfl) ?_
  refine mo_g_107 S E hM dX5_strike_14 ?_
  refine mi_top (v' := .int (nI (sC S0))) (congrArg Value.int hR.1.2.2.2) ?_
  refine lv_bipush (v := nI 60) S.1 S.2.1 dX5_strike_17 (by decide) ?_
  refine mi_icmp_ne (tgt := 26) S (by omega) (by omega) dX5_strike_19 (by decide) (fun c19_1 => by exfalso; omega) (fun c19_1 => ?_)
  refine lv_iconst (v := nI 2) S.1 S.2.1 dX5_strike_22 (by decide) ?_
  refine lv_goto (tgt := 27) S.1 S.2.1 dX5_strike_23 (by decide) ?_
  refine mo_p_44 S E hS hM dX5_strike_27 (fun H locs hM hS => ?_)
  refine lv_aload_n S.1 S.2.1 dX5_strike_30 rfl (lv_at hl 0 rfl) ?_
  refine mo_g_44 S E hM dX5_strike_31 ?_
  refine mi_top (v' := .int (nI (2))) (rfl) ?_
  refine mi_if_le (tgt := 39) S (by omega) dX5_strike_34 (by decide) (fun c34_3 => by exfalso; omega) (fun c34_3 => ?_)
  refine lv_iconst (v := nI 0) S.1 S.2.1 dX5_strike_37 (by decide) ?_
  exact mi_retMi S hr hk hS dX5_strike_38 (Nat.le_refl _) (Nat.le_refl _) (hM)
theorem mi_upd_upd (f : Nat → Int32) (k : Nat) (x y : Int32) : upd (upd f k x) k y = upd f k y := by
  funext j
  show (if j = k then y else (if j = k then x else f j)) = (if j = k then y else f j)
  by_cases h : j = k
  · rw [if_pos h, if_pos h]
  · rw [if_neg h, if_neg h, if_neg h]
theorem mi_inc2 (a : Nat) : nI a + Int32.ofInt 2 = nI (a + 2) := nI_add a 2
theorem mi_nz {v : Nat} (h : v ≤ 1) : narrow .boolean (.int (nI v)) = .int (nI v) := by
  rcases (show v = 0 ∨ v = 1 by omega) with rfl | rfl <;> rfl
set_option maxHeartbeats 4000000 in
set_option maxRecDepth 100000 in
theorem c_mforge (l : Launch) (D : va_G) (A : Nat → Prop) {ad : Nat → Nat} {cf0 : Nat → Option va_E} {f : Nat → Int32} {g : Nat → Nat → Int32} {S0 : sT} (hR : st_mo S0 f g) (hO : st_ok S0) {a d : Nat} (ha : a < sC S0) (hd : d < sD S0) {u : Nat} (hu1 : 1 ≤ u) (hu : u ≤ sX S0 d) (h60 : sC S0 < 60) : mi_Mi l yX5_forge (Cond.code yX5_forge cX5_forge 5 (some Jvm.ClassFile.FieldType.int)) (mi_rm 3) D A (mo_W D A ad cf0 f g) [.ref (ad 1000020), .int (nI (a)), .int (nI (d)), .int (nI (u))] 0 0 (fun r H => r = nI (sC S0) ∧ ∃ f1 g1, mo_W D A ad cf0 f1 g1 H ∧ st_mo (st_forge S0 a d u) f1 g1 ∧ f1 0 = nI 0) := by
  refine mi_start (cc := cX5_forge) (nL := 5) (ret := (some Jvm.ClassFile.FieldType.int)) rfl (by decide) (Nat.le_of_ble_eq_true rfl) ?_
  intro p e s m below meth c ls S E hM hS hr hk hn hl
  have S : CallFix p m c cX5_forge 5 s _ ((Cond.code yX5_forge cX5_forge 5 (some Jvm.ClassFile.FieldType.int)) :: mi_G) RX5 := S
  have hl : lv_has ls 5 [(0, .ref (ad 1000020)), (1, .int (nI (a))), (2, .int (nI (d))), (3, .int (nI (u)))] := hl
  obtain ⟨⟨o1, o2, o3, o4, o5⟩, oP, oK, oD, oX, oC, oI⟩ := id hO
  have hw : sW S0 < 61 := by omega
  have hK := st_mo_K hR o3
  have hKb : ∀ j, j < 128 → sK S0 (sW S0) j < 4 := fun j hj => oK _ _ o3 hj
  have oXd := oX d hd
  refine lv_aload_n S.1 S.2.1 dX5_forge_0 rfl (lv_at hl 0 rfl) ?_
  refine lv_aload_n S.1 S.2.1 dX5_forge_1 rfl (lv_at hl 0 rfl) ?_
  refine lv_iload_n S.1 S.2.1 dX5_forge_2 rfl (lv_at hl 1 rfl) ?_
  refine mi_cR (mi_runV (P := mo_W D A ad cf0 f g) (As := [.int (nI (a))]) (rest := [.ref (ad 1000020)]) S E hS hM (ad 1000020) (c_isCoin_y l D A (f := f) (g := g) (n := sC S0) hR.1.2.2.2 (by omega) (by omega)) (hM.recv E) mw_871 mw_868 mw_870 mw_30 mw_43 ⟨by decide, by decide, by decide +kernel⟩ ⟨rfl, rfl, Nat.le_of_ble_eq_true rfl, Nat.le_of_ble_eq_true rfl⟩ (n := 1) rfl hl.1 rfl (Nat.le_of_ble_eq_true rfl) dX5_forge_3 ⟨Nat.le_of_ble_eq_true rfl, Nat.le_of_ble_eq_true rfl⟩) (fun r9 e9 => ?_)
  subst e9
  refine mi_if_eq (tgt := 17) S (by omega) dX5_forge_6 (by decide) (fun c6_0 => by exfalso; omega) (fun c6_0 => ?_)
  refine lv_aload_n S.1 S.2.1 dX5_forge_9 rfl (lv_at hl 0 rfl) ?_
  refine lv_iload_n S.1 S.2.1 dX5_forge_10 rfl (lv_at hl 2 rfl) ?_
  refine mi_cR (mi_runV (P := mo_W D A ad cf0 f g) (As := [.int (nI (d))]) (rest := [.ref (ad 1000020)]) S E hS hM (ad 1000020) (c_isDie_y l D A (f := f) (g := g) (n := sD S0) hR.1.2.2.1 (by omega) (by omega)) (hM.recv E) mw_863 mw_860 mw_862 mw_29 mw_43 ⟨by decide, by decide, by decide +kernel⟩ ⟨rfl, rfl, Nat.le_of_ble_eq_true rfl, Nat.le_of_ble_eq_true rfl⟩ (n := 1) rfl hl.1 rfl (Nat.le_of_ble_eq_true rfl) dX5_forge_11 ⟨Nat.le_of_ble_eq_true rfl, Nat.le_of_ble_eq_true rfl⟩) (fun r9 e9 => ?_)
  subst e9
  refine mi_if_ne (tgt := 21) S (by omega) dX5_forge_14 (by decide) (fun c14_1 => ?_) (fun c14_1 => by exfalso; omega)
  refine lv_iload_n S.1 S.2.1 dX5_forge_21 rfl (lv_at hl 3 rfl) ?_
  refine lv_iconst (v := nI 1) S.1 S.2.1 dX5_forge_22 (by decide) ?_
  refine lv_bipush (v := nI 60) S.1 S.2.1 dX5_forge_23 (by decide) ?_
  refine mi_cR (mi_runS (P := mo_W D A ad cf0 f g) (As := [.int (nI (u)), .int (nI (1)), .int (nI (60))]) (rest := [.ref (ad 1000020)]) S E hS hM (c_in_y l D A (mo_W D A ad cf0 f g) (by have := nI_toInt (n := u) (by omega); have := nI_toInt (n := 1) (by omega); have := nI_toInt (n := 60) (by omega); omega)) mw_736 mw_734 mw_735 mw_43 ⟨by decide, by decide, by decide +kernel⟩ ⟨rfl, rfl, Nat.le_of_ble_eq_true rfl, Nat.le_of_ble_eq_true rfl⟩ (n := 3) rfl hl.1 rfl (Nat.le_of_ble_eq_true rfl) dX5_forge_25 ⟨Nat.le_of_ble_eq_true rfl, Nat.le_of_ble_eq_true rfl⟩) (fun r9 e9 => ?_)
  subst e9
  refine mi_if_ne (tgt := 35) S (by omega) dX5_forge_28 (by decide) (fun c28_2 => ?_) (fun c28_2 => by exfalso; omega)
  refine lv_iconst (v := nI 0) S.1 S.2.1 dX5_forge_35 (by decide) ?_
  refine mo_p_44 S E hS hM dX5_forge_36 (fun H locs hM hS => ?_)
  refine lv_aload_n S.1 S.2.1 dX5_forge_39 rfl (lv_at hl 0 rfl) ?_
  refine mo_g_44 S E hM dX5_forge_40 ?_
  refine mi_top (v' := .int (nI (0))) (rfl) ?_
  refine mi_if_ne (tgt := 74) S (by omega) dX5_forge_43 (by decide) (fun c43_4 => by exfalso; omega) (fun c43_4 => ?_)
  refine lv_aload_n S.1 S.2.1 dX5_forge_46 rfl (lv_at hl 0 rfl) ?_
  refine lv_aload_n S.1 S.2.1 dX5_forge_47 rfl (lv_at hl 0 rfl) ?_
  refine mo_g_107 S E hM dX5_forge_48 ?_
  refine mi_top (v' := .int (nI (sC S0))) (congrArg Value.int hR.1.2.2.2) ?_
  refine lv_bipush (v := nI 60) S.1 S.2.1 dX5_forge_51 (by decide) ?_
  refine mi_icmp_eq (tgt := 66) S (by omega) (by omega) dX5_forge_53 (by decide) (fun c53_5 => by exfalso; omega) (fun c53_5 => ?_)
  refine lv_aload_n S.1 S.2.1 dX5_forge_56 rfl (lv_at hl 0 rfl) ?_
  refine mo_g_29 S E hM dX5_forge_57 ?_
  refine lv_iload_n S.1 S.2.1 dX5_forge_60 rfl (lv_at hl 2 rfl) ?_
  refine mo_ald 9 S E hM rfl (by show _ < 8; omega) dX5_forge_61 ?_
  refine mi_top (v' := .int (nI (sX S0 d))) (congrArg Value.int (st_sx hR (by omega))) ?_
  refine lv_iload_n S.1 S.2.1 dX5_forge_62 rfl (lv_at hl 3 rfl) ?_
  refine mi_icmp_ge (tgt := 70) S (by omega) (by omega) dX5_forge_63 (by decide) (fun c63_6 => ?_) (fun c63_6 => by exfalso; omega)
  refine lv_iconst (v := nI 0) S.1 S.2.1 dX5_forge_70 (by decide) ?_
  refine mo_p_44 S E hS hM dX5_forge_71 (fun H locs hM hS => ?_)
  refine lv_aload_n S.1 S.2.1 dX5_forge_74 rfl (lv_at hl 0 rfl) ?_
  refine mo_g_44 S E hM dX5_forge_75 ?_
  refine mi_top (v' := .int (nI (0))) (rfl) ?_
  refine mi_if_le (tgt := 83) S (by omega) dX5_forge_78 (by decide) (fun c78_8 => ?_) (fun c78_8 => by exfalso; omega)
  refine lv_iconst (v := nI 0) S.1 S.2.1 dX5_forge_83 (by decide) ?_
  refine lv_istore (lv' := [(4, .int (nI (0))), (0, .ref (ad 1000020)), (1, .int (nI (a))), (2, .int (nI (d))), (3, .int (nI (u)))]) S.1 S.2.1 dX5_forge_84 hl (by decide) rfl (fun ls hl => ?_)
  have lp86 : ∀ (n86 : Nat) (i : Nat) (H : Heap) (locs : List Loc) (ls : Array Slot), 16 - i < n86 → i ≤ 16 → mo_W D A ad cf0 (upd (upd f 0 (nI (0))) 0 (nI (0))) (va_up g 11 (mo_ly (g 11) (sC S0) (sCh S0 a) i)) H → va_S A s.heap H locs → lv_has ls 5 [(0, .ref (ad 1000020)), (1, .int (nI (a))), (2, .int (nI (d))), (3, .int (nI (u))), (4, .int (nI (i)))] → W p l e (mi_rm 3) s m ([.ref (ad 1000020), .int (nI (a)), .int (nI (d)), .int (nI (u))] : List Value).toArray below meth c H locs 0 0 (MQ below (mi_Qi A (fun r H => r = nI (sC S0) ∧ ∃ f1 g1, mo_W D A ad cf0 f1 g1 H ∧ st_mo (st_forge S0 a d u) f1 g1 ∧ f1 0 = nI 0)) ([.ref (ad 1000020), .int (nI (a)), .int (nI (d)), .int (nI (u))] : List Value).toArray s 0 0 A) (F0 m 86 ls []) := by
    intro n86
    induction n86 with
    | zero => intro i H locs ls hm hi hM hS hl; exact absurd hm (Nat.not_lt_zero _)
    | succ n86 ih86 =>
      intro i H locs ls hm hi hM hS hl
      refine lv_iload S.1 S.2.1 dX5_forge_86 (lv_at hl 4 rfl) ?_
      refine lv_bipush (v := nI 16) S.1 S.2.1 dX5_forge_88 (by decide) ?_
      refine mi_icmp_ge (tgt := 126) S (by omega) (by omega) dX5_forge_90 (by decide) (fun c90_9 => ?_) (fun c90_9 => ?_)
      · have h16 : i = 16 := by omega
        rw [h16] at hM
        refine lv_aload_n S.1 S.2.1 dX5_forge_126 rfl (lv_at hl 0 rfl) ?_
        refine mo_g_35 S E hM dX5_forge_127 ?_
        refine lv_aload_n S.1 S.2.1 dX5_forge_130 rfl (lv_at hl 0 rfl) ?_
        refine mo_g_107 S E hM dX5_forge_131 ?_
        refine mi_top (v' := .int (nI (sC S0))) (congrArg Value.int hR.1.2.2.2) ?_
        refine lv_iload_n S.1 S.2.1 dX5_forge_134 rfl (lv_at hl 2 rfl) ?_
        refine mo_ast 12 S E hS hM rfl (by show _ < 60; omega) dX5_forge_135 (fun H locs hM hS => ?_)
        refine lv_aload_n S.1 S.2.1 dX5_forge_136 rfl (lv_at hl 0 rfl) ?_
        refine mo_g_38 S E hM dX5_forge_137 ?_
        refine lv_aload_n S.1 S.2.1 dX5_forge_140 rfl (lv_at hl 0 rfl) ?_
        refine mo_g_107 S E hM dX5_forge_141 ?_
        refine mi_top (v' := .int (nI (sC S0))) (congrArg Value.int hR.1.2.2.2) ?_
        refine lv_iload_n S.1 S.2.1 dX5_forge_144 rfl (lv_at hl 3 rfl) ?_
        refine mo_ast 13 S E hS hM rfl (by show _ < 60; omega) dX5_forge_145 (fun H locs hM hS => ?_)
        refine lv_aload_n S.1 S.2.1 dX5_forge_146 rfl (lv_at hl 0 rfl) ?_
        refine lv_dup S.1 S.2.1 dX5_forge_147 rfl ?_
        refine mo_g_107 S E hM dX5_forge_148 ?_
        refine mi_top (v' := .int (nI (sC S0))) (congrArg Value.int hR.1.2.2.2) ?_
        refine lv_iconst (v := nI 1) S.1 S.2.1 dX5_forge_151 (by decide) ?_
        refine mi_iadd S dX5_forge_152 ?_
        refine mo_p_107 S E hS hM dX5_forge_153 (fun H locs hM hS => ?_)
        refine lv_aload_n S.1 S.2.1 dX5_forge_156 rfl (lv_at hl 0 rfl) ?_
        refine mo_g_107 S E hM dX5_forge_157 ?_
        refine mi_top (v' := .int (nI ((sC S0) + 1))) (rfl) ?_
        refine lv_iconst (v := nI 1) S.1 S.2.1 dX5_forge_160 (by decide) ?_
        refine mi_isub S (by omega) dX5_forge_161 ?_
        exact mi_retMi S hr hk hS dX5_forge_162 (Nat.le_refl _) (Nat.le_refl _) ⟨rfl, (upd (upd (upd f 0 (nI (0))) 0 (nI (0))) 10 (nI ((sC S0) + 1))), (va_up (va_up (va_up g 11 (mo_ly (g 11) (sC S0) (sCh S0 a) 16)) 12 (upd ((va_up g 11 (mo_ly (g 11) (sC S0) (sCh S0 a) 16)) 12) (sC S0) (nI (d)))) 13 (upd ((va_up (va_up g 11 (mo_ly (g 11) (sC S0) (sCh S0 a) 16)) 12 (upd ((va_up g 11 (mo_ly (g 11) (sC S0) (sCh S0 a) 16)) 12) (sC S0) (nI (d)))) 13) (sC S0) (nI (u)))), hM, st_mo_coin hR rfl rfl rfl rfl rfl rfl rfl rfl rfl rfl rfl rfl, rfl⟩
      · refine lv_aload_n S.1 S.2.1 dX5_forge_93 rfl (lv_at hl 0 rfl) ?_
        refine mo_g_32 S E hM dX5_forge_94 ?_
        refine lv_bipush (v := nI 16) S.1 S.2.1 dX5_forge_97 (by decide) ?_
        refine lv_aload_n S.1 S.2.1 dX5_forge_99 rfl (lv_at hl 0 rfl) ?_
        refine mo_g_107 S E hM dX5_forge_100 ?_
        refine mi_top (v' := .int (nI (sC S0))) (congrArg Value.int hR.1.2.2.2) ?_
        refine mi_imul S dX5_forge_103 ?_
        refine lv_iload S.1 S.2.1 dX5_forge_104 (lv_at hl 4 rfl) ?_
        refine mi_iadd S dX5_forge_106 ?_
        refine lv_aload_n S.1 S.2.1 dX5_forge_107 rfl (lv_at hl 0 rfl) ?_
        refine mo_g_32 S E hM dX5_forge_108 ?_
        refine lv_bipush (v := nI 16) S.1 S.2.1 dX5_forge_111 (by decide) ?_
        refine lv_iload_n S.1 S.2.1 dX5_forge_113 rfl (lv_at hl 1 rfl) ?_
        refine mi_imul S dX5_forge_114 ?_
        refine lv_iload S.1 S.2.1 dX5_forge_115 (lv_at hl 4 rfl) ?_
        refine mi_iadd S dX5_forge_117 ?_
        refine mo_ald 11 S E hM rfl (by show _ < 960; omega) dX5_forge_118 ?_
        refine mi_top (v' := .int (nI (sCh S0 a i))) (congrArg Value.int ((congrFun mi_up_s _).trans ((mo_ly_out (by omega)).trans (st_ch hR ha (by omega))))) ?_
        refine mo_ast 11 S E hS hM rfl (by show _ < 960; omega) dX5_forge_119 (fun H locs hM hS => ?_)
        refine lv_iinc (v := nI (i + 1)) (lv' := [(4, .int (nI (i + 1))), (0, .ref (ad 1000020)), (1, .int (nI (a))), (2, .int (nI (d))), (3, .int (nI (u)))]) S.1 S.2.1 dX5_forge_120 hl (k := 4) rfl (mi_inc _) (by decide) rfl (fun ls hl => ?_)
        refine lv_goto (tgt := 86) S.1 S.2.1 dX5_forge_123 (by decide) ?_
        exact ih86 (i + 1) _ _ _ (by omega) (by omega) (by rw [mi_up_up, mi_up_s, mo_ly_step] at hM; exact hM) hS (lv_sub hl [1, 2, 3, 4, 0] rfl)
  exact lp86 _ 0 _ _ _ (Nat.lt_succ_self _) (by omega) (by rw [mo_ly_0, mi_up_fn]; exact hM) hS (lv_sub hl [1, 2, 3, 4, 0] rfl)
set_option maxHeartbeats 4000000 in
set_option maxRecDepth 100000 in
theorem c_mforge_1 (l : Launch) (D : va_G) (A : Nat → Prop) {ad : Nat → Nat} {cf0 : Nat → Option va_E} {f : Nat → Int32} {g : Nat → Nat → Int32} {S0 : sT} (hR : st_mo S0 f g) (hO : st_ok S0) {y z : Int32} {x : Int32} (h9 : ¬ (0 ≤ x.toInt ∧ x.toInt < sC S0)) : mi_Mi l yX5_forge (Cond.code yX5_forge cX5_forge 5 (some Jvm.ClassFile.FieldType.int)) (mi_rm 3) D A (mo_W D A ad cf0 f g) [.ref (ad 1000020), .int (x), .int (y), .int (z)] 0 0 (fun r H => mo_W D A ad cf0 (upd f 0 (nI 1)) g H) := by
  refine mi_start (cc := cX5_forge) (nL := 5) (ret := (some Jvm.ClassFile.FieldType.int)) rfl (by decide) (Nat.le_of_ble_eq_true rfl) ?_
  intro p e s m below meth c ls S E hM hS hr hk hn hl
  have S : CallFix p m c cX5_forge 5 s _ ((Cond.code yX5_forge cX5_forge 5 (some Jvm.ClassFile.FieldType.int)) :: mi_G) RX5 := S
  have hl : lv_has ls 5 [(0, .ref (ad 1000020)), (1, .int (x)), (2, .int (y)), (3, .int (z))] := hl
  obtain ⟨⟨o1, o2, o3, o4, o5⟩, oP, oK, oD, oX, oC, oI⟩ := id hO
  have hw : sW S0 < 61 := by omega
  have hK := st_mo_K hR o3
  have hKb : ∀ j, j < 128 → sK S0 (sW S0) j < 4 := fun j hj => oK _ _ o3 hj
  refine lv_aload_n S.1 S.2.1 dX5_forge_0 rfl (lv_at hl 0 rfl) ?_
  refine lv_aload_n S.1 S.2.1 dX5_forge_1 rfl (lv_at hl 0 rfl) ?_
  refine lv_iload_n S.1 S.2.1 dX5_forge_2 rfl (lv_at hl 1 rfl) ?_
  refine mi_cR (mi_runV (P := mo_W D A ad cf0 f g) (As := [.int (x)]) (rest := [.ref (ad 1000020)]) S E hS hM (ad 1000020) (c_isCoin_n l D A (f := f) (g := g) (n := sC S0) hR.1.2.2.2 (by omega) h9) (hM.recv E) mw_871 mw_868 mw_870 mw_30 mw_43 ⟨by decide, by decide, by decide +kernel⟩ ⟨rfl, rfl, Nat.le_of_ble_eq_true rfl, Nat.le_of_ble_eq_true rfl⟩ (n := 1) rfl hl.1 rfl (Nat.le_of_ble_eq_true rfl) dX5_forge_3 ⟨Nat.le_of_ble_eq_true rfl, Nat.le_of_ble_eq_true rfl⟩) (fun r9 e9 => ?_)
  subst e9
  refine mi_if_eq (tgt := 17) S (by omega) dX5_forge_6 (by decide) (fun c6_0 => ?_) (fun c6_0 => by exfalso; omega)
  refine lv_iconst (v := nI 1) S.1 S.2.1 dX5_forge_17 (by decide) ?_
  refine lv_goto (tgt := 36) S.1 S.2.1 dX5_forge_18 (by decide) ?_
  refine mo_p_44 S E hS hM dX5_forge_36 (fun H locs hM hS => ?_)
  refine lv_aload_n S.1 S.2.1 dX5_forge_39 rfl (lv_at hl 0 rfl) ?_
  refine mo_g_44 S E hM dX5_forge_40 ?_
  refine mi_top (v' := .int (nI (1))) (rfl) ?_
  refine mi_if_ne (tgt := 74) S (by omega) dX5_forge_43 (by decide) (fun c43_2 => ?_) (fun c43_2 => by exfalso; omega)
  refine lv_aload_n S.1 S.2.1 dX5_forge_74 rfl (lv_at hl 0 rfl) ?_
  refine mo_g_44 S E hM dX5_forge_75 ?_
  refine mi_top (v' := .int (nI (1))) (rfl) ?_
  refine mi_if_le (tgt := 83) S (by omega) dX5_forge_78 (by decide) (fun c78_3 => by exfalso; omega) (fun c78_3 => ?_)
  refine lv_iconst (v := nI 0) S.1 S.2.1 dX5_forge_81 (by decide) ?_
  exact mi_retMi S hr hk hS dX5_forge_82 (Nat.le_refl _) (Nat.le_refl _) (hM)
set_option maxHeartbeats 4000000 in
set_option maxRecDepth 100000 in
theorem c_mforge_2 (l : Launch) (D : va_G) (A : Nat → Prop) {ad : Nat → Nat} {cf0 : Nat → Option va_E} {f : Nat → Int32} {g : Nat → Nat → Int32} {S0 : sT} (hR : st_mo S0 f g) (hO : st_ok S0) {a : Nat} (ha : a < sC S0) {z : Int32} {x : Int32} (h9 : ¬ (0 ≤ x.toInt ∧ x.toInt < sD S0)) : mi_Mi l yX5_forge (Cond.code yX5_forge cX5_forge 5 (some Jvm.ClassFile.FieldType.int)) (mi_rm 3) D A (mo_W D A ad cf0 f g) [.ref (ad 1000020), .int (nI (a)), .int (x), .int (z)] 0 0 (fun r H => mo_W D A ad cf0 (upd f 0 (nI 1)) g H) := by
  refine mi_start (cc := cX5_forge) (nL := 5) (ret := (some Jvm.ClassFile.FieldType.int)) rfl (by decide) (Nat.le_of_ble_eq_true rfl) ?_
  intro p e s m below meth c ls S E hM hS hr hk hn hl
  have S : CallFix p m c cX5_forge 5 s _ ((Cond.code yX5_forge cX5_forge 5 (some Jvm.ClassFile.FieldType.int)) :: mi_G) RX5 := S
  have hl : lv_has ls 5 [(0, .ref (ad 1000020)), (1, .int (nI (a))), (2, .int (x)), (3, .int (z))] := hl
  obtain ⟨⟨o1, o2, o3, o4, o5⟩, oP, oK, oD, oX, oC, oI⟩ := id hO
  have hw : sW S0 < 61 := by omega
  have hK := st_mo_K hR o3
  have hKb : ∀ j, j < 128 → sK S0 (sW S0) j < 4 := fun j hj => oK _ _ o3 hj
  refine lv_aload_n S.1 S.2.1 dX5_forge_0 rfl (lv_at hl 0 rfl) ?_
  refine lv_aload_n S.1 S.2.1 dX5_forge_1 rfl (lv_at hl 0 rfl) ?_
  refine lv_iload_n S.1 S.2.1 dX5_forge_2 rfl (lv_at hl 1 rfl) ?_
  refine mi_cR (mi_runV (P := mo_W D A ad cf0 f g) (As := [.int (nI (a))]) (rest := [.ref (ad 1000020)]) S E hS hM (ad 1000020) (c_isCoin_y l D A (f := f) (g := g) (n := sC S0) hR.1.2.2.2 (by omega) (by omega)) (hM.recv E) mw_871 mw_868 mw_870 mw_30 mw_43 ⟨by decide, by decide, by decide +kernel⟩ ⟨rfl, rfl, Nat.le_of_ble_eq_true rfl, Nat.le_of_ble_eq_true rfl⟩ (n := 1) rfl hl.1 rfl (Nat.le_of_ble_eq_true rfl) dX5_forge_3 ⟨Nat.le_of_ble_eq_true rfl, Nat.le_of_ble_eq_true rfl⟩) (fun r9 e9 => ?_)
  subst e9
  refine mi_if_eq (tgt := 17) S (by omega) dX5_forge_6 (by decide) (fun c6_0 => by exfalso; omega) (fun c6_0 => ?_)
  refine lv_aload_n S.1 S.2.1 dX5_forge_9 rfl (lv_at hl 0 rfl) ?_
  refine lv_iload_n S.1 S.2.1 dX5_forge_10 rfl (lv_at hl 2 rfl) ?_
  refine mi_cR (mi_runV (P := mo_W D A ad cf0 f g) (As := [.int (x)]) (rest := [.ref (ad 1000020)]) S E hS hM (ad 1000020) (c_isDie_n l D A (f := f) (g := g) (n := sD S0) hR.1.2.2.1 (by omega) h9) (hM.recv E) mw_863 mw_860 mw_862 mw_29 mw_43 ⟨by decide, by decide, by decide +kernel⟩ ⟨rfl, rfl, Nat.le_of_ble_eq_true rfl, Nat.le_of_ble_eq_true rfl⟩ (n := 1) rfl hl.1 rfl (Nat.le_of_ble_eq_true rfl) dX5_forge_11 ⟨Nat.le_of_ble_eq_true rfl, Nat.le_of_ble_eq_true rfl⟩) (fun r9 e9 => ?_)
  subst e9
  refine mi_if_ne (tgt := 21) S (by omega) dX5_forge_14 (by decide) (fun c14_1 => by exfalso; omega) (fun c14_1 => ?_)
  refine lv_iconst (v := nI 1) S.1 S.2.1 dX5_forge_17 (by decide) ?_
  refine lv_goto (tgt := 36) S.1 S.2.1 dX5_forge_18 (by decide) ?_
  refine mo_p_44 S E hS hM dX5_forge_36 (fun H locs hM hS => ?_)
  refine lv_aload_n S.1 S.2.1 dX5_forge_39 rfl (lv_at hl 0 rfl) ?_
  refine mo_g_44 S E hM dX5_forge_40 ?_
  refine mi_top (v' := .int (nI (1))) (rfl) ?_
  refine mi_if_ne (tgt := 74) S (by omega) dX5_forge_43 (by decide) (fun c43_3 => ?_) (fun c43_3 => by exfalso; omega)
  refine lv_aload_n S.1 S.2.1 dX5_forge_74 rfl (lv_at hl 0 rfl) ?_
  refine mo_g_44 S E hM dX5_forge_75 ?_
  refine mi_top (v' := .int (nI (1))) (rfl) ?_
  refine mi_if_le (tgt := 83) S (by omega) dX5_forge_78 (by decide) (fun c78_4 => by exfalso; omega) (fun c78_4 => ?_)
  refine lv_iconst (v := nI 0) S.1 S.2.1 dX5_forge_81 (by decide) ?_
  exact mi_retMi S hr hk hS dX5_forge_82 (Nat.le_refl _) (Nat.le_refl _) (hM)
set_option maxHeartbeats 4000000 in
set_option maxRecDepth 100000 in
theorem c_mforge_3 (l : Launch) (D : va_G) (A : Nat → Prop) {ad : Nat → Nat} {cf0 : Nat → Option va_E} {f : Nat → Int32} {g : Nat → Nat → Int32} {S0 : sT} (hR : st_mo S0 f g) (hO : st_ok S0) {a d : Nat} (ha : a < sC S0) (hd : d < sD S0) {x : Int32} (h9 : ¬ (1 ≤ x.toInt ∧ x.toInt ≤ 60)) : mi_Mi l yX5_forge (Cond.code yX5_forge cX5_forge 5 (some Jvm.ClassFile.FieldType.int)) (mi_rm 3) D A (mo_W D A ad cf0 f g) [.ref (ad 1000020), .int (nI (a)), .int (nI (d)), .int (x)] 0 0 (fun r H => mo_W D A ad cf0 (upd f 0 (nI 2)) g H) := by
  refine mi_start (cc := cX5_forge) (nL := 5) (ret := (some Jvm.ClassFile.FieldType.int)) rfl (by decide) (Nat.le_of_ble_eq_true rfl) ?_
  intro p e s m below meth c ls S E hM hS hr hk hn hl
  have S : CallFix p m c cX5_forge 5 s _ ((Cond.code yX5_forge cX5_forge 5 (some Jvm.ClassFile.FieldType.int)) :: mi_G) RX5 := S
  have hl : lv_has ls 5 [(0, .ref (ad 1000020)), (1, .int (nI (a))), (2, .int (nI (d))), (3, .int (x))] := hl
  obtain ⟨⟨o1, o2, o3, o4, o5⟩, oP, oK, oD, oX, oC, oI⟩ := id hO
  have hw : sW S0 < 61 := by omega
  have hK := st_mo_K hR o3
  have hKb : ∀ j, j < 128 → sK S0 (sW S0) j < 4 := fun j hj => oK _ _ o3 hj
  refine lv_aload_n S.1 S.2.1 dX5_forge_0 rfl (lv_at hl 0 rfl) ?_
  refine lv_aload_n S.1 S.2.1 dX5_forge_1 rfl (lv_at hl 0 rfl) ?_
  refine lv_iload_n S.1 S.2.1 dX5_forge_2 rfl (lv_at hl 1 rfl) ?_
  refine mi_cR (mi_runV (P := mo_W D A ad cf0 f g) (As := [.int (nI (a))]) (rest := [.ref (ad 1000020)]) S E hS hM (ad 1000020) (c_isCoin_y l D A (f := f) (g := g) (n := sC S0) hR.1.2.2.2 (by omega) (by omega)) (hM.recv E) mw_871 mw_868 mw_870 mw_30 mw_43 ⟨by decide, by decide, by decide +kernel⟩ ⟨rfl, rfl, Nat.le_of_ble_eq_true rfl, Nat.le_of_ble_eq_true rfl⟩ (n := 1) rfl hl.1 rfl (Nat.le_of_ble_eq_true rfl) dX5_forge_3 ⟨Nat.le_of_ble_eq_true rfl, Nat.le_of_ble_eq_true rfl⟩) (fun r9 e9 => ?_)
  subst e9
  refine mi_if_eq (tgt := 17) S (by omega) dX5_forge_6 (by decide) (fun c6_0 => by exfalso; omega) (fun c6_0 => ?_)
  refine lv_aload_n S.1 S.2.1 dX5_forge_9 rfl (lv_at hl 0 rfl) ?_
  refine lv_iload_n S.1 S.2.1 dX5_forge_10 rfl (lv_at hl 2 rfl) ?_
  refine mi_cR (mi_runV (P := mo_W D A ad cf0 f g) (As := [.int (nI (d))]) (rest := [.ref (ad 1000020)]) S E hS hM (ad 1000020) (c_isDie_y l D A (f := f) (g := g) (n := sD S0) hR.1.2.2.1 (by omega) (by omega)) (hM.recv E) mw_863 mw_860 mw_862 mw_29 mw_43 ⟨by decide, by decide, by decide +kernel⟩ ⟨rfl, rfl, Nat.le_of_ble_eq_true rfl, Nat.le_of_ble_eq_true rfl⟩ (n := 1) rfl hl.1 rfl (Nat.le_of_ble_eq_true rfl) dX5_forge_11 ⟨Nat.le_of_ble_eq_true rfl, Nat.le_of_ble_eq_true rfl⟩) (fun r9 e9 => ?_)
  subst e9
  refine mi_if_ne (tgt := 21) S (by omega) dX5_forge_14 (by decide) (fun c14_1 => ?_) (fun c14_1 => by exfalso; omega)
  refine lv_iload_n S.1 S.2.1 dX5_forge_21 rfl (lv_at hl 3 rfl) ?_
  refine lv_iconst (v := nI 1) S.1 S.2.1 dX5_forge_22 (by decide) ?_
  refine lv_bipush (v := nI 60) S.1 S.2.1 dX5_forge_23 (by decide) ?_
  refine mi_cR (mi_runS (P := mo_W D A ad cf0 f g) (As := [.int (x), .int (nI (1)), .int (nI (60))]) (rest := [.ref (ad 1000020)]) S E hS hM (c_in_n l D A (mo_W D A ad cf0 f g) (by skip; have := nI_toInt (n := 1) (by omega); have := nI_toInt (n := 60) (by omega); omega)) mw_736 mw_734 mw_735 mw_43 ⟨by decide, by decide, by decide +kernel⟩ ⟨rfl, rfl, Nat.le_of_ble_eq_true rfl, Nat.le_of_ble_eq_true rfl⟩ (n := 3) rfl hl.1 rfl (Nat.le_of_ble_eq_true rfl) dX5_forge_25 ⟨Nat.le_of_ble_eq_true rfl, Nat.le_of_ble_eq_true rfl⟩) (fun r9 e9 => ?_)
  subst e9
  refine mi_if_ne (tgt := 35) S (by omega) dX5_forge_28 (by decide) (fun c28_2 => by exfalso; omega) (fun c28_2 => ?_)
  refine lv_iconst (v := nI 2) S.1 S.2.1 dX5_forge_31 (by decide) ?_
  refine lv_goto (tgt := 36) S.1 S.2.1 dX5_forge_32 (by decide) ?_
  refine mo_p_44 S E hS hM dX5_forge_36 (fun H locs hM hS => ?_)
  refine lv_aload_n S.1 S.2.1 dX5_forge_39 rfl (lv_at hl 0 rfl) ?_
  refine mo_g_44 S E hM dX5_forge_40 ?_
  refine mi_top (v' := .int (nI (2))) (rfl) ?_
  refine mi_if_ne (tgt := 74) S (by omega) dX5_forge_43 (by decide) (fun c43_4 => ?_) (fun c43_4 => by exfalso; omega)
  refine lv_aload_n S.1 S.2.1 dX5_forge_74 rfl (lv_at hl 0 rfl) ?_
  refine mo_g_44 S E hM dX5_forge_75 ?_
  refine mi_top (v' := .int (nI (2))) (rfl) ?_
  refine mi_if_le (tgt := 83) S (by omega) dX5_forge_78 (by decide) (fun c78_5 => by exfalso; omega) (fun c78_5 => ?_)
  refine lv_iconst (v := nI 0) S.1 S.2.1 dX5_forge_81 (by decide) ?_
  exact mi_retMi S hr hk hS dX5_forge_82 (Nat.le_refl _) (Nat.le_refl _) (hM)
set_option maxHeartbeats 4000000 in
set_option maxRecDepth 100000 in
theorem c_mforge_4 (l : Launch) (D : va_G) (A : Nat → Prop) {ad : Nat → Nat} {cf0 : Nat → Option va_E} {f : Nat → Int32} {g : Nat → Nat → Int32} {S0 : sT} (hR : st_mo S0 f g) (hO : st_ok S0) {a d : Nat} (ha : a < sC S0) (hd : d < sD S0) {u : Nat} (hu1 : 1 ≤ u) (hu : u ≤ 60) (h60 : sC S0 = 60) : mi_Mi l yX5_forge (Cond.code yX5_forge cX5_forge 5 (some Jvm.ClassFile.FieldType.int)) (mi_rm 3) D A (mo_W D A ad cf0 f g) [.ref (ad 1000020), .int (nI (a)), .int (nI (d)), .int (nI (u))] 0 0 (fun r H => mo_W D A ad cf0 (upd f 0 (nI 3)) g H) := by
  refine mi_start (cc := cX5_forge) (nL := 5) (ret := (some Jvm.ClassFile.FieldType.int)) rfl (by decide) (Nat.le_of_ble_eq_true rfl) ?_
  intro p e s m below meth c ls S E hM hS hr hk hn hl
  have S : CallFix p m c cX5_forge 5 s _ ((Cond.code yX5_forge cX5_forge 5 (some Jvm.ClassFile.FieldType.int)) :: mi_G) RX5 := S
  have hl : lv_has ls 5 [(0, .ref (ad 1000020)), (1, .int (nI (a))), (2, .int (nI (d))), (3, .int (nI (u)))] := hl
  obtain ⟨⟨o1, o2, o3, o4, o5⟩, oP, oK, oD, oX, oC, oI⟩ := id hO
  have hw : sW S0 < 61 := by omega
  have hK := st_mo_K hR o3
  have hKb : ∀ j, j < 128 → sK S0 (sW S0) j < 4 := fun j hj => oK _ _ o3 hj
  refine lv_aload_n S.1 S.2.1 dX5_forge_0 rfl (lv_at hl 0 rfl) ?_
  refine lv_aload_n S.1 S.2.1 dX5_forge_1 rfl (lv_at hl 0 rfl) ?_
  refine lv_iload_n S.1 S.2.1 dX5_forge_2 rfl (lv_at hl 1 rfl) ?_
  refine mi_cR (mi_runV (P := mo_W D A ad cf0 f g) (As := [.int (nI (a))]) (rest := [.ref (ad 1000020)]) S E hS hM (ad 1000020) (c_isCoin_y l D A (f := f) (g := g) (n := sC S0) hR.1.2.2.2 (by omega) (by omega)) (hM.recv E) mw_871 mw_868 mw_870 mw_30 mw_43 ⟨by decide, by decide, by decide +kernel⟩ ⟨rfl, rfl, Nat.le_of_ble_eq_true rfl, Nat.le_of_ble_eq_true rfl⟩ (n := 1) rfl hl.1 rfl (Nat.le_of_ble_eq_true rfl) dX5_forge_3 ⟨Nat.le_of_ble_eq_true rfl, Nat.le_of_ble_eq_true rfl⟩) (fun r9 e9 => ?_)
  subst e9
  refine mi_if_eq (tgt := 17) S (by omega) dX5_forge_6 (by decide) (fun c6_0 => by exfalso; omega) (fun c6_0 => ?_)
  refine lv_aload_n S.1 S.2.1 dX5_forge_9 rfl (lv_at hl 0 rfl) ?_
  refine lv_iload_n S.1 S.2.1 dX5_forge_10 rfl (lv_at hl 2 rfl) ?_
  refine mi_cR (mi_runV (P := mo_W D A ad cf0 f g) (As := [.int (nI (d))]) (rest := [.ref (ad 1000020)]) S E hS hM (ad 1000020) (c_isDie_y l D A (f := f) (g := g) (n := sD S0) hR.1.2.2.1 (by omega) (by omega)) (hM.recv E) mw_863 mw_860 mw_862 mw_29 mw_43 ⟨by decide, by decide, by decide +kernel⟩ ⟨rfl, rfl, Nat.le_of_ble_eq_true rfl, Nat.le_of_ble_eq_true rfl⟩ (n := 1) rfl hl.1 rfl (Nat.le_of_ble_eq_true rfl) dX5_forge_11 ⟨Nat.le_of_ble_eq_true rfl, Nat.le_of_ble_eq_true rfl⟩) (fun r9 e9 => ?_)
  subst e9
  refine mi_if_ne (tgt := 21) S (by omega) dX5_forge_14 (by decide) (fun c14_1 => ?_) (fun c14_1 => by exfalso; omega)
  refine lv_iload_n S.1 S.2.1 dX5_forge_21 rfl (lv_at hl 3 rfl) ?_
  refine lv_iconst (v := nI 1) S.1 S.2.1 dX5_forge_22 (by decide) ?_
  refine lv_bipush (v := nI 60) S.1 S.2.1 dX5_forge_23 (by decide) ?_
  refine mi_cR (mi_runS (P := mo_W D A ad cf0 f g) (As := [.int (nI (u)), .int (nI (1)), .int (nI (60))]) (rest := [.ref (ad 1000020)]) S E hS hM (c_in_y l D A (mo_W D A ad cf0 f g) (by have := nI_toInt (n := u) (by omega); have := nI_toInt (n := 1) (by omega); have := nI_toInt (n := 60) (by omega); omega)) mw_736 mw_734 mw_735 mw_43 ⟨by decide, by decide, by decide +kernel⟩ ⟨rfl, rfl, Nat.le_of_ble_eq_true rfl, Nat.le_of_ble_eq_true rfl⟩ (n := 3) rfl hl.1 rfl (Nat.le_of_ble_eq_true rfl) dX5_forge_25 ⟨Nat.le_of_ble_eq_true rfl, Nat.le_of_ble_eq_true rfl⟩) (fun r9 e9 => ?_)
  subst e9
  refine mi_if_ne (tgt := 35) S (by omega) dX5_forge_28 (by decide) (fun c28_2 => ?_) (fun c28_2 => by exfalso; omega)
  refine lv_iconst (v := nI 0) S.1 S.2.1 dX5_forge_35 (by decide) ?_
  refine mo_p_44 S E hS hM dX5_forge_36 (fun H locs hM hS => ?_)
  refine lv_aload_n S.1 S.2.1 dX5_forge_39 rfl (lv_at hl 0 rfl) ?_
  refine mo_g_44 S E hM dX5_forge_40 ?_
  refine mi_top (v' := .int (nI (0))) (rfl) ?_
  refine mi_if_ne (tgt := 74) S (by omega) dX5_forge_43 (by decide) (fun c43_4 => by exfalso; omega) (fun c43_4 => ?_)
  refine lv_aload_n S.1 S.2.1 dX5_forge_46 rfl (lv_at hl 0 rfl) ?_
  refine lv_aload_n S.1 S.2.1 dX5_forge_47 rfl (lv_at hl 0 rfl) ?_
  refine mo_g_107 S E hM dX5_forge_48 ?_
  refine mi_top (v' := .int (nI (sC S0))) (congrArg Value.int hR.1.2.2.2) ?_
  refine lv_bipush (v := nI 60) S.1 S.2.1 dX5_forge_51 (by decide) ?_
  refine mi_icmp_eq (tgt := 66) S (by omega) (by omega) dX5_forge_53 (by decide) (fun c53_5 => ?_) (fun c53_5 => by exfalso; omega)
  refine lv_iconst (v := nI 3) S.1 S.2.1 dX5_forge_66 (by decide) ?_
  refine lv_goto (tgt := 71) S.1 S.2.1 dX5_forge_67 (by decide) ?_
  refine mo_p_44 S E hS hM dX5_forge_71 (fun H locs hM hS => ?_)
  refine lv_aload_n S.1 S.2.1 dX5_forge_74 rfl (lv_at hl 0 rfl) ?_
  refine mo_g_44 S E hM dX5_forge_75 ?_
  refine mi_top (v' := .int (nI (3))) (rfl) ?_
  refine mi_if_le (tgt := 83) S (by omega) dX5_forge_78 (by decide) (fun c78_7 => by exfalso; omega) (fun c78_7 => ?_)
  refine lv_iconst (v := nI 0) S.1 S.2.1 dX5_forge_81 (by decide) ?_
  exact mi_retMi S hr hk hS dX5_forge_82 (Nat.le_refl _) (Nat.le_refl _) ((by rw [mi_upd_upd] at hM; exact hM))
set_option maxHeartbeats 4000000 in
set_option maxRecDepth 100000 in
theorem c_mforge_5 (l : Launch) (D : va_G) (A : Nat → Prop) {ad : Nat → Nat} {cf0 : Nat → Option va_E} {f : Nat → Int32} {g : Nat → Nat → Int32} {S0 : sT} (hR : st_mo S0 f g) (hO : st_ok S0) {a d : Nat} (ha : a < sC S0) (hd : d < sD S0) {u : Nat} (hu1 : sX S0 d < u) (hu : u ≤ 60) (h60 : sC S0 < 60) : mi_Mi l yX5_forge (Cond.code yX5_forge cX5_forge 5 (some Jvm.ClassFile.FieldType.int)) (mi_rm 3) D A (mo_W D A ad cf0 f g) [.ref (ad 1000020), .int (nI (a)), .int (nI (d)), .int (nI (u))] 0 0 (fun r H => mo_W D A ad cf0 (upd f 0 (nI 3)) g H) := by
  refine mi_start (cc := cX5_forge) (nL := 5) (ret := (some Jvm.ClassFile.FieldType.int)) rfl (by decide) (Nat.le_of_ble_eq_true rfl) ?_
  intro p e s m below meth c ls S E hM hS hr hk hn hl
  have S : CallFix p m c cX5_forge 5 s _ ((Cond.code yX5_forge cX5_forge 5 (some Jvm.ClassFile.FieldType.int)) :: mi_G) RX5 := S
  have hl : lv_has ls 5 [(0, .ref (ad 1000020)), (1, .int (nI (a))), (2, .int (nI (d))), (3, .int (nI (u)))] := hl
  obtain ⟨⟨o1, o2, o3, o4, o5⟩, oP, oK, oD, oX, oC, oI⟩ := id hO
  have hw : sW S0 < 61 := by omega
  have hK := st_mo_K hR o3
  have hKb : ∀ j, j < 128 → sK S0 (sW S0) j < 4 := fun j hj => oK _ _ o3 hj
  refine lv_aload_n S.1 S.2.1 dX5_forge_0 rfl (lv_at hl 0 rfl) ?_
  refine lv_aload_n S.1 S.2.1 dX5_forge_1 rfl (lv_at hl 0 rfl) ?_
  refine lv_iload_n S.1 S.2.1 dX5_forge_2 rfl (lv_at hl 1 rfl) ?_
  refine mi_cR (mi_runV (P := mo_W D A ad cf0 f g) (As := [.int (nI (a))]) (rest := [.ref (ad 1000020)]) S E hS hM (ad 1000020) (c_isCoin_y l D A (f := f) (g := g) (n := sC S0) hR.1.2.2.2 (by omega) (by omega)) (hM.recv E) mw_871 mw_868 mw_870 mw_30 mw_43 ⟨by decide, by decide, by decide +kernel⟩ ⟨rfl, rfl, Nat.le_of_ble_eq_true rfl, Nat.le_of_ble_eq_true rfl⟩ (n := 1) rfl hl.1 rfl (Nat.le_of_ble_eq_true rfl) dX5_forge_3 ⟨Nat.le_of_ble_eq_true rfl, Nat.le_of_ble_eq_true rfl⟩) (fun r9 e9 => ?_)
  subst e9
  refine mi_if_eq (tgt := 17) S (by omega) dX5_forge_6 (by decide) (fun c6_0 => by exfalso; omega) (fun c6_0 => ?_)
  refine lv_aload_n S.1 S.2.1 dX5_forge_9 rfl (lv_at hl 0 rfl) ?_
  refine lv_iload_n S.1 S.2.1 dX5_forge_10 rfl (lv_at hl 2 rfl) ?_
  refine mi_cR (mi_runV (P := mo_W D A ad cf0 f g) (As := [.int (nI (d))]) (rest := [.ref (ad 1000020)]) S E hS hM (ad 1000020) (c_isDie_y l D A (f := f) (g := g) (n := sD S0) hR.1.2.2.1 (by omega) (by omega)) (hM.recv E) mw_863 mw_860 mw_862 mw_29 mw_43 ⟨by decide, by decide, by decide +kernel⟩ ⟨rfl, rfl, Nat.le_of_ble_eq_true rfl, Nat.le_of_ble_eq_true rfl⟩ (n := 1) rfl hl.1 rfl (Nat.le_of_ble_eq_true rfl) dX5_forge_11 ⟨Nat.le_of_ble_eq_true rfl, Nat.le_of_ble_eq_true rfl⟩) (fun r9 e9 => ?_)
  subst e9
  refine mi_if_ne (tgt := 21) S (by omega) dX5_forge_14 (by decide) (fun c14_1 => ?_) (fun c14_1 => by exfalso; omega)
  refine lv_iload_n S.1 S.2.1 dX5_forge_21 rfl (lv_at hl 3 rfl) ?_
  refine lv_iconst (v := nI 1) S.1 S.2.1 dX5_forge_22 (by decide) ?_
  refine lv_bipush (v := nI 60) S.1 S.2.1 dX5_forge_23 (by decide) ?_
  refine mi_cR (mi_runS (P := mo_W D A ad cf0 f g) (As := [.int (nI (u)), .int (nI (1)), .int (nI (60))]) (rest := [.ref (ad 1000020)]) S E hS hM (c_in_y l D A (mo_W D A ad cf0 f g) (by have := nI_toInt (n := u) (by omega); have := nI_toInt (n := 1) (by omega); have := nI_toInt (n := 60) (by omega); omega)) mw_736 mw_734 mw_735 mw_43 ⟨by decide, by decide, by decide +kernel⟩ ⟨rfl, rfl, Nat.le_of_ble_eq_true rfl, Nat.le_of_ble_eq_true rfl⟩ (n := 3) rfl hl.1 rfl (Nat.le_of_ble_eq_true rfl) dX5_forge_25 ⟨Nat.le_of_ble_eq_true rfl, Nat.le_of_ble_eq_true rfl⟩) (fun r9 e9 => ?_)
  subst e9
  refine mi_if_ne (tgt := 35) S (by omega) dX5_forge_28 (by decide) (fun c28_2 => ?_) (fun c28_2 => by exfalso; omega)
  refine lv_iconst (v := nI 0) S.1 S.2.1 dX5_forge_35 (by decide) ?_
  refine mo_p_44 S E hS hM dX5_forge_36 (fun H locs hM hS => ?_)
  refine lv_aload_n S.1 S.2.1 dX5_forge_39 rfl (lv_at hl 0 rfl) ?_
  refine mo_g_44 S E hM dX5_forge_40 ?_
  refine mi_top (v' := .int (nI (0))) (rfl) ?_
  refine mi_if_ne (tgt := 74) S (by omega) dX5_forge_43 (by decide) (fun c43_4 => by exfalso; omega) (fun c43_4 => ?_)
  refine lv_aload_n S.1 S.2.1 dX5_forge_46 rfl (lv_at hl 0 rfl) ?_
  refine lv_aload_n S.1 S.2.1 dX5_forge_47 rfl (lv_at hl 0 rfl) ?_
  refine mo_g_107 S E hM dX5_forge_48 ?_
  refine mi_top (v' := .int (nI (sC S0))) (congrArg Value.int hR.1.2.2.2) ?_
  refine lv_bipush (v := nI 60) S.1 S.2.1 dX5_forge_51 (by decide) ?_
  refine mi_icmp_eq (tgt := 66) S (by omega) (by omega) dX5_forge_53 (by decide) (fun c53_5 => by exfalso; omega) (fun c53_5 => ?_)
  refine lv_aload_n S.1 S.2.1 dX5_forge_56 rfl (lv_at hl 0 rfl) ?_
  refine mo_g_29 S E hM dX5_forge_57 ?_
  refine lv_iload_n S.1 S.2.1 dX5_forge_60 rfl (lv_at hl 2 rfl) ?_
  refine mo_ald 9 S E hM rfl (by show _ < 8; omega) dX5_forge_61 ?_
  refine mi_top (v' := .int (nI (sX S0 d))) (congrArg Value.int (st_sx hR (by omega))) ?_
  refine lv_iload_n S.1 S.2.1 dX5_forge_62 rfl (lv_at hl 3 rfl) ?_
  refine mi_icmp_ge (tgt := 70) S (by omega) (by omega) dX5_forge_63 (by decide) (fun c63_6 => by exfalso; omega) (fun c63_6 => ?_)
  refine lv_iconst (v := nI 3) S.1 S.2.1 dX5_forge_66 (by decide) ?_
  refine lv_goto (tgt := 71) S.1 S.2.1 dX5_forge_67 (by decide) ?_
  refine mo_p_44 S E hS hM dX5_forge_71 (fun H locs hM hS => ?_)
  refine lv_aload_n S.1 S.2.1 dX5_forge_74 rfl (lv_at hl 0 rfl) ?_
  refine mo_g_44 S E hM dX5_forge_75 ?_
  refine mi_top (v' := .int (nI (3))) (rfl) ?_
  refine mi_if_le (tgt := 83) S (by omega) dX5_forge_78 (by decide) (fun c78_8 => by exfalso; omega) (fun c78_8 => ?_)
  refine lv_iconst (v := nI 0) S.1 S.2.1 dX5_forge_81 (by decide) ?_
  exact mi_retMi S hr hk hS dX5_forge_82 (Nat.le_refl _) (Nat.le_refl _) ((by rw [mi_upd_upd] at hM; exact hM))
set_option maxHeartbeats 4000000 in
set_option maxRecDepth 100000 in
theorem c_laysThen (l : Launch) (D : va_G) (A : Nat → Prop) {ad : Nat → Nat} {cf0 : Nat → Option va_E} {f : Nat → Int32} {g : Nat → Nat → Int32} {S0 : sT} (hR : st_mo S0 f g) (hO : st_ok S0) {d u : Nat} (hd : d < sD S0) (hu1 : 1 ≤ u) (hu : u ≤ 60) : mi_Mv l yX5_laysThen (Cond.code yX5_laysThen cX5_laysThen 6 none) (mi_rm 0) D A (mo_W D A ad cf0 f g) [.ref (ad 1000020), .int (nI (d)), .int (nI (u))] 0 0 (fun H => ∃ x, mo_W D A ad cf0 f (va_up g 14 x) H ∧ ∀ c, c < 16 → x c = nI (wn (sF S0 d) ((u - 1) / 2) c)) := by
  refine mi_start (cc := cX5_laysThen) (nL := 6) (ret := none) rfl (by decide) (Nat.le_of_ble_eq_true rfl) ?_
  intro p e s m below meth c ls S E hM hS hr hk hn hl
  have S : CallFix p m c cX5_laysThen 6 s _ ((Cond.code yX5_laysThen cX5_laysThen 6 none) :: mi_G) RX5 := S
  have hl : lv_has ls 6 [(0, .ref (ad 1000020)), (1, .int (nI (d))), (2, .int (nI (u)))] := hl
  obtain ⟨⟨o1, o2, o3, o4, o5⟩, oP, oK, oD, oX, oC, oI⟩ := id hO
  have hFb : ∀ c, c < 16 → sF S0 d c ≤ 8 := fun c hc => st_fb hO hd hc
  refine lv_iconst (v := nI 0) S.1 S.2.1 dX5_laysThen_0 (by decide) ?_
  refine lv_istore_n (lv' := [(3, .int (nI (0))), (0, .ref (ad 1000020)), (1, .int (nI (d))), (2, .int (nI (u)))]) S.1 S.2.1 dX5_laysThen_1 rfl hl (by decide) rfl (fun ls hl => ?_)
  have lp2 : ∀ (n2 : Nat) (x : Nat → Int32) (i : Nat) (H : Heap) (locs : List Loc) (ls : Array Slot), 16 - i < n2 → i ≤ 16 → (∀ c, c < i → x c = nI (sF S0 d c)) → mo_W D A ad cf0 f (va_up g 14 x) H → va_S A s.heap H locs → lv_has ls 6 [(0, .ref (ad 1000020)), (1, .int (nI (d))), (2, .int (nI (u))), (3, .int (nI (i)))] → W p l e (mi_rm 0) s m ([.ref (ad 1000020), .int (nI (d)), .int (nI (u))] : List Value).toArray below meth c H locs 0 0 (MQ below (mi_Qv A (fun H => ∃ x, mo_W D A ad cf0 f (va_up g 14 x) H ∧ ∀ c, c < 16 → x c = nI (wn (sF S0 d) ((u - 1) / 2) c))) ([.ref (ad 1000020), .int (nI (d)), .int (nI (u))] : List Value).toArray s 0 0 A) (F0 m 2 ls []) := by
    intro n2
    induction n2 with
    | zero => intro x i H locs ls hm hi hx hM hS hl; exact absurd hm (Nat.not_lt_zero _)
    | succ n2 ih2 =>
      intro x i H locs ls hm hi hx hM hS hl
      refine lv_iload_n S.1 S.2.1 dX5_laysThen_2 rfl (lv_at hl 3 rfl) ?_
      refine lv_bipush (v := nI 16) S.1 S.2.1 dX5_laysThen_3 (by decide) ?_
      refine mi_icmp_ge (tgt := 31) S (by omega) (by omega) dX5_laysThen_5 (by decide) (fun c5_0 => ?_) (fun c5_0 => ?_)
      · refine lv_iconst (v := nI 2) S.1 S.2.1 dX5_laysThen_31 (by decide) ?_
        refine lv_istore_n (lv' := [(3, .int (nI (2))), (0, .ref (ad 1000020)), (1, .int (nI (d))), (2, .int (nI (u)))]) S.1 S.2.1 dX5_laysThen_32 rfl hl (by decide) rfl (fun ls hl => ?_)
        have lp33 : ∀ (n33 : Nat) (x : Nat → Int32) (j : Nat) (k : Nat) (H : Heap) (locs : List Loc) (ls : Array Slot), u - k < n33 → k = 2 + 2 * j → 2 * j + 1 ≤ u → (∀ c, c < 16 → x c = nI (wn (sF S0 d) j c)) → mo_W D A ad cf0 f (va_up g 14 x) H → va_S A s.heap H locs → lv_has ls 6 [(0, .ref (ad 1000020)), (1, .int (nI (d))), (2, .int (nI (u))), (3, .int (nI (k)))] → W p l e (mi_rm 0) s m ([.ref (ad 1000020), .int (nI (d)), .int (nI (u))] : List Value).toArray below meth c H locs 0 0 (MQ below (mi_Qv A (fun H => ∃ x, mo_W D A ad cf0 f (va_up g 14 x) H ∧ ∀ c, c < 16 → x c = nI (wn (sF S0 d) ((u - 1) / 2) c))) ([.ref (ad 1000020), .int (nI (d)), .int (nI (u))] : List Value).toArray s 0 0 A) (F0 m 33 ls []) := by
          intro n33
          induction n33 with
          | zero => intro x j k H locs ls hm hk9 hj hx hM hS hl; exact absurd hm (Nat.not_lt_zero _)
          | succ n33 ih33 =>
            intro x j k H locs ls hm hk9 hj hx hM hS hl
            refine lv_iload_n S.1 S.2.1 dX5_laysThen_33 rfl (lv_at hl 3 rfl) ?_
            refine lv_iload_n S.1 S.2.1 dX5_laysThen_34 rfl (lv_at hl 2 rfl) ?_
            refine mi_icmp_ge (tgt := 114) S (by omega) (by omega) dX5_laysThen_35 (by decide) (fun c35_1 => ?_) (fun c35_1 => ?_)
            · exact mi_retMv S hr hk hS dX5_laysThen_114 (Nat.le_refl _) (Nat.le_refl _) ⟨x, hM, (by rw [show (u - 1) / 2 = j by omega]; exact hx)⟩
            · refine lv_iconst (v := nI 0) S.1 S.2.1 dX5_laysThen_38 (by decide) ?_
              refine lv_istore (lv' := [(4, .int (nI (0))), (0, .ref (ad 1000020)), (1, .int (nI (d))), (2, .int (nI (u))), (3, .int (nI (k)))]) S.1 S.2.1 dX5_laysThen_39 hl (by decide) rfl (fun ls hl => ?_)
              refine lv_iconst (v := nI 0) S.1 S.2.1 dX5_laysThen_41 (by decide) ?_
              refine lv_istore (lv' := [(5, .int (nI (0))), (4, .int (nI (0))), (0, .ref (ad 1000020)), (1, .int (nI (d))), (2, .int (nI (u))), (3, .int (nI (k)))]) S.1 S.2.1 dX5_laysThen_42 hl (by decide) rfl (fun ls hl => ?_)
              have lp44 : ∀ (n44 : Nat) (t : Nat) (i : Nat) (ls : Array Slot), 16 - i < n44 → i ≤ 16 → t < 16 → t = wr_mx (wn (sF S0 d) j) i → lv_has ls 6 [(0, .ref (ad 1000020)), (1, .int (nI (d))), (2, .int (nI (u))), (3, .int (nI (k))), (4, .int (nI (t))), (5, .int (nI (i)))] → W p l e (mi_rm 0) s m ([.ref (ad 1000020), .int (nI (d)), .int (nI (u))] : List Value).toArray below meth c H locs 0 0 (MQ below (mi_Qv A (fun H => ∃ x, mo_W D A ad cf0 f (va_up g 14 x) H ∧ ∀ c, c < 16 → x c = nI (wn (sF S0 d) ((u - 1) / 2) c))) ([.ref (ad 1000020), .int (nI (d)), .int (nI (u))] : List Value).toArray s 0 0 A) (F0 m 44 ls []) := by
                intro n44
                induction n44 with
                | zero => intro t i ls hm hi htb ht9  hl; exact absurd hm (Nat.not_lt_zero _)
                | succ n44 ih44 =>
                  intro t i ls hm hi htb ht9  hl
                  refine lv_iload S.1 S.2.1 dX5_laysThen_44 (lv_at hl 5 rfl) ?_
                  refine lv_bipush (v := nI 16) S.1 S.2.1 dX5_laysThen_46 (by decide) ?_
                  refine mi_icmp_ge (tgt := 83) S (by omega) (by omega) dX5_laysThen_48 (by decide) (fun c48_2 => ?_) (fun c48_2 => ?_)
                  · have h16 : i = 16 := by omega
                    rw [h16] at ht9
                    have hb2 := Nat.le_trans (wn_le (sF S0 d) t j) (hFb t (by omega))
                    refine lv_aload_n S.1 S.2.1 dX5_laysThen_83 rfl (lv_at hl 0 rfl) ?_
                    refine mo_g_41 S E hM dX5_laysThen_84 ?_
                    refine lv_iload S.1 S.2.1 dX5_laysThen_87 (lv_at hl 4 rfl) ?_
                    refine lv_dup2_11 S.1 S.2.1 dX5_laysThen_89 rfl rfl ?_
                    refine mo_ald 14 S E hM rfl (by show _ < 16; omega) dX5_laysThen_90 ?_
                    refine mi_top (v' := .int (nI (wn (sF S0 d) j t))) (congrArg Value.int ((congrFun mi_up_s _).trans (hx t (by omega)))) ?_
                    refine lv_aload_n S.1 S.2.1 dX5_laysThen_91 rfl (lv_at hl 0 rfl) ?_
                    refine mo_g_41 S E hM dX5_laysThen_92 ?_
                    refine lv_iload S.1 S.2.1 dX5_laysThen_95 (lv_at hl 4 rfl) ?_
                    refine mo_ald 14 S E hM rfl (by show _ < 16; omega) dX5_laysThen_97 ?_
                    refine mi_top (v' := .int (nI (wn (sF S0 d) j t))) (congrArg Value.int ((congrFun mi_up_s _).trans (hx t (by omega)))) ?_
                    refine mi_if_le (tgt := 105) S (by omega) dX5_laysThen_98 (by decide) (fun c98_3 => ?_) (fun c98_3 => ?_)
                    · refine lv_iconst (v := nI 0) S.1 S.2.1 dX5_laysThen_105 (by decide) ?_
                      refine mi_isub S (by omega) dX5_laysThen_106 ?_
                      refine mo_ast 14 S E hS hM rfl (by show _ < 16; omega) dX5_laysThen_107 (fun H locs hM hS => ?_)
                      rw [mi_up_up, mi_up_s] at hM
                      refine lv_iinc (v := nI (k + 2)) (lv' := [(3, .int (nI (k + 2))), (0, .ref (ad 1000020)), (1, .int (nI (d))), (2, .int (nI (u))), (4, .int (nI (t))), (5, .int (nI (i)))]) S.1 S.2.1 dX5_laysThen_108 hl (k := 3) rfl (mi_inc2 _) (by decide) rfl (fun ls hl => ?_)
                      refine lv_goto (tgt := 33) S.1 S.2.1 dX5_laysThen_111 (by decide) ?_
                      exact ih33 (((upd x (t) (nI ((wn (sF S0 d) j t) - 0))))) ((j + 1)) (k + 2) _ _ _ (by omega) (by omega) (by omega) (wr_upd hx ht9 (by first | rfl | omega)) hM hS (lv_sub hl [1, 2, 3, 0] rfl)
                    · refine lv_iconst (v := nI 1) S.1 S.2.1 dX5_laysThen_101 (by decide) ?_
                      refine lv_goto (tgt := 106) S.1 S.2.1 dX5_laysThen_102 (by decide) ?_
                      refine mi_isub S (by omega) dX5_laysThen_106 ?_
                      refine mo_ast 14 S E hS hM rfl (by show _ < 16; omega) dX5_laysThen_107 (fun H locs hM hS => ?_)
                      rw [mi_up_up, mi_up_s] at hM
                      refine lv_iinc (v := nI (k + 2)) (lv' := [(3, .int (nI (k + 2))), (0, .ref (ad 1000020)), (1, .int (nI (d))), (2, .int (nI (u))), (4, .int (nI (t))), (5, .int (nI (i)))]) S.1 S.2.1 dX5_laysThen_108 hl (k := 3) rfl (mi_inc2 _) (by decide) rfl (fun ls hl => ?_)
                      refine lv_goto (tgt := 33) S.1 S.2.1 dX5_laysThen_111 (by decide) ?_
                      exact ih33 (((upd x (t) (nI ((wn (sF S0 d) j t) - 1))))) ((j + 1)) (k + 2) _ _ _ (by omega) (by omega) (by omega) (wr_upd hx ht9 (by first | rfl | omega)) hM hS (lv_sub hl [1, 2, 3, 0] rfl)
                  · have hb1 := Nat.le_trans (wn_le (sF S0 d) i j) (hFb i (by omega))
                    have hb2 := Nat.le_trans (wn_le (sF S0 d) t j) (hFb t (by omega))
                    refine lv_aload_n S.1 S.2.1 dX5_laysThen_51 rfl (lv_at hl 0 rfl) ?_
                    refine mo_g_41 S E hM dX5_laysThen_52 ?_
                    refine lv_iload S.1 S.2.1 dX5_laysThen_55 (lv_at hl 5 rfl) ?_
                    refine mo_ald 14 S E hM rfl (by show _ < 16; omega) dX5_laysThen_57 ?_
                    refine mi_top (v' := .int (nI (wn (sF S0 d) j i))) (congrArg Value.int ((congrFun mi_up_s _).trans (hx i (by omega)))) ?_
                    refine lv_aload_n S.1 S.2.1 dX5_laysThen_58 rfl (lv_at hl 0 rfl) ?_
                    refine mo_g_41 S E hM dX5_laysThen_59 ?_
                    refine lv_iload S.1 S.2.1 dX5_laysThen_62 (lv_at hl 4 rfl) ?_
                    refine mo_ald 14 S E hM rfl (by show _ < 16; omega) dX5_laysThen_64 ?_
                    refine mi_top (v' := .int (nI (wn (sF S0 d) j t))) (congrArg Value.int ((congrFun mi_up_s _).trans (hx t (by omega)))) ?_
                    refine mi_icmp_le (tgt := 73) S (by omega) (by omega) dX5_laysThen_65 (by decide) (fun c65_4 => ?_) (fun c65_4 => ?_)
                    · refine lv_iload S.1 S.2.1 dX5_laysThen_73 (lv_at hl 4 rfl) ?_
                      refine lv_istore (lv' := [(4, .int (nI (t))), (0, .ref (ad 1000020)), (1, .int (nI (d))), (2, .int (nI (u))), (3, .int (nI (k))), (5, .int (nI (i)))]) S.1 S.2.1 dX5_laysThen_75 hl (by decide) rfl (fun ls hl => ?_)
                      refine lv_iinc (v := nI (i + 1)) (lv' := [(5, .int (nI (i + 1))), (4, .int (nI (t))), (0, .ref (ad 1000020)), (1, .int (nI (d))), (2, .int (nI (u))), (3, .int (nI (k)))]) S.1 S.2.1 dX5_laysThen_77 hl (k := 5) rfl (mi_inc _) (by decide) rfl (fun ls hl => ?_)
                      refine lv_goto (tgt := 44) S.1 S.2.1 dX5_laysThen_80 (by decide) ?_
                      exact ih44 t (i + 1) _ (by omega) (by omega) (by omega) (by first | (rw [wr_mx_1 (by rw [← ht9]; omega)]) | (rw [wr_mx_0 (by rw [← ht9]; omega)]; exact ht9))  (lv_sub hl [2, 3, 4, 5, 1, 0] rfl)
                    · refine lv_iload S.1 S.2.1 dX5_laysThen_68 (lv_at hl 5 rfl) ?_
                      refine lv_goto (tgt := 75) S.1 S.2.1 dX5_laysThen_70 (by decide) ?_
                      refine lv_istore (lv' := [(4, .int (nI (i))), (0, .ref (ad 1000020)), (1, .int (nI (d))), (2, .int (nI (u))), (3, .int (nI (k))), (5, .int (nI (i)))]) S.1 S.2.1 dX5_laysThen_75 hl (by decide) rfl (fun ls hl => ?_)
                      refine lv_iinc (v := nI (i + 1)) (lv' := [(5, .int (nI (i + 1))), (4, .int (nI (i))), (0, .ref (ad 1000020)), (1, .int (nI (d))), (2, .int (nI (u))), (3, .int (nI (k)))]) S.1 S.2.1 dX5_laysThen_77 hl (k := 5) rfl (mi_inc _) (by decide) rfl (fun ls hl => ?_)
                      refine lv_goto (tgt := 44) S.1 S.2.1 dX5_laysThen_80 (by decide) ?_
                      exact ih44 i (i + 1) _ (by omega) (by omega) (by omega) (by first | (rw [wr_mx_1 (by rw [← ht9]; omega)]) | (rw [wr_mx_0 (by rw [← ht9]; omega)]; exact ht9))  (lv_sub hl [2, 3, 4, 5, 1, 0] rfl)
              exact lp44 _ 0 0 _ (Nat.lt_succ_self _) (by omega) (by omega) (by rfl)  (lv_sub hl [2, 3, 4, 5, 1, 0] rfl)
        exact lp33 _ ((x)) 0 2 _ _ _ (Nat.lt_succ_self _) (by omega) (by omega) (fun c hc => hx c (by omega)) hM hS (lv_sub hl [1, 2, 3, 0] rfl)
      · refine lv_aload_n S.1 S.2.1 dX5_laysThen_8 rfl (lv_at hl 0 rfl) ?_
        refine mo_g_41 S E hM dX5_laysThen_9 ?_
        refine lv_iload_n S.1 S.2.1 dX5_laysThen_12 rfl (lv_at hl 3 rfl) ?_
        refine lv_aload_n S.1 S.2.1 dX5_laysThen_13 rfl (lv_at hl 0 rfl) ?_
        refine mo_g_23 S E hM dX5_laysThen_14 ?_
        refine lv_bipush (v := nI 16) S.1 S.2.1 dX5_laysThen_17 (by decide) ?_
        refine lv_iload_n S.1 S.2.1 dX5_laysThen_19 rfl (lv_at hl 1 rfl) ?_
        refine mi_imul S dX5_laysThen_20 ?_
        refine lv_iload_n S.1 S.2.1 dX5_laysThen_21 rfl (lv_at hl 3 rfl) ?_
        refine mi_iadd S dX5_laysThen_22 ?_
        refine mo_ald 7 S E hM rfl (by show _ < 128; omega) dX5_laysThen_23 ?_
        refine mi_top (v' := .int (nI (sF S0 d i))) (congrArg Value.int (st_df hR (by omega) (by omega))) ?_
        refine mo_ast 14 S E hS hM rfl (by show _ < 16; omega) dX5_laysThen_24 (fun H locs hM hS => ?_)
        rw [mi_up_up, mi_up_s] at hM
        refine lv_iinc (v := nI (i + 1)) (lv' := [(3, .int (nI (i + 1))), (0, .ref (ad 1000020)), (1, .int (nI (d))), (2, .int (nI (u)))]) S.1 S.2.1 dX5_laysThen_25 hl (k := 3) rfl (mi_inc _) (by decide) rfl (fun ls hl => ?_)
        refine lv_goto (tgt := 2) S.1 S.2.1 dX5_laysThen_28 (by decide) ?_
        exact ih2 (((upd x (i) (nI (sF S0 d i))))) (i + 1) _ _ _ (by omega) (by omega) (by intro c hc; by_cases e9 : c = i; exact (show upd x i (nI (sF S0 d i)) c = _ from (if_pos e9).trans (by rw [e9])); exact (show upd x i (nI (sF S0 d i)) c = _ from (if_neg e9).trans (hx c (by omega)))) hM hS (lv_sub hl [1, 2, 3, 0] rfl)
  exact lp2 _ ((g 14)) 0 _ _ _ (Nat.lt_succ_self _) (by omega) (fun c hc => absurd hc (Nat.not_lt_zero c)) (by rw [mi_up_fn]; exact hM) hS (lv_sub hl [1, 2, 3, 0] rfl)
set_option maxHeartbeats 4000000 in
set_option maxRecDepth 100000 in
theorem c_misForged (l : Launch) (D : va_G) (A : Nat → Prop) {ad : Nat → Nat} {cf0 : Nat → Option va_E} {f : Nat → Int32} {g : Nat → Nat → Int32} {S0 : sT} (hR : st_mo S0 f g) (hO : st_ok S0) {a : Nat} (ha : a < sC S0) : mi_Mi l yX5_isForged (Cond.code yX5_isForged cX5_isForged 4 (some Jvm.ClassFile.FieldType.boolean)) (mi_rm 3) D A (mo_W D A ad cf0 f g) [.ref (ad 1000020), .int (nI (a))] 0 0 (fun r H => r = nI (sp_fg (sCh S0 a) (wn (sF S0 (sCd S0 a)) ((sCn S0 a - 1) / 2)) 16) ∧ ∃ f1 g1, mo_W D A ad cf0 f1 g1 H ∧ st_mo (S0) f1 g1 ∧ f1 0 = nI 0) := by
  refine mi_start (cc := cX5_isForged) (nL := 4) (ret := (some Jvm.ClassFile.FieldType.boolean)) rfl (by decide) (Nat.le_of_ble_eq_true rfl) ?_
  intro p e s m below meth c ls S E hM hS hr hk hn hl
  have S : CallFix p m c cX5_isForged 4 s _ ((Cond.code yX5_isForged cX5_isForged 4 (some Jvm.ClassFile.FieldType.boolean)) :: mi_G) RX5 := S
  have hl : lv_has ls 4 [(0, .ref (ad 1000020)), (1, .int (nI (a)))] := hl
  obtain ⟨⟨o1, o2, o3, o4, o5⟩, oP, oK, oD, oX, oC, oI⟩ := id hO
  have hw : sW S0 < 61 := by omega
  have hK := st_mo_K hR o3
  have hKb : ∀ j, j < 128 → sK S0 (sW S0) j < 4 := fun j hj => oK _ _ o3 hj
  obtain ⟨ci1, ci2, ci3⟩ := st_ci hO ha
  have oXd := oX _ ci1
  refine lv_aload_n S.1 S.2.1 dX5_isForged_0 rfl (lv_at hl 0 rfl) ?_
  refine lv_aload_n S.1 S.2.1 dX5_isForged_1 rfl (lv_at hl 0 rfl) ?_
  refine lv_iload_n S.1 S.2.1 dX5_isForged_2 rfl (lv_at hl 1 rfl) ?_
  refine mi_cR (mi_runV (P := mo_W D A ad cf0 f g) (As := [.int (nI (a))]) (rest := [.ref (ad 1000020)]) S E hS hM (ad 1000020) (c_isCoin_y l D A (f := f) (g := g) (n := sC S0) hR.1.2.2.2 (by omega) (by omega)) (hM.recv E) mw_871 mw_868 mw_870 mw_30 mw_43 ⟨by decide, by decide, by decide +kernel⟩ ⟨rfl, rfl, Nat.le_of_ble_eq_true rfl, Nat.le_of_ble_eq_true rfl⟩ (n := 1) rfl hl.1 rfl (Nat.le_of_ble_eq_true rfl) dX5_isForged_3 ⟨Nat.le_of_ble_eq_true rfl, Nat.le_of_ble_eq_true rfl⟩) (fun r9 e9 => ?_)
  subst e9
  refine mi_if_eq (tgt := 13) S (by omega) dX5_isForged_6 (by decide) (fun c6_0 => by exfalso; omega) (fun c6_0 => ?_)
  refine lv_iconst (v := nI 0) S.1 S.2.1 dX5_isForged_9 (by decide) ?_
  refine lv_goto (tgt := 14) S.1 S.2.1 dX5_isForged_10 (by decide) ?_
  refine mo_p_44 S E hS hM dX5_isForged_14 (fun H locs hM hS => ?_)
  refine lv_aload_n S.1 S.2.1 dX5_isForged_17 rfl (lv_at hl 0 rfl) ?_
  refine mo_g_44 S E hM dX5_isForged_18 ?_
  refine mi_top (v' := .int (nI (0))) (rfl) ?_
  refine mi_if_le (tgt := 26) S (by omega) dX5_isForged_21 (by decide) (fun c21_2 => ?_) (fun c21_2 => by exfalso; omega)
  refine lv_aload_n S.1 S.2.1 dX5_isForged_26 rfl (lv_at hl 0 rfl) ?_
  refine lv_aload_n S.1 S.2.1 dX5_isForged_27 rfl (lv_at hl 0 rfl) ?_
  refine mo_g_35 S E hM dX5_isForged_28 ?_
  refine lv_iload_n S.1 S.2.1 dX5_isForged_31 rfl (lv_at hl 1 rfl) ?_
  refine mo_ald 12 S E hM rfl (by show _ < 60; omega) dX5_isForged_32 ?_
  refine mi_top (v' := .int (nI (sCd S0 a))) (congrArg Value.int (st_cd hR (by omega))) ?_
  refine lv_aload_n S.1 S.2.1 dX5_isForged_33 rfl (lv_at hl 0 rfl) ?_
  refine mo_g_38 S E hM dX5_isForged_34 ?_
  refine lv_iload_n S.1 S.2.1 dX5_isForged_37 rfl (lv_at hl 1 rfl) ?_
  refine mo_ald 13 S E hM rfl (by show _ < 60; omega) dX5_isForged_38 ?_
  refine mi_top (v' := .int (nI (sCn S0 a))) (congrArg Value.int (st_cn hR (by omega))) ?_
  refine mi_cMv (mi_runV (P := mo_W D A ad cf0 (upd f 0 (nI (0))) g) (As := [.int (nI (sCd S0 a)), .int (nI (sCn S0 a))]) (rest := []) S E hS hM (ad 1000020) (c_laysThen l D A (f := (upd f 0 (nI (0)))) (st_mo_0 hR _) hO ci1 ci2 (by omega)) (hM.recv E) mw_894 mw_891 mw_893 mw_31 mw_43 ⟨by decide, by decide, by decide +kernel⟩ ⟨rfl, rfl, Nat.le_of_ble_eq_true rfl, Nat.le_of_ble_eq_true rfl⟩ (n := 2) rfl hl.1 rfl (Nat.le_of_ble_eq_true rfl) dX5_isForged_39 ⟨Nat.le_of_ble_eq_true rfl, Nat.le_of_ble_eq_true rfl⟩) hS (fun H locs hp9 hS hz => ?_)
  obtain ⟨x9, hM, hx9⟩ := hp9
  refine lv_iconst (v := nI 0) S.1 S.2.1 dX5_isForged_42 (by decide) ?_
  refine lv_istore_n (lv' := [(2, .int (nI (0))), (0, .ref (ad 1000020)), (1, .int (nI (a)))]) S.1 S.2.1 dX5_isForged_43 rfl hl (by decide) rfl (fun ls hl => ?_)
  refine lv_iconst (v := nI 0) S.1 S.2.1 dX5_isForged_44 (by decide) ?_
  refine lv_istore_n (lv' := [(3, .int (nI (0))), (2, .int (nI (0))), (0, .ref (ad 1000020)), (1, .int (nI (a)))]) S.1 S.2.1 dX5_isForged_45 rfl hl (by decide) rfl (fun ls hl => ?_)
  have lp46 : ∀ (n46 : Nat) (v : Nat) (i : Nat) (ls : Array Slot), 16 - i < n46 → i ≤ 16 → v = sp_fg (sCh S0 a) (wn (sF S0 (sCd S0 a)) ((sCn S0 a - 1) / 2)) i → v ≤ 1 → lv_has ls 4 [(0, .ref (ad 1000020)), (1, .int (nI (a))), (2, .int (nI (v))), (3, .int (nI (i)))] → W p l e (mi_rm 3) s m ([.ref (ad 1000020), .int (nI (a))] : List Value).toArray below meth c H locs 0 0 (MQ below (mi_Qi A (fun r H => r = nI (sp_fg (sCh S0 a) (wn (sF S0 (sCd S0 a)) ((sCn S0 a - 1) / 2)) 16) ∧ ∃ f1 g1, mo_W D A ad cf0 f1 g1 H ∧ st_mo (S0) f1 g1 ∧ f1 0 = nI 0)) ([.ref (ad 1000020), .int (nI (a))] : List Value).toArray s 0 0 A) (F0 m 46 ls []) := by
    intro n46
    induction n46 with
    | zero => intro v i ls hm hi hv9 hvb  hl; exact absurd hm (Nat.not_lt_zero _)
    | succ n46 ih46 =>
      intro v i ls hm hi hv9 hvb  hl
      refine lv_iload_n S.1 S.2.1 dX5_isForged_46 rfl (lv_at hl 3 rfl) ?_
      refine lv_bipush (v := nI 16) S.1 S.2.1 dX5_isForged_47 (by decide) ?_
      refine mi_icmp_ge (tgt := 88) S (by omega) (by omega) dX5_isForged_49 (by decide) (fun c49_3 => ?_) (fun c49_3 => ?_)
      · refine lv_iload_n S.1 S.2.1 dX5_isForged_88 rfl (lv_at hl 2 rfl) ?_
        exact mi_retMz S hr hk hS dX5_isForged_89 (mi_nz hvb) (Nat.le_refl _) (Nat.le_refl _) ⟨(by rw [hv9, show i = 16 by omega]), (upd f 0 (nI (0))), (va_up g 14 x9), hM, st_mo_14 (st_mo_0 hR _) _, rfl⟩
      · have hb1 := st_cb hO ha (show i < 16 by omega)
        have hb2 := Nat.le_trans (wn_le (sF S0 (sCd S0 a)) i ((sCn S0 a - 1) / 2)) (st_fb hO ci1 (show i < 16 by omega))
        refine lv_iload_n S.1 S.2.1 dX5_isForged_52 rfl (lv_at hl 2 rfl) ?_
        refine mi_if_ne (tgt := 76) S (by omega) dX5_isForged_53 (by decide) (fun c53_4 => ?_) (fun c53_4 => ?_)
        · refine lv_iconst (v := nI 1) S.1 S.2.1 dX5_isForged_76 (by decide) ?_
          refine lv_goto (tgt := 81) S.1 S.2.1 dX5_isForged_77 (by decide) ?_
          refine lv_istore_n (lv' := [(2, .int (nI (1))), (0, .ref (ad 1000020)), (1, .int (nI (a))), (3, .int (nI (i)))]) S.1 S.2.1 dX5_isForged_81 rfl hl (by decide) rfl (fun ls hl => ?_)
          refine lv_iinc (v := nI (i + 1)) (lv' := [(3, .int (nI (i + 1))), (2, .int (nI (1))), (0, .ref (ad 1000020)), (1, .int (nI (a)))]) S.1 S.2.1 dX5_isForged_82 hl (k := 3) rfl (mi_inc _) (by decide) rfl (fun ls hl => ?_)
          refine lv_goto (tgt := 46) S.1 S.2.1 dX5_isForged_85 (by decide) ?_
          exact ih46 1 (i + 1) _ (by omega) (by omega) (by first | (rw [sp_fg_2 (by omega)]) | (rw [sp_fg_0 (by omega)]; omega) | (rw [sp_fg_1 (by omega)])) (by omega)  (lv_sub hl [2, 3, 1, 0] rfl)
        · refine lv_aload_n S.1 S.2.1 dX5_isForged_56 rfl (lv_at hl 0 rfl) ?_
          refine mo_g_32 S E hM dX5_isForged_57 ?_
          refine lv_bipush (v := nI 16) S.1 S.2.1 dX5_isForged_60 (by decide) ?_
          refine lv_iload_n S.1 S.2.1 dX5_isForged_62 rfl (lv_at hl 1 rfl) ?_
          refine mi_imul S dX5_isForged_63 ?_
          refine lv_iload_n S.1 S.2.1 dX5_isForged_64 rfl (lv_at hl 3 rfl) ?_
          refine mi_iadd S dX5_isForged_65 ?_
          refine mo_ald 11 S E hM rfl (by show _ < 960; omega) dX5_isForged_66 ?_
          refine mi_top (v' := .int (nI (sCh S0 a i))) (congrArg Value.int (st_ch hR (by omega) (by omega))) ?_
          refine lv_aload_n S.1 S.2.1 dX5_isForged_67 rfl (lv_at hl 0 rfl) ?_
          refine mo_g_41 S E hM dX5_isForged_68 ?_
          refine lv_iload_n S.1 S.2.1 dX5_isForged_71 rfl (lv_at hl 3 rfl) ?_
          refine mo_ald 14 S E hM rfl (by show _ < 16; omega) dX5_isForged_72 ?_
          refine mi_top (v' := .int (nI (wn (sF S0 (sCd S0 a)) ((sCn S0 a - 1) / 2) i))) (congrArg Value.int ((congrFun mi_up_s _).trans (hx9 i (by omega)))) ?_
          refine mi_icmp_eq (tgt := 80) S (by omega) (by omega) dX5_isForged_73 (by decide) (fun c73_5 => ?_) (fun c73_5 => ?_)
          · refine lv_iconst (v := nI 0) S.1 S.2.1 dX5_isForged_80 (by decide) ?_
            refine lv_istore_n (lv' := [(2, .int (nI (0))), (0, .ref (ad 1000020)), (1, .int (nI (a))), (3, .int (nI (i)))]) S.1 S.2.1 dX5_isForged_81 rfl hl (by decide) rfl (fun ls hl => ?_)
            refine lv_iinc (v := nI (i + 1)) (lv' := [(3, .int (nI (i + 1))), (2, .int (nI (0))), (0, .ref (ad 1000020)), (1, .int (nI (a)))]) S.1 S.2.1 dX5_isForged_82 hl (k := 3) rfl (mi_inc _) (by decide) rfl (fun ls hl => ?_)
            refine lv_goto (tgt := 46) S.1 S.2.1 dX5_isForged_85 (by decide) ?_
            exact ih46 0 (i + 1) _ (by omega) (by omega) (by first | (rw [sp_fg_2 (by omega)]) | (rw [sp_fg_0 (by omega)]; omega) | (rw [sp_fg_1 (by omega)])) (by omega)  (lv_sub hl [2, 3, 1, 0] rfl)
          · refine lv_iconst (v := nI 1) S.1 S.2.1 dX5_isForged_76 (by decide) ?_
            refine lv_goto (tgt := 81) S.1 S.2.1 dX5_isForged_77 (by decide) ?_
            refine lv_istore_n (lv' := [(2, .int (nI (1))), (0, .ref (ad 1000020)), (1, .int (nI (a))), (3, .int (nI (i)))]) S.1 S.2.1 dX5_isForged_81 rfl hl (by decide) rfl (fun ls hl => ?_)
            refine lv_iinc (v := nI (i + 1)) (lv' := [(3, .int (nI (i + 1))), (2, .int (nI (1))), (0, .ref (ad 1000020)), (1, .int (nI (a)))]) S.1 S.2.1 dX5_isForged_82 hl (k := 3) rfl (mi_inc _) (by decide) rfl (fun ls hl => ?_)
            refine lv_goto (tgt := 46) S.1 S.2.1 dX5_isForged_85 (by decide) ?_
            exact ih46 1 (i + 1) _ (by omega) (by omega) (by first | (rw [sp_fg_2 (by omega)]) | (rw [sp_fg_0 (by omega)]; omega) | (rw [sp_fg_1 (by omega)])) (by omega)  (lv_sub hl [2, 3, 1, 0] rfl)
  exact lp46 _ 0 0 _ (Nat.lt_succ_self _) (by omega) (by rfl) (by omega)  (lv_sub hl [2, 3, 1, 0] rfl)
set_option maxHeartbeats 4000000 in
set_option maxRecDepth 100000 in
theorem c_misForged_1 (l : Launch) (D : va_G) (A : Nat → Prop) {ad : Nat → Nat} {cf0 : Nat → Option va_E} {f : Nat → Int32} {g : Nat → Nat → Int32} {S0 : sT} (hR : st_mo S0 f g) (hO : st_ok S0) {x : Int32} (h9 : ¬ (0 ≤ x.toInt ∧ x.toInt < sC S0)) : mi_Mi l yX5_isForged (Cond.code yX5_isForged cX5_isForged 4 (some Jvm.ClassFile.FieldType.boolean)) (mi_rm 3) D A (mo_W D A ad cf0 f g) [.ref (ad 1000020), .int (x)] 0 0 (fun r H => mo_W D A ad cf0 (upd f 0 (nI 1)) g H) := by
  refine mi_start (cc := cX5_isForged) (nL := 4) (ret := (some Jvm.ClassFile.FieldType.boolean)) rfl (by decide) (Nat.le_of_ble_eq_true rfl) ?_
  intro p e s m below meth c ls S E hM hS hr hk hn hl
  have S : CallFix p m c cX5_isForged 4 s _ ((Cond.code yX5_isForged cX5_isForged 4 (some Jvm.ClassFile.FieldType.boolean)) :: mi_G) RX5 := S
  have hl : lv_has ls 4 [(0, .ref (ad 1000020)), (1, .int (x))] := hl
  obtain ⟨⟨o1, o2, o3, o4, o5⟩, oP, oK, oD, oX, oC, oI⟩ := id hO
  have hw : sW S0 < 61 := by omega
  have hK := st_mo_K hR o3
  have hKb : ∀ j, j < 128 → sK S0 (sW S0) j < 4 := fun j hj => oK _ _ o3 hj
  refine lv_aload_n S.1 S.2.1 dX5_isForged_0 rfl (lv_at hl 0 rfl) ?_
  refine lv_aload_n S.1 S.2.1 dX5_isForged_1 rfl (lv_at hl 0 rfl) ?_
  refine lv_iload_n S.1 S.2.1 dX5_isForged_2 rfl (lv_at hl 1 rfl) ?_
  refine mi_cR (mi_runV (P := mo_W D A ad cf0 f g) (As := [.int (x)]) (rest := [.ref (ad 1000020)]) S E hS hM (ad 1000020) (c_isCoin_n l D A (f := f) (g := g) (n := sC S0) hR.1.2.2.2 (by omega) h9) (hM.recv E) mw_871 mw_868 mw_870 mw_30 mw_43 ⟨by decide, by decide, by decide +kernel⟩ ⟨rfl, rfl, Nat.le_of_ble_eq_true rfl, Nat.le_of_ble_eq_true rfl⟩ (n := 1) rfl hl.1 rfl (Nat.le_of_ble_eq_true rfl) dX5_isForged_3 ⟨Nat.le_of_ble_eq_true rfl, Nat.le_of_ble_eq_true rfl⟩) (fun r9 e9 => ?_)
  subst e9
  refine mi_if_eq (tgt := 13) S (by omega) dX5_isForged_6 (by decide) (fun c6_0 => ?_) (fun c6_0 => by exfalso; omega)
  refine lv_iconst (v := nI 1) S.1 S.2.1 dX5_isForged_13 (by decide) ?_
  refine mo_p_44 S E hS hM dX5_isForged_14 (fun H locs hM hS => ?_)
  refine lv_aload_n S.1 S.2.1 dX5_isForged_17 rfl (lv_at hl 0 rfl) ?_
  refine mo_g_44 S E hM dX5_isForged_18 ?_
  refine mi_top (v' := .int (nI (1))) (rfl) ?_
  refine mi_if_le (tgt := 26) S (by omega) dX5_isForged_21 (by decide) (fun c21_2 => by exfalso; omega) (fun c21_2 => ?_)
  refine lv_iconst (v := nI 0) S.1 S.2.1 dX5_isForged_24 (by decide) ?_
  exact mi_retMz S hr hk hS dX5_isForged_25 rfl (Nat.le_refl _) (Nat.le_refl _) (hM)
