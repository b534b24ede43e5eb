/-! the reference's dies and coins -/
set_option maxHeartbeats 4000000 in
set_option maxRecDepth 100000 in
theorem c_mdieHeight (l : Launch) (D : va_G) (A : Nat → Prop) {ad : Nat → Nat} {cf0 : Nat → Option va_E} {f : Nat → Int32} {g : Nat → Nat → Int32} {S0 : sT} (hR : st_mo S0 f g) (hO : st_ok S0) {d : Nat} (hd : d < sD S0) {b : Nat} (hb : b < 16) : mi_Mi l yX5_dieHeight (Cond.code yX5_dieHeight cX5_dieHeight 3 (some Jvm.ClassFile.FieldType.int)) (mi_rm 3) D A (mo_W D A ad cf0 f g) [.ref (ad 1000020), .int (nI (d)), .int (nI (b))] 0 0 (fun r H => r = nI (sH S0 d b) ∧ ∃ f1 g1, mo_W D A ad cf0 f1 g1 H ∧ st_mo (S0) f1 g1 ∧ f1 0 = nI 0) := by
  refine mi_start (cc := cX5_dieHeight) (nL := 3) (ret := (some Jvm.ClassFile.FieldType.int)) rfl (by decide) (Nat.le_of_ble_eq_true rfl) ?_
  intro p e s m below meth c ls S E hM hS hr hk hn hl
  have S : CallFix p m c cX5_dieHeight 3 s _ ((Cond.code yX5_dieHeight cX5_dieHeight 3 (some Jvm.ClassFile.FieldType.int)) :: mi_G) RX5 := S
  have hl : lv_has ls 3 [(0, .ref (ad 1000020)), (1, .int (nI (d))), (2, .int (nI (b)))] := hl
  obtain ⟨⟨o1, o2, o3, o4, o5⟩, oP, oK, oD, oX, oC, oI⟩ := id hO
  have hw : sW S0 < 61 := by omega
  have hK := st_mo_K hR o3
  have hKb : ∀ j, j < 128 → sK S0 (sW S0) j < 4 := fun j hj => oK _ _ o3 hj
  refine lv_aload_n S.1 S.2.1 dX5_dieHeight_0 rfl (lv_at hl 0 rfl) ?_
  refine lv_aload_n S.1 S.2.1 dX5_dieHeight_1 rfl (lv_at hl 0 rfl) ?_
  refine lv_iload_n S.1 S.2.1 dX5_dieHeight_2 rfl (lv_at hl 1 rfl) ?_
  refine mi_cR (mi_runV (P := mo_W D A ad cf0 f g) (As := [.int (nI (d))]) (rest := [.ref (ad 1000020)]) S E hS hM (ad 1000020) (c_isDie_y l D A (f := f) (g := g) (n := sD S0) hR.1.2.2.1 (by omega) (by omega)) (hM.recv E) mw_863 mw_860 mw_862 mw_29 mw_43 ⟨by decide, by decide, by decide +kernel⟩ ⟨rfl, rfl, Nat.le_of_ble_eq_true rfl, Nat.le_of_ble_eq_true rfl⟩ (n := 1) rfl hl.1 rfl (Nat.le_of_ble_eq_true rfl) dX5_dieHeight_3 ⟨Nat.le_of_ble_eq_true rfl, Nat.le_of_ble_eq_true rfl⟩) (fun r9 e9 => ?_)
  subst e9
  refine mi_if_eq (tgt := 20) S (by omega) dX5_dieHeight_6 (by decide) (fun c6_0 => by exfalso; omega) (fun c6_0 => ?_)
  refine lv_iload_n S.1 S.2.1 dX5_dieHeight_9 rfl (lv_at hl 2 rfl) ?_
  refine mi_cR (mi_runS (P := mo_W D A ad cf0 f g) (As := [.int (nI (b))]) (rest := [.ref (ad 1000020)]) S E hS hM (c_misColumn_y l D A (mo_W D A ad cf0 f g) (by omega)) mw_733 mw_731 mw_732 mw_43 ⟨by decide, by decide, by decide +kernel⟩ ⟨rfl, rfl, Nat.le_of_ble_eq_true rfl, Nat.le_of_ble_eq_true rfl⟩ (n := 1) rfl hl.1 rfl (Nat.le_of_ble_eq_true rfl) dX5_dieHeight_10 ⟨Nat.le_of_ble_eq_true rfl, Nat.le_of_ble_eq_true rfl⟩) (fun r9 e9 => ?_)
  subst e9
  refine mi_if_eq (tgt := 20) S (by omega) dX5_dieHeight_13 (by decide) (fun c13_1 => by exfalso; omega) (fun c13_1 => ?_)
  refine lv_iconst (v := nI 0) S.1 S.2.1 dX5_dieHeight_16 (by decide) ?_
  refine lv_goto (tgt := 21) S.1 S.2.1 dX5_dieHeight_17 (by decide) ?_
  refine mo_p_44 S E hS hM dX5_dieHeight_21 (fun H locs hM hS => ?_)
  refine lv_aload_n S.1 S.2.1 dX5_dieHeight_24 rfl (lv_at hl 0 rfl) ?_
  refine mo_g_44 S E hM dX5_dieHeight_25 ?_
  refine mi_top (v' := .int (nI (0))) (rfl) ?_
  refine mi_if_le (tgt := 35) S (by omega) dX5_dieHeight_28 (by decide) (fun c28_3 => ?_) (fun c28_3 => by exfalso; omega)
  refine lv_aload_n S.1 S.2.1 dX5_dieHeight_35 rfl (lv_at hl 0 rfl) ?_
  refine mo_g_26 S E hM dX5_dieHeight_36 ?_
  refine lv_bipush (v := nI 16) S.1 S.2.1 dX5_dieHeight_39 (by decide) ?_
  refine lv_iload_n S.1 S.2.1 dX5_dieHeight_41 rfl (lv_at hl 1 rfl) ?_
  refine mi_imul S dX5_dieHeight_42 ?_
  refine lv_iload_n S.1 S.2.1 dX5_dieHeight_43 rfl (lv_at hl 2 rfl) ?_
  refine mi_iadd S dX5_dieHeight_44 ?_
  refine mo_ald 8 S E hM rfl (by show _ < 128; omega) dX5_dieHeight_45 ?_
  refine mi_top (v' := .int (nI (sH S0 d b))) (congrArg Value.int (st_dh hR (by omega) (by omega))) ?_
  exact mi_retMi S hr hk hS dX5_dieHeight_46 (Nat.le_refl _) (Nat.le_refl _) ⟨rfl, (upd f 0 (nI (0))), g, hM, st_mo_0 hR _, rfl⟩
set_option maxHeartbeats 4000000 in
set_option maxRecDepth 100000 in
theorem c_mdieHeight_1 (l : Launch) (D : va_G) (A : Nat → Prop) {ad : Nat → Nat} {cf0 : Nat → Option va_E} {f : Nat → Int32} {g : Nat → Nat → Int32} {S0 : sT} (hR : st_mo S0 f g) (hO : st_ok S0) {y : Int32} {x : Int32} (h9 : ¬ (0 ≤ x.toInt ∧ x.toInt < sD S0)) : mi_Mi l yX5_dieHeight (Cond.code yX5_dieHeight cX5_dieHeight 3 (some Jvm.ClassFile.FieldType.int)) (mi_rm 3) D A (mo_W D A ad cf0 f g) [.ref (ad 1000020), .int (x), .int (y)] 0 0 (fun r H => mo_W D A ad cf0 (upd f 0 (nI 1)) g H) := by
  refine mi_start (cc := cX5_dieHeight) (nL := 3) (ret := (some Jvm.ClassFile.FieldType.int)) rfl (by decide) (Nat.le_of_ble_eq_true rfl) ?_
  intro p e s m below meth c ls S E hM hS hr hk hn hl
  have S : CallFix p m c cX5_dieHeight 3 s _ ((Cond.code yX5_dieHeight cX5_dieHeight 3 (some Jvm.ClassFile.FieldType.int)) :: mi_G) RX5 := S
  have hl : lv_has ls 3 [(0, .ref (ad 1000020)), (1, .int (x)), (2, .int (y))] := hl
  obtain ⟨⟨o1, o2, o3, o4, o5⟩, oP, oK, oD, oX, oC, oI⟩ := id hO
  have hw : sW S0 < 61 := by omega
  have hK := st_mo_K hR o3
  have hKb : ∀ j, j < 128 → sK S0 (sW S0) j < 4 := fun j hj => oK _ _ o3 hj
  refine lv_aload_n S.1 S.2.1 dX5_dieHeight_0 rfl (lv_at hl 0 rfl) ?_
  refine lv_aload_n S.1 S.2.1 dX5_dieHeight_1 rfl (lv_at hl 0 rfl) ?_
  refine lv_iload_n S.1 S.2.1 dX5_dieHeight_2 rfl (lv_at hl 1 rfl) ?_
  refine mi_cR (mi_runV (P := mo_W D A ad cf0 f g) (As := [.int (x)]) (rest := [.ref (ad 1000020)]) S E hS hM (ad 1000020) (c_isDie_n l D A (f := f) (g := g) (n := sD S0) hR.1.2.2.1 (by omega) h9) (hM.recv E) mw_863 mw_860 mw_862 mw_29 mw_43 ⟨by decide, by decide, by decide +kernel⟩ ⟨rfl, rfl, Nat.le_of_ble_eq_true rfl, Nat.le_of_ble_eq_true rfl⟩ (n := 1) rfl hl.1 rfl (Nat.le_of_ble_eq_true rfl) dX5_dieHeight_3 ⟨Nat.le_of_ble_eq_true rfl, Nat.le_of_ble_eq_true rfl⟩) (fun r9 e9 => ?_)
  subst e9
  refine mi_if_eq (tgt := 20) S (by omega) dX5_dieHeight_6 (by decide) (fun c6_0 => ?_) (fun c6_0 => by exfalso; omega)
  refine lv_iconst (v := nI 1) S.1 S.2.1 dX5_dieHeight_20 (by decide) ?_
  refine mo_p_44 S E hS hM dX5_dieHeight_21 (fun H locs hM hS => ?_)
  refine lv_aload_n S.1 S.2.1 dX5_dieHeight_24 rfl (lv_at hl 0 rfl) ?_
  refine mo_g_44 S E hM dX5_dieHeight_25 ?_
  refine mi_top (v' := .int (nI (1))) (rfl) ?_
  refine mi_if_le (tgt := 35) S (by omega) dX5_dieHeight_28 (by decide) (fun c28_2 => by exfalso; omega) (fun c28_2 => ?_)
  refine lv_iconst (v := nI 0) S.1 S.2.1 dX5_dieHeight_31 (by decide) ?_
  refine lv_goto (tgt := 46) S.1 S.2.1 dX5_dieHeight_32 (by decide) ?_
  exact mi_retMi S hr hk hS dX5_dieHeight_46 (Nat.le_refl _) (Nat.le_refl _) (hM)
set_option maxHeartbeats 4000000 in
set_option maxRecDepth 100000 in
theorem c_mdieHeight_2 (l : Launch) (D : va_G) (A : Nat → Prop) {ad : Nat → Nat} {cf0 : Nat → Option va_E} {f : Nat → Int32} {g : Nat → Nat → Int32} {S0 : sT} (hR : st_mo S0 f g) (hO : st_ok S0) {d : Nat} (hd : d < sD S0) {x : Int32} (h9 : ¬ (0 ≤ x.toInt ∧ x.toInt ≤ 15)) : mi_Mi l yX5_dieHeight (Cond.code yX5_dieHeight cX5_dieHeight 3 (some Jvm.ClassFile.FieldType.int)) (mi_rm 3) D A (mo_W D A ad cf0 f g) [.ref (ad 1000020), .int (nI (d)), .int (x)] 0 0 (fun r H => mo_W D A ad cf0 (upd f 0 (nI 1)) g H) := by
  refine mi_start (cc := cX5_dieHeight) (nL := 3) (ret := (some Jvm.ClassFile.FieldType.int)) rfl (by decide) (Nat.le_of_ble_eq_true rfl) ?_
  intro p e s m below meth c ls S E hM hS hr hk hn hl
  have S : CallFix p m c cX5_dieHeight 3 s _ ((Cond.code yX5_dieHeight cX5_dieHeight 3 (some Jvm.ClassFile.FieldType.int)) :: mi_G) RX5 := S
  have hl : lv_has ls 3 [(0, .ref (ad 1000020)), (1, .int (nI (d))), (2, .int (x))] := hl
  obtain ⟨⟨o1, o2, o3, o4, o5⟩, oP, oK, oD, oX, oC, oI⟩ := id hO
  have hw : sW S0 < 61 := by omega
  have hK := st_mo_K hR o3
  have hKb : ∀ j, j < 128 → sK S0 (sW S0) j < 4 := fun j hj => oK _ _ o3 hj
  refine lv_aload_n S.1 S.2.1 dX5_dieHeight_0 rfl (lv_at hl 0 rfl) ?_
  refine lv_aload_n S.1 S.2.1 dX5_dieHeight_1 rfl (lv_at hl 0 rfl) ?_
  refine lv_iload_n S.1 S.2.1 dX5_dieHeight_2 rfl (lv_at hl 1 rfl) ?_
  refine mi_cR (mi_runV (P := mo_W D A ad cf0 f g) (As := [.int (nI (d))]) (rest := [.ref (ad 1000020)]) S E hS hM (ad 1000020) (c_isDie_y l D A (f := f) (g := g) (n := sD S0) hR.1.2.2.1 (by omega) (by omega)) (hM.recv E) mw_863 mw_860 mw_862 mw_29 mw_43 ⟨by decide, by decide, by decide +kernel⟩ ⟨rfl, rfl, Nat.le_of_ble_eq_true rfl, Nat.le_of_ble_eq_true rfl⟩ (n := 1) rfl hl.1 rfl (Nat.le_of_ble_eq_true rfl) dX5_dieHeight_3 ⟨Nat.le_of_ble_eq_true rfl, Nat.le_of_ble_eq_true rfl⟩) (fun r9 e9 => ?_)
  subst e9
  refine mi_if_eq (tgt := 20) S (by omega) dX5_dieHeight_6 (by decide) (fun c6_0 => by exfalso; omega) (fun c6_0 => ?_)
  refine lv_iload_n S.1 S.2.1 dX5_dieHeight_9 rfl (lv_at hl 2 rfl) ?_
  refine mi_cR (mi_runS (P := mo_W D A ad cf0 f g) (As := [.int (x)]) (rest := [.ref (ad 1000020)]) S E hS hM (c_misColumn_n l D A (mo_W D A ad cf0 f g) (h9)) mw_733 mw_731 mw_732 mw_43 ⟨by decide, by decide, by decide +kernel⟩ ⟨rfl, rfl, Nat.le_of_ble_eq_true rfl, Nat.le_of_ble_eq_true rfl⟩ (n := 1) rfl hl.1 rfl (Nat.le_of_ble_eq_true rfl) dX5_dieHeight_10 ⟨Nat.le_of_ble_eq_true rfl, Nat.le_of_ble_eq_true rfl⟩) (fun r9 e9 => ?_)
  subst e9
  refine mi_if_eq (tgt := 20) S (by omega) dX5_dieHeight_13 (by decide) (fun c13_1 => ?_) (fun c13_1 => by exfalso; omega)
  refine lv_iconst (v := nI 1) S.1 S.2.1 dX5_dieHeight_20 (by decide) ?_
  refine mo_p_44 S E hS hM dX5_dieHeight_21 (fun H locs hM hS => ?_)
  refine lv_aload_n S.1 S.2.1 dX5_dieHeight_24 rfl (lv_at hl 0 rfl) ?_
  refine mo_g_44 S E hM dX5_dieHeight_25 ?_
  refine mi_top (v' := .int (nI (1))) (rfl) ?_
  refine mi_if_le (tgt := 35) S (by omega) dX5_dieHeight_28 (by decide) (fun c28_3 => by exfalso; omega) (fun c28_3 => ?_)
  refine lv_iconst (v := nI 0) S.1 S.2.1 dX5_dieHeight_31 (by decide) ?_
  refine lv_goto (tgt := 46) S.1 S.2.1 dX5_dieHeight_32 (by decide) ?_
  exact mi_retMi S hr hk hS dX5_dieHeight_46 (Nat.le_refl _) (Nat.le_refl _) (hM)
set_option maxHeartbeats 4000000 in
set_option maxRecDepth 100000 in
theorem c_mcoinHeight (l : Launch) (D : va_G) (A : Nat → Prop) {ad : Nat → Nat} {cf0 : Nat → Option va_E} {f : Nat → Int32} {g : Nat → Nat → Int32} {S0 : sT} (hR : st_mo S0 f g) (hO : st_ok S0) {a : Nat} (ha : a < sC S0) {b : Nat} (hb : b < 16) : mi_Mi l yX5_coinHeight (Cond.code yX5_coinHeight cX5_coinHeight 3 (some Jvm.ClassFile.FieldType.int)) (mi_rm 3) D A (mo_W D A ad cf0 f g) [.ref (ad 1000020), .int (nI (a)), .int (nI (b))] 0 0 (fun r H => r = nI (sCh S0 a b) ∧ ∃ f1 g1, mo_W D A ad cf0 f1 g1 H ∧ st_mo (S0) f1 g1 ∧ f1 0 = nI 0) := by
  refine mi_start (cc := cX5_coinHeight) (nL := 3) (ret := (some Jvm.ClassFile.FieldType.int)) rfl (by decide) (Nat.le_of_ble_eq_true rfl) ?_
  intro p e s m below meth c ls S E hM hS hr hk hn hl
  have S : CallFix p m c cX5_coinHeight 3 s _ ((Cond.code yX5_coinHeight cX5_coinHeight 3 (some Jvm.ClassFile.FieldType.int)) :: mi_G) RX5 := S
  have hl : lv_has ls 3 [(0, .ref (ad 1000020)), (1, .int (nI (a))), (2, .int (nI (b)))] := hl
  obtain ⟨⟨o1, o2, o3, o4, o5⟩, oP, oK, oD, oX, oC, oI⟩ := id hO
  have hw : sW S0 < 61 := by omega
  have hK := st_mo_K hR o3
  have hKb : ∀ j, j < 128 → sK S0 (sW S0) j < 4 := fun j hj => oK _ _ o3 hj
  refine lv_aload_n S.1 S.2.1 dX5_coinHeight_0 rfl (lv_at hl 0 rfl) ?_
  refine lv_aload_n S.1 S.2.1 dX5_coinHeight_1 rfl (lv_at hl 0 rfl) ?_
  refine lv_iload_n S.1 S.2.1 dX5_coinHeight_2 rfl (lv_at hl 1 rfl) ?_
  refine mi_cR (mi_runV (P := mo_W D A ad cf0 f g) (As := [.int (nI (a))]) (rest := [.ref (ad 1000020)]) S E hS hM (ad 1000020) (c_isCoin_y l D A (f := f) (g := g) (n := sC S0) hR.1.2.2.2 (by omega) (by omega)) (hM.recv E) mw_871 mw_868 mw_870 mw_30 mw_43 ⟨by decide, by decide, by decide +kernel⟩ ⟨rfl, rfl, Nat.le_of_ble_eq_true rfl, Nat.le_of_ble_eq_true rfl⟩ (n := 1) rfl hl.1 rfl (Nat.le_of_ble_eq_true rfl) dX5_coinHeight_3 ⟨Nat.le_of_ble_eq_true rfl, Nat.le_of_ble_eq_true rfl⟩) (fun r9 e9 => ?_)
  subst e9
  refine mi_if_eq (tgt := 20) S (by omega) dX5_coinHeight_6 (by decide) (fun c6_0 => by exfalso; omega) (fun c6_0 => ?_)
  refine lv_iload_n S.1 S.2.1 dX5_coinHeight_9 rfl (lv_at hl 2 rfl) ?_
  refine mi_cR (mi_runS (P := mo_W D A ad cf0 f g) (As := [.int (nI (b))]) (rest := [.ref (ad 1000020)]) S E hS hM (c_misColumn_y l D A (mo_W D A ad cf0 f g) (by omega)) mw_733 mw_731 mw_732 mw_43 ⟨by decide, by decide, by decide +kernel⟩ ⟨rfl, rfl, Nat.le_of_ble_eq_true rfl, Nat.le_of_ble_eq_true rfl⟩ (n := 1) rfl hl.1 rfl (Nat.le_of_ble_eq_true rfl) dX5_coinHeight_10 ⟨Nat.le_of_ble_eq_true rfl, Nat.le_of_ble_eq_true rfl⟩) (fun r9 e9 => ?_)
  subst e9
  refine mi_if_eq (tgt := 20) S (by omega) dX5_coinHeight_13 (by decide) (fun c13_1 => by exfalso; omega) (fun c13_1 => ?_)
  refine lv_iconst (v := nI 0) S.1 S.2.1 dX5_coinHeight_16 (by decide) ?_
  refine lv_goto (tgt := 21) S.1 S.2.1 dX5_coinHeight_17 (by decide) ?_
  refine mo_p_44 S E hS hM dX5_coinHeight_21 (fun H locs hM hS => ?_)
  refine lv_aload_n S.1 S.2.1 dX5_coinHeight_24 rfl (lv_at hl 0 rfl) ?_
  refine mo_g_44 S E hM dX5_coinHeight_25 ?_
  refine mi_top (v' := .int (nI (0))) (rfl) ?_
  refine mi_if_le (tgt := 35) S (by omega) dX5_coinHeight_28 (by decide) (fun c28_3 => ?_) (fun c28_3 => by exfalso; omega)
  refine lv_aload_n S.1 S.2.1 dX5_coinHeight_35 rfl (lv_at hl 0 rfl) ?_
  refine mo_g_32 S E hM dX5_coinHeight_36 ?_
  refine lv_bipush (v := nI 16) S.1 S.2.1 dX5_coinHeight_39 (by decide) ?_
  refine lv_iload_n S.1 S.2.1 dX5_coinHeight_41 rfl (lv_at hl 1 rfl) ?_
  refine mi_imul S dX5_coinHeight_42 ?_
  refine lv_iload_n S.1 S.2.1 dX5_coinHeight_43 rfl (lv_at hl 2 rfl) ?_
  refine mi_iadd S dX5_coinHeight_44 ?_
  refine mo_ald 11 S E hM rfl (by show _ < 960; omega) dX5_coinHeight_45 ?_
  refine mi_top (v' := .int (nI (sCh S0 a b))) (congrArg Value.int (st_ch hR (by omega) (by omega))) ?_
  exact mi_retMi S hr hk hS dX5_coinHeight_46 (Nat.le_refl _) (Nat.le_refl _) ⟨rfl, (upd f 0 (nI (0))), g, hM, st_mo_0 hR _, rfl⟩
set_option maxHeartbeats 4000000 in
set_option maxRecDepth 100000 in
theorem c_mcoinHeight_1 (l : Launch) (D : va_G) (A : Nat → Prop) {ad : Nat → Nat} {cf0 : Nat → Option va_E} {f : Nat → Int32} {g : Nat → Nat → Int32} {S0 : sT} (hR : st_mo S0 f g) (hO : st_ok S0) {y : Int32} {x : Int32} (h9 : ¬ (0 ≤ x.toInt ∧ x.toInt < sC S0)) : mi_Mi l yX5_coinHeight (Cond.code yX5_coinHeight cX5_coinHeight 3 (some Jvm.ClassFile.FieldType.int)) (mi_rm 3) D A (mo_W D A ad cf0 f g) [.ref (ad 1000020), .int (x), .int (y)] 0 0 (fun r H => mo_W D A ad cf0 (upd f 0 (nI 1)) g H) := by
  refine mi_start (cc := cX5_coinHeight) (nL := 3) (ret := (some Jvm.ClassFile.FieldType.int)) rfl (by decide) (Nat.le_of_ble_eq_true rfl) ?_
  intro p e s m below meth c ls S E hM hS hr hk hn hl
  have S : CallFix p m c cX5_coinHeight 3 s _ ((Cond.code yX5_coinHeight cX5_coinHeight 3 (some Jvm.ClassFile.FieldType.int)) :: mi_G) RX5 := S
  have hl : lv_has ls 3 [(0, .ref (ad 1000020)), (1, .int (x)), (2, .int (y))] := hl
  obtain ⟨⟨o1, o2, o3, o4, o5⟩, oP, oK, oD, oX, oC, oI⟩ := id hO
  have hw : sW S0 < 61 := by omega
  have hK := st_mo_K hR o3
  have hKb : ∀ j, j < 128 → sK S0 (sW S0) j < 4 := fun j hj => oK _ _ o3 hj
  refine lv_aload_n S.1 S.2.1 dX5_coinHeight_0 rfl (lv_at hl 0 rfl) ?_
  refine lv_aload_n S.1 S.2.1 dX5_coinHeight_1 rfl (lv_at hl 0 rfl) ?_
  refine lv_iload_n S.1 S.2.1 dX5_coinHeight_2 rfl (lv_at hl 1 rfl) ?_
  refine mi_cR (mi_runV (P := mo_W D A ad cf0 f g) (As := [.int (x)]) (rest := [.ref (ad 1000020)]) S E hS hM (ad 1000020) (c_isCoin_n l D A (f := f) (g := g) (n := sC S0) hR.1.2.2.2 (by omega) h9) (hM.recv E) mw_871 mw_868 mw_870 mw_30 mw_43 ⟨by decide, by decide, by decide +kernel⟩ ⟨rfl, rfl, Nat.le_of_ble_eq_true rfl, Nat.le_of_ble_eq_true rfl⟩ (n := 1) rfl hl.1 rfl (Nat.le_of_ble_eq_true rfl) dX5_coinHeight_3 ⟨Nat.le_of_ble_eq_true rfl, Nat.le_of_ble_eq_true rfl⟩) (fun r9 e9 => ?_)
  subst e9
  refine mi_if_eq (tgt := 20) S (by omega) dX5_coinHeight_6 (by decide) (fun c6_0 => ?_) (fun c6_0 => by exfalso; omega)
  refine lv_iconst (v := nI 1) S.1 S.2.1 dX5_coinHeight_20 (by decide) ?_
  refine mo_p_44 S E hS hM dX5_coinHeight_21 (fun H locs hM hS => ?_)
  refine lv_aload_n S.1 S.2.1 dX5_coinHeight_24 rfl (lv_at hl 0 rfl) ?_
  refine mo_g_44 S E hM dX5_coinHeight_25 ?_
  refine mi_top (v' := .int (nI (1))) (rfl) ?_
  refine mi_if_le (tgt := 35) S (by omega) dX5_coinHeight_28 (by decide) (fun c28_2 => by exfalso; omega) (fun c28_2 => ?_)
  refine lv_iconst (v := nI 0) S.1 S.2.1 dX5_coinHeight_31 (by decide) ?_
  refine lv_goto (tgt := 46) S.1 S.2.1 dX5_coinHeight_32 (by decide) ?_
  exact mi_retMi S hr hk hS dX5_coinHeight_46 (Nat.le_refl _) (Nat.le_refl _) (hM)
set_option maxHeartbeats 4000000 in
set_option maxRecDepth 100000 in
theorem c_mcoinHeight_2 (l : Launch) (D : va_G) (A : Nat → Prop) {ad : Nat → Nat} {cf0 : Nat → Option va_E} {f : Nat → Int32} {g : Nat → Nat → Int32} {S0 : sT} (hR : st_mo S0 f g) (hO : st_ok S0) {a : Nat} (ha : a < sC S0) {x : Int32} (h9 : ¬ (0 ≤ x.toInt ∧ x.toInt ≤ 15)) : mi_Mi l yX5_coinHeight (Cond.code yX5_coinHeight cX5_coinHeight 3 (some Jvm.ClassFile.FieldType.int)) (mi_rm 3) D A (mo_W D A ad cf0 f g) [.ref (ad 1000020), .int (nI (a)), .int (x)] 0 0 (fun r H => mo_W D A ad cf0 (upd f 0 (nI 1)) g H) := by
  refine mi_start (cc := cX5_coinHeight) (nL := 3) (ret := (some Jvm.ClassFile.FieldType.int)) rfl (by decide) (Nat.le_of_ble_eq_true rfl) ?_
  intro p e s m below meth c ls S E hM hS hr hk hn hl
  have S : CallFix p m c cX5_coinHeight 3 s _ ((Cond.code yX5_coinHeight cX5_coinHeight 3 (some Jvm.ClassFile.FieldType.int)) :: mi_G) RX5 := S
  have hl : lv_has ls 3 [(0, .ref (ad 1000020)), (1, .int (nI (a))), (2, .int (x))] := hl
  obtain ⟨⟨o1, o2, o3, o4, o5⟩, oP, oK, oD, oX, oC, oI⟩ := id hO
  have hw : sW S0 < 61 := by omega
  have hK := st_mo_K hR o3
  have hKb : ∀ j, j < 128 → sK S0 (sW S0) j < 4 := fun j hj => oK _ _ o3 hj
  refine lv_aload_n S.1 S.2.1 dX5_coinHeight_0 rfl (lv_at hl 0 rfl) ?_
  refine lv_aload_n S.1 S.2.1 dX5_coinHeight_1 rfl (lv_at hl 0 rfl) ?_
  refine lv_iload_n S.1 S.2.1 dX5_coinHeight_2 rfl (lv_at hl 1 rfl) ?_
  refine mi_cR (mi_runV (P := mo_W D A ad cf0 f g) (As := [.int (nI (a))]) (rest := [.ref (ad 1000020)]) S E hS hM (ad 1000020) (c_isCoin_y l D A (f := f) (g := g) (n := sC S0) hR.1.2.2.2 (by omega) (by omega)) (hM.recv E) mw_871 mw_868 mw_870 mw_30 mw_43 ⟨by decide, by decide, by decide +kernel⟩ ⟨rfl, rfl, Nat.le_of_ble_eq_true rfl, Nat.le_of_ble_eq_true rfl⟩ (n := 1) rfl hl.1 rfl (Nat.le_of_ble_eq_true rfl) dX5_coinHeight_3 ⟨Nat.le_of_ble_eq_true rfl, Nat.le_of_ble_eq_true rfl⟩) (fun r9 e9 => ?_)
  subst e9
  refine mi_if_eq (tgt := 20) S (by omega) dX5_coinHeight_6 (by decide) (fun c6_0 => by exfalso; omega) (fun c6_0 => ?_)
  refine lv_iload_n S.1 S.2.1 dX5_coinHeight_9 rfl (lv_at hl 2 rfl) ?_
  refine mi_cR (mi_runS (P := mo_W D A ad cf0 f g) (As := [.int (x)]) (rest := [.ref (ad 1000020)]) S E hS hM (c_misColumn_n l D A (mo_W D A ad cf0 f g) (h9)) mw_733 mw_731 mw_732 mw_43 ⟨by decide, by decide, by decide +kernel⟩ ⟨rfl, rfl, Nat.le_of_ble_eq_true rfl, Nat.le_of_ble_eq_true rfl⟩ (n := 1) rfl hl.1 rfl (Nat.le_of_ble_eq_true rfl) dX5_coinHeight_10 ⟨Nat.le_of_ble_eq_true rfl, Nat.le_of_ble_eq_true rfl⟩) (fun r9 e9 => ?_)
  subst e9
  refine mi_if_eq (tgt := 20) S (by omega) dX5_coinHeight_13 (by decide) (fun c13_1 => ?_) (fun c13_1 => by exfalso; omega)
  refine lv_iconst (v := nI 1) S.1 S.2.1 dX5_coinHeight_20 (by decide) ?_
  refine mo_p_44 S E hS hM dX5_coinHeight_21 (fun H locs hM hS => ?_)
  refine lv_aload_n S.1 S.2.1 dX5_coinHeight_24 rfl (lv_at hl 0 rfl) ?_
  refine mo_g_44 S E hM dX5_coinHeight_25 ?_
  refine mi_top (v' := .int (nI (1))) (rfl) ?_
  refine mi_if_le (tgt := 35) S (by omega) dX5_coinHeight_28 (by decide) (fun c28_3 => by exfalso; omega) (fun c28_3 => ?_)
  refine lv_iconst (v := nI 0) S.1 S.2.1 dX5_coinHeight_31 (by decide) ?_
  refine lv_goto (tgt := 46) S.1 S.2.1 dX5_coinHeight_32 (by decide) ?_
  exact mi_retMi S hr hk hS dX5_coinHeight_46 (Nat.le_refl _) (Nat.le_refl _) (hM)
set_option maxHeartbeats 4000000 in
set_option maxRecDepth 100000 in
theorem c_mgrade (l : Launch) (D : va_G) (A : Nat → Prop) {ad : Nat → Nat} {cf0 : Nat → Option va_E} {f : Nat → Int32} {g : Nat → Nat → Int32} {S0 : sT} (hR : st_mo S0 f g) (hO : st_ok S0) {a : Nat} (ha : a < sC S0) : mi_Mi l yX5_grade (Cond.code yX5_grade cX5_grade 4 (some Jvm.ClassFile.FieldType.int)) (mi_rm 3) D A (mo_W D A ad cf0 f g) [.ref (ad 1000020), .int (nI (a))] 0 0 (fun r H => r = nI (if 20 < sp_ds (sCh S0 a) (sF S0 (sCd S0 a)) 16 then 0 else 100 - 5 * sp_ds (sCh S0 a) (sF S0 (sCd S0 a)) 16) ∧ ∃ f1 g1, mo_W D A ad cf0 f1 g1 H ∧ st_mo (S0) f1 g1 ∧ f1 0 = nI 0) := by
  refine mi_start (cc := cX5_grade) (nL := 4) (ret := (some Jvm.ClassFile.FieldType.int)) rfl (by decide) (Nat.le_of_ble_eq_true rfl) ?_
  intro p e s m below meth c ls S E hM hS hr hk hn hl
  have S : CallFix p m c cX5_grade 4 s _ ((Cond.code yX5_grade cX5_grade 4 (some Jvm.ClassFile.FieldType.int)) :: mi_G) RX5 := S
  have hl : lv_has ls 4 [(0, .ref (ad 1000020)), (1, .int (nI (a)))] := hl
  obtain ⟨⟨o1, o2, o3, o4, o5⟩, oP, oK, oD, oX, oC, oI⟩ := id hO
  have hw : sW S0 < 61 := by omega
  have hK := st_mo_K hR o3
  have hKb : ∀ j, j < 128 → sK S0 (sW S0) j < 4 := fun j hj => oK _ _ o3 hj
  obtain ⟨ci1, ci2, ci3⟩ := st_ci hO ha
  have hs16 : sp_ds (sCh S0 a) (sF S0 (sCd S0 a)) 16 ≤ 8 * 16 := sp_ds_le (fun c hc => st_cb hO ha hc) (fun c hc => st_fb hO ci1 hc)
  refine lv_aload_n S.1 S.2.1 dX5_grade_0 rfl (lv_at hl 0 rfl) ?_
  refine lv_aload_n S.1 S.2.1 dX5_grade_1 rfl (lv_at hl 0 rfl) ?_
  refine lv_iload_n S.1 S.2.1 dX5_grade_2 rfl (lv_at hl 1 rfl) ?_
  refine mi_cR (mi_runV (P := mo_W D A ad cf0 f g) (As := [.int (nI (a))]) (rest := [.ref (ad 1000020)]) S E hS hM (ad 1000020) (c_isCoin_y l D A (f := f) (g := g) (n := sC S0) hR.1.2.2.2 (by omega) (by omega)) (hM.recv E) mw_871 mw_868 mw_870 mw_30 mw_43 ⟨by decide, by decide, by decide +kernel⟩ ⟨rfl, rfl, Nat.le_of_ble_eq_true rfl, Nat.le_of_ble_eq_true rfl⟩ (n := 1) rfl hl.1 rfl (Nat.le_of_ble_eq_true rfl) dX5_grade_3 ⟨Nat.le_of_ble_eq_true rfl, Nat.le_of_ble_eq_true rfl⟩) (fun r9 e9 => ?_)
  subst e9
  refine mi_if_eq (tgt := 13) S (by omega) dX5_grade_6 (by decide) (fun c6_0 => by exfalso; omega) (fun c6_0 => ?_)
  refine lv_iconst (v := nI 0) S.1 S.2.1 dX5_grade_9 (by decide) ?_
  refine lv_goto (tgt := 14) S.1 S.2.1 dX5_grade_10 (by decide) ?_
  refine mo_p_44 S E hS hM dX5_grade_14 (fun H locs hM hS => ?_)
  refine lv_aload_n S.1 S.2.1 dX5_grade_17 rfl (lv_at hl 0 rfl) ?_
  refine mo_g_44 S E hM dX5_grade_18 ?_
  refine mi_top (v' := .int (nI (0))) (rfl) ?_
  refine mi_if_le (tgt := 26) S (by omega) dX5_grade_21 (by decide) (fun c21_2 => ?_) (fun c21_2 => by exfalso; omega)
  refine lv_iconst (v := nI 0) S.1 S.2.1 dX5_grade_26 (by decide) ?_
  refine lv_istore_n (lv' := [(2, .int (nI (0))), (0, .ref (ad 1000020)), (1, .int (nI (a)))]) S.1 S.2.1 dX5_grade_27 rfl hl (by decide) rfl (fun ls hl => ?_)
  refine lv_iconst (v := nI 0) S.1 S.2.1 dX5_grade_28 (by decide) ?_
  refine lv_istore_n (lv' := [(3, .int (nI (0))), (2, .int (nI (0))), (0, .ref (ad 1000020)), (1, .int (nI (a)))]) S.1 S.2.1 dX5_grade_29 rfl hl (by decide) rfl (fun ls hl => ?_)
  have lp30 : ∀ (n30 : Nat) (n : Nat) (i : Nat) (ls : Array Slot), 16 - i < n30 → i ≤ 16 → n = sp_ds (sCh S0 a) (sF S0 (sCd S0 a)) i → lv_has ls 4 [(0, .ref (ad 1000020)), (1, .int (nI (a))), (2, .int (nI (n))), (3, .int (nI (i)))] → W p l e (mi_rm 3) s m ([.ref (ad 1000020), .int (nI (a))] : List Value).toArray below meth c H locs 0 0 (MQ below (mi_Qi A (fun r H => r = nI (if 20 < sp_ds (sCh S0 a) (sF S0 (sCd S0 a)) 16 then 0 else 100 - 5 * sp_ds (sCh S0 a) (sF S0 (sCd S0 a)) 16) ∧ ∃ f1 g1, mo_W D A ad cf0 f1 g1 H ∧ st_mo (S0) f1 g1 ∧ f1 0 = nI 0)) ([.ref (ad 1000020), .int (nI (a))] : List Value).toArray s 0 0 A) (F0 m 30 ls []) := by
    intro n30
    induction n30 with
    | zero => intro n i ls hm hi hn9  hl; exact absurd hm (Nat.not_lt_zero _)
    | succ n30 ih30 =>
      intro n i ls hm hi hn9  hl
      refine lv_iload_n S.1 S.2.1 dX5_grade_30 rfl (lv_at hl 3 rfl) ?_
      refine lv_bipush (v := nI 16) S.1 S.2.1 dX5_grade_31 (by decide) ?_
      refine mi_icmp_ge (tgt := 75) S (by omega) (by omega) dX5_grade_33 (by decide) (fun c33_3 => ?_) (fun c33_3 => ?_)
      · have hs9 : n ≤ 128 := by rw [hn9, show i = 16 by omega]; exact hs16
        refine lv_iload_n S.1 S.2.1 dX5_grade_75 rfl (lv_at hl 2 rfl) ?_
        refine lv_bipush (v := nI 20) S.1 S.2.1 dX5_grade_76 (by decide) ?_
        refine mi_icmp_le (tgt := 85) S (by omega) (by omega) dX5_grade_78 (by decide) (fun c78_4 => ?_) (fun c78_4 => ?_)
        · refine lv_bipush (v := nI 100) S.1 S.2.1 dX5_grade_85 (by decide) ?_
          refine lv_iconst (v := nI 5) S.1 S.2.1 dX5_grade_87 (by decide) ?_
          refine lv_iload_n S.1 S.2.1 dX5_grade_88 rfl (lv_at hl 2 rfl) ?_
          refine mi_imul S dX5_grade_89 ?_
          refine mi_isub S (by omega) dX5_grade_90 ?_
          have e9 : n = sp_ds (sCh S0 a) (sF S0 (sCd S0 a)) 16 := by rw [hn9, show i = 16 by omega]
          exact mi_retMi S hr hk hS dX5_grade_91 (Nat.le_refl _) (Nat.le_refl _) ⟨(by rw [← e9]; first | (rw [if_pos (by omega)]) | (rw [if_neg (by omega)])), (upd f 0 (nI (0))), g, hM, st_mo_0 hR _, rfl⟩
        · refine lv_iconst (v := nI 0) S.1 S.2.1 dX5_grade_81 (by decide) ?_
          refine lv_goto (tgt := 91) S.1 S.2.1 dX5_grade_82 (by decide) ?_
          have e9 : n = sp_ds (sCh S0 a) (sF S0 (sCd S0 a)) 16 := by rw [hn9, show i = 16 by omega]
          exact mi_retMi S hr hk hS dX5_grade_91 (Nat.le_refl _) (Nat.le_refl _) ⟨(by rw [← e9]; first | (rw [if_pos (by omega)]) | (rw [if_neg (by omega)])), (upd f 0 (nI (0))), g, hM, st_mo_0 hR _, rfl⟩
      · have hf0 := st_cb hO ha (show i < 16 by omega)
        have hf1 := st_fb hO ci1 (show i < 16 by omega)
        refine lv_iload_n S.1 S.2.1 dX5_grade_36 rfl (lv_at hl 2 rfl) ?_
        refine lv_aload_n S.1 S.2.1 dX5_grade_37 rfl (lv_at hl 0 rfl) ?_
        refine mo_g_32 S E hM dX5_grade_38 ?_
        refine lv_bipush (v := nI 16) S.1 S.2.1 dX5_grade_41 (by decide) ?_
        refine lv_iload_n S.1 S.2.1 dX5_grade_43 rfl (lv_at hl 1 rfl) ?_
        refine mi_imul S dX5_grade_44 ?_
        refine lv_iload_n S.1 S.2.1 dX5_grade_45 rfl (lv_at hl 3 rfl) ?_
        refine mi_iadd S dX5_grade_46 ?_
        refine mo_ald 11 S E hM rfl (by show _ < 960; omega) dX5_grade_47 ?_
        refine mi_top (v' := .int (nI (sCh S0 a i))) (congrArg Value.int (st_ch hR (by omega) (by omega))) ?_
        refine lv_aload_n S.1 S.2.1 dX5_grade_48 rfl (lv_at hl 0 rfl) ?_
        refine mo_g_23 S E hM dX5_grade_49 ?_
        refine lv_bipush (v := nI 16) S.1 S.2.1 dX5_grade_52 (by decide) ?_
        refine lv_aload_n S.1 S.2.1 dX5_grade_54 rfl (lv_at hl 0 rfl) ?_
        refine mo_g_35 S E hM dX5_grade_55 ?_
        refine lv_iload_n S.1 S.2.1 dX5_grade_58 rfl (lv_at hl 1 rfl) ?_
        refine mo_ald 12 S E hM rfl (by show _ < 60; omega) dX5_grade_59 ?_
        refine mi_top (v' := .int (nI (sCd S0 a))) (congrArg Value.int (st_cd hR (by omega))) ?_
        refine mi_imul S dX5_grade_60 ?_
        refine lv_iload_n S.1 S.2.1 dX5_grade_61 rfl (lv_at hl 3 rfl) ?_
        refine mi_iadd S dX5_grade_62 ?_
        refine mo_ald 7 S E hM rfl (by show _ < 128; omega) dX5_grade_63 ?_
        refine mi_top (v' := .int (nI (sF S0 (sCd S0 a) i))) (congrArg Value.int (st_df hR (by omega) (by omega))) ?_
        refine mi_cR (mi_runS (P := mo_W D A ad cf0 (upd f 0 (nI (0))) g) (As := [.int (nI (sCh S0 a i)), .int (nI (sF S0 (sCd S0 a) i))]) (rest := [.int (nI (n))]) S E hS hM (c_far l D A (mo_W D A ad cf0 (upd f 0 (nI (0))) g) (a := sCh S0 a i) (b := sF S0 (sCd S0 a) i) (by omega) (by omega)) mw_886 mw_884 mw_885 mw_43 ⟨by decide, by decide, by decide +kernel⟩ ⟨rfl, rfl, Nat.le_of_ble_eq_true rfl, Nat.le_of_ble_eq_true rfl⟩ (n := 2) rfl hl.1 rfl (Nat.le_of_ble_eq_true rfl) dX5_grade_64 ⟨Nat.le_of_ble_eq_true rfl, Nat.le_of_ble_eq_true rfl⟩) (fun r9 e9 => ?_)
        subst e9
        refine mi_iadd S dX5_grade_67 ?_
        refine lv_istore_n (lv' := [(2, .int (nI (n + (sp_df (sCh S0 a i) (sF S0 (sCd S0 a) i))))), (0, .ref (ad 1000020)), (1, .int (nI (a))), (3, .int (nI (i)))]) S.1 S.2.1 dX5_grade_68 rfl hl (by decide) rfl (fun ls hl => ?_)
        refine lv_iinc (v := nI (i + 1)) (lv' := [(3, .int (nI (i + 1))), (2, .int (nI (n + (sp_df (sCh S0 a i) (sF S0 (sCd S0 a) i))))), (0, .ref (ad 1000020)), (1, .int (nI (a)))]) S.1 S.2.1 dX5_grade_69 hl (k := 3) rfl (mi_inc _) (by decide) rfl (fun ls hl => ?_)
        refine lv_goto (tgt := 30) S.1 S.2.1 dX5_grade_72 (by decide) ?_
        exact ih30 (n + (sp_df (sCh S0 a i) (sF S0 (sCd S0 a) i))) (i + 1) _ (by omega) (by omega) (by rw [sp_ds_s, ← hn9])  (lv_sub hl [2, 3, 1, 0] rfl)
  exact lp30 _ 0 0 _ (Nat.lt_succ_self _) (by omega) (by rfl)  (lv_sub hl [2, 3, 1, 0] rfl)
set_option maxHeartbeats 4000000 in
set_option maxRecDepth 100000 in
theorem c_mgrade_1 (l : Launch) (D : va_G) (A : Nat → Prop) {ad : Nat → Nat} {cf0 : Nat → Option va_E} {f : Nat → Int32} {g : Nat → Nat → Int32} {S0 : sT} (hR : st_mo S0 f g) (hO : st_ok S0) {x : Int32} (h9 : ¬ (0 ≤ x.toInt ∧ x.toInt < sC S0)) : mi_Mi l yX5_grade (Cond.code yX5_grade cX5_grade 4 (some Jvm.ClassFile.FieldType.int)) (mi_rm 3) D A (mo_W D A ad cf0 f g) [.ref (ad 1000020), .int (x)] 0 0 (fun r H => mo_W D A ad cf0 (upd f 0 (nI 1)) g H) := by
  refine mi_start (cc := cX5_grade) (nL := 4) (ret := (some Jvm.ClassFile.FieldType.int)) rfl (by decide) (Nat.le_of_ble_eq_true rfl) ?_
  intro p e s m below meth c ls S E hM hS hr hk hn hl
  have S : CallFix p m c cX5_grade 4 s _ ((Cond.code yX5_grade cX5_grade 4 (some Jvm.ClassFile.FieldType.int)) :: mi_G) RX5 := S
  have hl : lv_has ls 4 [(0, .ref (ad 1000020)), (1, .int (x))] := hl
  obtain ⟨⟨o1, o2, o3, o4, o5⟩, oP, oK, oD, oX, oC, oI⟩ := id hO
  have hw : sW S0 < 61 := by omega
  have hK := st_mo_K hR o3
  have hKb : ∀ j, j < 128 → sK S0 (sW S0) j < 4 := fun j hj => oK _ _ o3 hj
  refine lv_aload_n S.1 S.2.1 dX5_grade_0 rfl (lv_at hl 0 rfl) ?_
  refine lv_aload_n S.1 S.2.1 dX5_grade_1 rfl (lv_at hl 0 rfl) ?_
  refine lv_iload_n S.1 S.2.1 dX5_grade_2 rfl (lv_at hl 1 rfl) ?_
  refine mi_cR (mi_runV (P := mo_W D A ad cf0 f g) (As := [.int (x)]) (rest := [.ref (ad 1000020)]) S E hS hM (ad 1000020) (c_isCoin_n l D A (f := f) (g := g) (n := sC S0) hR.1.2.2.2 (by omega) h9) (hM.recv E) mw_871 mw_868 mw_870 mw_30 mw_43 ⟨by decide, by decide, by decide +kernel⟩ ⟨rfl, rfl, Nat.le_of_ble_eq_true rfl, Nat.le_of_ble_eq_true rfl⟩ (n := 1) rfl hl.1 rfl (Nat.le_of_ble_eq_true rfl) dX5_grade_3 ⟨Nat.le_of_ble_eq_true rfl, Nat.le_of_ble_eq_true rfl⟩) (fun r9 e9 => ?_)
  subst e9
  refine mi_if_eq (tgt := 13) S (by omega) dX5_grade_6 (by decide) (fun c6_0 => ?_) (fun c6_0 => by exfalso; omega)
  refine lv_iconst (v := nI 1) S.1 S.2.1 dX5_grade_13 (by decide) ?_
  refine mo_p_44 S E hS hM dX5_grade_14 (fun H locs hM hS => ?_)
  refine lv_aload_n S.1 S.2.1 dX5_grade_17 rfl (lv_at hl 0 rfl) ?_
  refine mo_g_44 S E hM dX5_grade_18 ?_
  refine mi_top (v' := .int (nI (1))) (rfl) ?_
  refine mi_if_le (tgt := 26) S (by omega) dX5_grade_21 (by decide) (fun c21_2 => by exfalso; omega) (fun c21_2 => ?_)
  refine lv_iconst (v := nI 0) S.1 S.2.1 dX5_grade_24 (by decide) ?_
  exact mi_retMi S hr hk hS dX5_grade_25 (Nat.le_refl _) (Nat.le_refl _) (hM)
set_option maxHeartbeats 4000000 in
set_option maxRecDepth 100000 in
theorem c_mdistance (l : Launch) (D : va_G) (A : Nat → Prop) {ad : Nat → Nat} {cf0 : Nat → Option va_E} {f : Nat → Int32} {g : Nat → Nat → Int32} {S0 : sT} (hR : st_mo S0 f g) (hO : st_ok S0) {a b : Nat} (ha : a < sC S0) (hb : b < sC S0) : mi_Mi l yX5_distance (Cond.code yX5_distance cX5_distance 5 (some Jvm.ClassFile.FieldType.int)) (mi_rm 3) D A (mo_W D A ad cf0 f g) [.ref (ad 1000020), .int (nI (a)), .int (nI (b))] 0 0 (fun r H => r = nI (sp_ds (sCh S0 a) (sCh S0 b) 16) ∧ ∃ f1 g1, mo_W D A ad cf0 f1 g1 H ∧ st_mo (S0) f1 g1 ∧ f1 0 = nI 0) := by
  refine mi_start (cc := cX5_distance) (nL := 5) (ret := (some Jvm.ClassFile.FieldType.int)) rfl (by decide) (Nat.le_of_ble_eq_true rfl) ?_
  intro p e s m below meth c ls S E hM hS hr hk hn hl
  have S : CallFix p m c cX5_distance 5 s _ ((Cond.code yX5_distance cX5_distance 5 (some Jvm.ClassFile.FieldType.int)) :: mi_G) RX5 := S
  have hl : lv_has ls 5 [(0, .ref (ad 1000020)), (1, .int (nI (a))), (2, .int (nI (b)))] := hl
  obtain ⟨⟨o1, o2, o3, o4, o5⟩, oP, oK, oD, oX, oC, oI⟩ := id hO
  have hw : sW S0 < 61 := by omega
  have hK := st_mo_K hR o3
  have hKb : ∀ j, j < 128 → sK S0 (sW S0) j < 4 := fun j hj => oK _ _ o3 hj
  refine lv_aload_n S.1 S.2.1 dX5_distance_0 rfl (lv_at hl 0 rfl) ?_
  refine lv_aload_n S.1 S.2.1 dX5_distance_1 rfl (lv_at hl 0 rfl) ?_
  refine lv_iload_n S.1 S.2.1 dX5_distance_2 rfl (lv_at hl 1 rfl) ?_
  refine mi_cR (mi_runV (P := mo_W D A ad cf0 f g) (As := [.int (nI (a))]) (rest := [.ref (ad 1000020)]) S E hS hM (ad 1000020) (c_isCoin_y l D A (f := f) (g := g) (n := sC S0) hR.1.2.2.2 (by omega) (by omega)) (hM.recv E) mw_871 mw_868 mw_870 mw_30 mw_43 ⟨by decide, by decide, by decide +kernel⟩ ⟨rfl, rfl, Nat.le_of_ble_eq_true rfl, Nat.le_of_ble_eq_true rfl⟩ (n := 1) rfl hl.1 rfl (Nat.le_of_ble_eq_true rfl) dX5_distance_3 ⟨Nat.le_of_ble_eq_true rfl, Nat.le_of_ble_eq_true rfl⟩) (fun r9 e9 => ?_)
  subst e9
  refine mi_if_eq (tgt := 21) S (by omega) dX5_distance_6 (by decide) (fun c6_0 => by exfalso; omega) (fun c6_0 => ?_)
  refine lv_aload_n S.1 S.2.1 dX5_distance_9 rfl (lv_at hl 0 rfl) ?_
  refine lv_iload_n S.1 S.2.1 dX5_distance_10 rfl (lv_at hl 2 rfl) ?_
  refine mi_cR (mi_runV (P := mo_W D A ad cf0 f g) (As := [.int (nI (b))]) (rest := [.ref (ad 1000020)]) S E hS hM (ad 1000020) (c_isCoin_y l D A (f := f) (g := g) (n := sC S0) hR.1.2.2.2 (by omega) (by omega)) (hM.recv E) mw_871 mw_868 mw_870 mw_30 mw_43 ⟨by decide, by decide, by decide +kernel⟩ ⟨rfl, rfl, Nat.le_of_ble_eq_true rfl, Nat.le_of_ble_eq_true rfl⟩ (n := 1) rfl hl.1 rfl (Nat.le_of_ble_eq_true rfl) dX5_distance_11 ⟨Nat.le_of_ble_eq_true rfl, Nat.le_of_ble_eq_true rfl⟩) (fun r9 e9 => ?_)
  subst e9
  refine mi_if_eq (tgt := 21) S (by omega) dX5_distance_14 (by decide) (fun c14_1 => by exfalso; omega) (fun c14_1 => ?_)
  refine lv_iconst (v := nI 0) S.1 S.2.1 dX5_distance_17 (by decide) ?_
  refine lv_goto (tgt := 22) S.1 S.2.1 dX5_distance_18 (by decide) ?_
  refine mo_p_44 S E hS hM dX5_distance_22 (fun H locs hM hS => ?_)
  refine lv_iconst (v := nI 0) S.1 S.2.1 dX5_distance_25 (by decide) ?_
  refine lv_istore_n (lv' := [(3, .int (nI (0))), (0, .ref (ad 1000020)), (1, .int (nI (a))), (2, .int (nI (b)))]) S.1 S.2.1 dX5_distance_26 rfl hl (by decide) rfl (fun ls hl => ?_)
  refine lv_iconst (v := nI 0) S.1 S.2.1 dX5_distance_27 (by decide) ?_
  refine lv_istore (lv' := [(4, .int (nI (0))), (3, .int (nI (0))), (0, .ref (ad 1000020)), (1, .int (nI (a))), (2, .int (nI (b)))]) S.1 S.2.1 dX5_distance_28 hl (by decide) rfl (fun ls hl => ?_)
  have lp30 : ∀ (n30 : Nat) (n : Nat) (i : Nat) (ls : Array Slot), 16 - i < n30 → i ≤ 16 → n = sp_ds (sCh S0 a) (sCh S0 b) i → lv_has ls 5 [(0, .ref (ad 1000020)), (1, .int (nI (a))), (2, .int (nI (b))), (3, .int (nI (n))), (4, .int (nI (i)))] → W p l e (mi_rm 3) s m ([.ref (ad 1000020), .int (nI (a)), .int (nI (b))] : List Value).toArray below meth c H locs 0 0 (MQ below (mi_Qi A (fun r H => r = nI (sp_ds (sCh S0 a) (sCh S0 b) 16) ∧ ∃ f1 g1, mo_W D A ad cf0 f1 g1 H ∧ st_mo (S0) f1 g1 ∧ f1 0 = nI 0)) ([.ref (ad 1000020), .int (nI (a)), .int (nI (b))] : List Value).toArray s 0 0 A) (F0 m 30 ls []) := by
    intro n30
    induction n30 with
    | zero => intro n i ls hm hi hn9  hl; exact absurd hm (Nat.not_lt_zero _)
    | succ n30 ih30 =>
      intro n i ls hm hi hn9  hl
      refine lv_iload S.1 S.2.1 dX5_distance_30 (lv_at hl 4 rfl) ?_
      refine lv_bipush (v := nI 16) S.1 S.2.1 dX5_distance_32 (by decide) ?_
      refine mi_icmp_ge (tgt := 80) S (by omega) (by omega) dX5_distance_34 (by decide) (fun c34_3 => ?_) (fun c34_3 => ?_)
      · refine lv_iload_n S.1 S.2.1 dX5_distance_80 rfl (lv_at hl 3 rfl) ?_
        exact mi_retMi S hr hk hS dX5_distance_81 (Nat.le_refl _) (Nat.le_refl _) ⟨(by rw [hn9, show i = 16 by omega]), (upd f 0 (nI (0))), g, hM, st_mo_0 hR _, rfl⟩
      · refine lv_aload_n S.1 S.2.1 dX5_distance_37 rfl (lv_at hl 0 rfl) ?_
        refine mo_g_44 S E hM dX5_distance_38 ?_
        refine mi_top (v' := .int (nI (0))) (rfl) ?_
        refine mi_if_ne (tgt := 80) S (by omega) dX5_distance_41 (by decide) (fun c41_4 => by exfalso; omega) (fun c41_4 => ?_)
        have hf0 := st_cb hO ha (show i < 16 by omega)
        have hf1 := st_cb hO hb (show i < 16 by omega)
        refine lv_iload_n S.1 S.2.1 dX5_distance_44 rfl (lv_at hl 3 rfl) ?_
        refine lv_aload_n S.1 S.2.1 dX5_distance_45 rfl (lv_at hl 0 rfl) ?_
        refine mo_g_32 S E hM dX5_distance_46 ?_
        refine lv_bipush (v := nI 16) S.1 S.2.1 dX5_distance_49 (by decide) ?_
        refine lv_iload_n S.1 S.2.1 dX5_distance_51 rfl (lv_at hl 1 rfl) ?_
        refine mi_imul S dX5_distance_52 ?_
        refine lv_iload S.1 S.2.1 dX5_distance_53 (lv_at hl 4 rfl) ?_
        refine mi_iadd S dX5_distance_55 ?_
        refine mo_ald 11 S E hM rfl (by show _ < 960; omega) dX5_distance_56 ?_
        refine mi_top (v' := .int (nI (sCh S0 a i))) (congrArg Value.int (st_ch hR (by omega) (by omega))) ?_
        refine lv_aload_n S.1 S.2.1 dX5_distance_57 rfl (lv_at hl 0 rfl) ?_
        refine mo_g_32 S E hM dX5_distance_58 ?_
        refine lv_bipush (v := nI 16) S.1 S.2.1 dX5_distance_61 (by decide) ?_
        refine lv_iload_n S.1 S.2.1 dX5_distance_63 rfl (lv_at hl 2 rfl) ?_
        refine mi_imul S dX5_distance_64 ?_
        refine lv_iload S.1 S.2.1 dX5_distance_65 (lv_at hl 4 rfl) ?_
        refine mi_iadd S dX5_distance_67 ?_
        refine mo_ald 11 S E hM rfl (by show _ < 960; omega) dX5_distance_68 ?_
        refine mi_top (v' := .int (nI (sCh S0 b i))) (congrArg Value.int (st_ch hR (by omega) (by omega))) ?_
        refine mi_cR (mi_runS (P := mo_W D A ad cf0 (upd f 0 (nI (0))) g) (As := [.int (nI (sCh S0 a i)), .int (nI (sCh S0 b i))]) (rest := [.int (nI (n))]) S E hS hM (c_far l D A (mo_W D A ad cf0 (upd f 0 (nI (0))) g) (a := sCh S0 a i) (b := sCh S0 b i) (by omega) (by omega)) mw_886 mw_884 mw_885 mw_43 ⟨by decide, by decide, by decide +kernel⟩ ⟨rfl, rfl, Nat.le_of_ble_eq_true rfl, Nat.le_of_ble_eq_true rfl⟩ (n := 2) rfl hl.1 rfl (Nat.le_of_ble_eq_true rfl) dX5_distance_69 ⟨Nat.le_of_ble_eq_true rfl, Nat.le_of_ble_eq_true rfl⟩) (fun r9 e9 => ?_)
        subst e9
        refine mi_iadd S dX5_distance_72 ?_
        refine lv_istore_n (lv' := [(3, .int (nI (n + (sp_df (sCh S0 a i) (sCh S0 b i))))), (0, .ref (ad 1000020)), (1, .int (nI (a))), (2, .int (nI (b))), (4, .int (nI (i)))]) S.1 S.2.1 dX5_distance_73 rfl hl (by decide) rfl (fun ls hl => ?_)
        refine lv_iinc (v := nI (i + 1)) (lv' := [(4, .int (nI (i + 1))), (3, .int (nI (n + (sp_df (sCh S0 a i) (sCh S0 b i))))), (0, .ref (ad 1000020)), (1, .int (nI (a))), (2, .int (nI (b)))]) S.1 S.2.1 dX5_distance_74 hl (k := 4) rfl (mi_inc _) (by decide) rfl (fun ls hl => ?_)
        refine lv_goto (tgt := 30) S.1 S.2.1 dX5_distance_77 (by decide) ?_
        exact ih30 (n + (sp_df (sCh S0 a i) (sCh S0 b i))) (i + 1) _ (by omega) (by omega) (by rw [sp_ds_s, ← hn9])  (lv_sub hl [2, 3, 4, 1, 0] rfl)
  exact lp30 _ 0 0 _ (Nat.lt_succ_self _) (by omega) (by rfl)  (lv_sub hl [2, 3, 4, 1, 0] rfl)
set_option maxHeartbeats 4000000 in
set_option maxRecDepth 100000 in
theorem c_mdistance_1 (l : Launch) (D : va_G) (A : Nat → Prop) {ad : Nat → Nat} {cf0 : Nat → Option va_E} {f : Nat → Int32} {g : Nat → Nat → Int32} {S0 : sT} (hR : st_mo S0 f g) (hO : st_ok S0) {y : Int32} {x : Int32} (h9 : ¬ (0 ≤ x.toInt ∧ x.toInt < sC S0)) : mi_Mi l yX5_distance (Cond.code yX5_distance cX5_distance 5 (some Jvm.ClassFile.FieldType.int)) (mi_rm 3) D A (mo_W D A ad cf0 f g) [.ref (ad 1000020), .int (x), .int (y)] 0 0 (fun r H => mo_W D A ad cf0 (upd f 0 (nI 1)) g H) := by
  refine mi_start (cc := cX5_distance) (nL := 5) (ret := (some Jvm.ClassFile.FieldType.int)) rfl (by decide) (Nat.le_of_ble_eq_true rfl) ?_
  intro p e s m below meth c ls S E hM hS hr hk hn hl
  have S : CallFix p m c cX5_distance 5 s _ ((Cond.code yX5_distance cX5_distance 5 (some Jvm.ClassFile.FieldType.int)) :: mi_G) RX5 := S
  have hl : lv_has ls 5 [(0, .ref (ad 1000020)), (1, .int (x)), (2, .int (y))] := hl
  obtain ⟨⟨o1, o2, o3, o4, o5⟩, oP, oK, oD, oX, oC, oI⟩ := id hO
  have hw : sW S0 < 61 := by omega
  have hK := st_mo_K hR o3
  have hKb : ∀ j, j < 128 → sK S0 (sW S0) j < 4 := fun j hj => oK _ _ o3 hj
  refine lv_aload_n S.1 S.2.1 dX5_distance_0 rfl (lv_at hl 0 rfl) ?_
  refine lv_aload_n S.1 S.2.1 dX5_distance_1 rfl (lv_at hl 0 rfl) ?_
  refine lv_iload_n S.1 S.2.1 dX5_distance_2 rfl (lv_at hl 1 rfl) ?_
  refine mi_cR (mi_runV (P := mo_W D A ad cf0 f g) (As := [.int (x)]) (rest := [.ref (ad 1000020)]) S E hS hM (ad 1000020) (c_isCoin_n l D A (f := f) (g := g) (n := sC S0) hR.1.2.2.2 (by omega) h9) (hM.recv E) mw_871 mw_868 mw_870 mw_30 mw_43 ⟨by decide, by decide, by decide +kernel⟩ ⟨rfl, rfl, Nat.le_of_ble_eq_true rfl, Nat.le_of_ble_eq_true rfl⟩ (n := 1) rfl hl.1 rfl (Nat.le_of_ble_eq_true rfl) dX5_distance_3 ⟨Nat.le_of_ble_eq_true rfl, Nat.le_of_ble_eq_true rfl⟩) (fun r9 e9 => ?_)
  subst e9
  refine mi_if_eq (tgt := 21) S (by omega) dX5_distance_6 (by decide) (fun c6_0 => ?_) (fun c6_0 => by exfalso; omega)
  refine lv_iconst (v := nI 1) S.1 S.2.1 dX5_distance_21 (by decide) ?_
  refine mo_p_44 S E hS hM dX5_distance_22 (fun H locs hM hS => ?_)
  refine lv_iconst (v := nI 0) S.1 S.2.1 dX5_distance_25 (by decide) ?_
  refine lv_istore_n (lv' := [(3, .int (nI (0))), (0, .ref (ad 1000020)), (1, .int (x)), (2, .int (y))]) S.1 S.2.1 dX5_distance_26 rfl hl (by decide) rfl (fun ls hl => ?_)
  refine lv_iconst (v := nI 0) S.1 S.2.1 dX5_distance_27 (by decide) ?_
  refine lv_istore (lv' := [(4, .int (nI (0))), (3, .int (nI (0))), (0, .ref (ad 1000020)), (1, .int (x)), (2, .int (y))]) S.1 S.2.1 dX5_distance_28 hl (by decide) rfl (fun ls hl => ?_)
  refine lv_iload S.1 S.2.1 dX5_distance_30 (lv_at hl 0 rfl) ?_
  refine lv_bipush (v := nI 16) S.1 S.2.1 dX5_distance_32 (by decide) ?_
  refine mi_icmp_ge (tgt := 80) S (by omega) (by omega) dX5_distance_34 (by decide) (fun c34_2 => by exfalso; omega) (fun c34_2 => ?_)
  refine lv_aload_n S.1 S.2.1 dX5_distance_37 rfl (lv_at hl 2 rfl) ?_
  refine mo_g_44 S E hM dX5_distance_38 ?_
  refine mi_top (v' := .int (nI (1))) (rfl) ?_
  refine mi_if_ne (tgt := 80) S (by omega) dX5_distance_41 (by decide) (fun c41_3 => ?_) (fun c41_3 => by exfalso; omega)
  refine lv_iload_n S.1 S.2.1 dX5_distance_80 rfl (lv_at hl 1 rfl) ?_
  exact mi_retMi S hr hk hS dX5_distance_81 (Nat.le_refl _) (Nat.le_refl _) (hM)
set_option maxHeartbeats 4000000 in
set_option maxRecDepth 100000 in
theorem c_mdistance_2 (l : Launch) (D : va_G) (A : Nat → Prop) {ad : Nat → Nat} {cf0 : Nat → Option va_E} {f : Nat → Int32} {g : Nat → Nat → Int32} {S0 : sT} (hR : st_mo S0 f g) (hO : st_ok S0) {a : Nat} (ha : a < sC S0) {x : Int32} (h9 : ¬ (0 ≤ x.toInt ∧ x.toInt < sC S0)) : mi_Mi l yX5_distance (Cond.code yX5_distance cX5_distance 5 (some Jvm.ClassFile.FieldType.int)) (mi_rm 3) D A (mo_W D A ad cf0 f g) [.ref (ad 1000020), .int (nI (a)), .int (x)] 0 0 (fun r H => mo_W D A ad cf0 (upd f 0 (nI 1)) g H) := by
  refine mi_start (cc := cX5_distance) (nL := 5) (ret := (some Jvm.ClassFile.FieldType.int)) rfl (by decide) (Nat.le_of_ble_eq_true rfl) ?_
  intro p e s m below meth c ls S E hM hS hr hk hn hl
  have S : CallFix p m c cX5_distance 5 s _ ((Cond.code yX5_distance cX5_distance 5 (some Jvm.ClassFile.FieldType.int)) :: mi_G) RX5 := S
  have hl : lv_has ls 5 [(0, .ref (ad 1000020)), (1, .int (nI (a))), (2, .int (x))] := hl
  obtain ⟨⟨o1, o2, o3, o4, o5⟩, oP, oK, oD, oX, oC, oI⟩ := id hO
  have hw : sW S0 < 61 := by omega
  have hK := st_mo_K hR o3
  have hKb : ∀ j, j < 128 → sK S0 (sW S0) j < 4 := fun j hj => oK _ _ o3 hj
  refine lv_aload_n S.1 S.2.1 dX5_distance_0 rfl (lv_at hl 0 rfl) ?_
  refine lv_aload_n S.1 S.2.1 dX5_distance_1 rfl (lv_at hl 0 rfl) ?_
  refine lv_iload_n S.1 S.2.1 dX5_distance_2 rfl (lv_at hl 1 rfl) ?_
  refine mi_cR (mi_runV (P := mo_W D A ad cf0 f g) (As := [.int (nI (a))]) (rest := [.ref (ad 1000020)]) S E hS hM (ad 1000020) (c_isCoin_y l D A (f := f) (g := g) (n := sC S0) hR.1.2.2.2 (by omega) (by omega)) (hM.recv E) mw_871 mw_868 mw_870 mw_30 mw_43 ⟨by decide, by decide, by decide +kernel⟩ ⟨rfl, rfl, Nat.le_of_ble_eq_true rfl, Nat.le_of_ble_eq_true rfl⟩ (n := 1) rfl hl.1 rfl (Nat.le_of_ble_eq_true rfl) dX5_distance_3 ⟨Nat.le_of_ble_eq_true rfl, Nat.le_of_ble_eq_true rfl⟩) (fun r9 e9 => ?_)
  subst e9
  refine mi_if_eq (tgt := 21) S (by omega) dX5_distance_6 (by decide) (fun c6_0 => by exfalso; omega) (fun c6_0 => ?_)
  refine lv_aload_n S.1 S.2.1 dX5_distance_9 rfl (lv_at hl 0 rfl) ?_
  refine lv_iload_n S.1 S.2.1 dX5_distance_10 rfl (lv_at hl 2 rfl) ?_
  refine mi_cR (mi_runV (P := mo_W D A ad cf0 f g) (As := [.int (x)]) (rest := [.ref (ad 1000020)]) S E hS hM (ad 1000020) (c_isCoin_n l D A (f := f) (g := g) (n := sC S0) hR.1.2.2.2 (by omega) h9) (hM.recv E) mw_871 mw_868 mw_870 mw_30 mw_43 ⟨by decide, by decide, by decide +kernel⟩ ⟨rfl, rfl, Nat.le_of_ble_eq_true rfl, Nat.le_of_ble_eq_true rfl⟩ (n := 1) rfl hl.1 rfl (Nat.le_of_ble_eq_true rfl) dX5_distance_11 ⟨Nat.le_of_ble_eq_true rfl, Nat.le_of_ble_eq_true rfl⟩) (fun r9 e9 => ?_)
  subst e9
  refine mi_if_eq (tgt := 21) S (by omega) dX5_distance_14 (by decide) (fun c14_1 => ?_) (fun c14_1 => by exfalso; omega)
  refine lv_iconst (v := nI 1) S.1 S.2.1 dX5_distance_21 (by decide) ?_
  refine mo_p_44 S E hS hM dX5_distance_22 (fun H locs hM hS => ?_)
  refine lv_iconst (v := nI 0) S.1 S.2.1 dX5_distance_25 (by decide) ?_
  refine lv_istore_n (lv' := [(3, .int (nI (0))), (0, .ref (ad 1000020)), (1, .int (nI (a))), (2, .int (x))]) S.1 S.2.1 dX5_distance_26 rfl hl (by decide) rfl (fun ls hl => ?_)
  refine lv_iconst (v := nI 0) S.1 S.2.1 dX5_distance_27 (by decide) ?_
  refine lv_istore (lv' := [(4, .int (nI (0))), (3, .int (nI (0))), (0, .ref (ad 1000020)), (1, .int (nI (a))), (2, .int (x))]) S.1 S.2.1 dX5_distance_28 hl (by decide) rfl (fun ls hl => ?_)
  refine lv_iload S.1 S.2.1 dX5_distance_30 (lv_at hl 0 rfl) ?_
  refine lv_bipush (v := nI 16) S.1 S.2.1 dX5_distance_32 (by decide) ?_
  refine mi_icmp_ge (tgt := 80) S (by omega) (by omega) dX5_distance_34 (by decide) (fun c34_3 => by exfalso; omega) (fun c34_3 => ?_)
  refine lv_aload_n S.1 S.2.1 dX5_distance_37 rfl (lv_at hl 2 rfl) ?_
  refine mo_g_44 S E hM dX5_distance_38 ?_
  refine mi_top (v' := .int (nI (1))) (rfl) ?_
  refine mi_if_ne (tgt := 80) S (by omega) dX5_distance_41 (by decide) (fun c41_4 => ?_) (fun c41_4 => by exfalso; omega)
  refine lv_iload_n S.1 S.2.1 dX5_distance_80 rfl (lv_at hl 1 rfl) ?_
  exact mi_retMi S hr hk hS dX5_distance_81 (Nat.le_refl _) (Nat.le_refl _) (hM)
set_option maxHeartbeats 4000000 in
set_option maxRecDepth 100000 in
theorem c_mstrike (l : Launch) (D : va_G) (A : Nat → Prop) {ad : Nat → Nat} {cf0 : Nat → Option va_E} {f : Nat → Int32} {g : Nat → Nat → Int32} {S0 : sT} (hR : st_mo S0 f g) (hO : st_ok S0) {d : Nat} (hd : d < sD S0) (h60 : sC S0 < 60) : mi_Mi l yX5_strike (Cond.code yX5_strike cX5_strike 4 (some Jvm.ClassFile.FieldType.int)) (mi_rm 3) D A (mo_W D A ad cf0 f g) [.ref (ad 1000020), .int (nI (d))] 0 0 (fun r H => r = nI (sC S0) ∧ ∃ f1 g1, mo_W D A ad cf0 f1 g1 H ∧ st_mo (st_strike S0 d) f1 g1 ∧ f1 0 = nI 0) := by
  refine mi_start (cc := cX5_strike) (nL := 4) (ret := (some Jvm.ClassFile.FieldType.int)) rfl (by decide) (Nat.le_of_ble_eq_true rfl) ?_
  intro p e s m below meth c ls S E hM hS hr hk hn hl
  have S : CallFix p m c cX5_strike 4 s _ ((Cond.code yX5_strike cX5_strike 4 (some Jvm.ClassFile.FieldType.int)) :: mi_G) RX5 := S
  have hl : lv_has ls 4 [(0, .ref (ad 1000020)), (1, .int (nI (d)))] := hl
  obtain ⟨⟨o1, o2, o3, o4, o5⟩, oP, oK, oD, oX, oC, oI⟩ := id hO
  have hw : sW S0 < 61 := by omega
  have hK := st_mo_K hR o3
  have hKb : ∀ j, j < 128 → sK S0 (sW S0) j < 4 := fun j hj => oK _ _ o3 hj
  have oXd := oX d hd
  refine lv_aload_n S.1 S.2.1 dX5_strike_0 rfl (lv_at hl 0 rfl) ?_
  refine lv_aload_n S.1 S.2.1 dX5_strike_1 rfl (lv_at hl 0 rfl) ?_
  refine lv_iload_n S.1 S.2.1 dX5_strike_2 rfl (lv_at hl 1 rfl) ?_
  refine mi_cR (mi_runV (P := mo_W D A ad cf0 f g) (As := [.int (nI (d))]) (rest := [.ref (ad 1000020)]) S E hS hM (ad 1000020) (c_isDie_y l D A (f := f) (g := g) (n := sD S0) hR.1.2.2.1 (by omega) (by omega)) (hM.recv E) mw_863 mw_860 mw_862 mw_29 mw_43 ⟨by decide, by decide, by decide +kernel⟩ ⟨rfl, rfl, Nat.le_of_ble_eq_true rfl, Nat.le_of_ble_eq_true rfl⟩ (n := 1) rfl hl.1 rfl (Nat.le_of_ble_eq_true rfl) dX5_strike_3 ⟨Nat.le_of_ble_eq_true rfl, Nat.le_of_ble_eq_true rfl⟩) (fun r9 e9 => ?_)
  subst e9
  refine mi_if_ne (tgt := 13) S (by omega) dX5_strike_6 (by decide) (fun c6_0 => ?_) (fun c6_0 => by exfalso; omega)
  refine lv_aload_n S.1 S.2.1 dX5_strike_13 rfl (lv_at hl 0 rfl) ?_
  refine mo_g_107 S E hM dX5_strike_14 ?_
  refine mi_top (v' := .int (nI (sC S0))) (congrArg Value.int hR.1.2.2.2) ?_
  refine lv_bipush (v := nI 60) S.1 S.2.1 dX5_strike_17 (by decide) ?_
  refine mi_icmp_ne (tgt := 26) S (by omega) (by omega) dX5_strike_19 (by decide) (fun c19_1 => ?_) (fun c19_1 => by exfalso; omega)
  refine lv_iconst (v := nI 0) S.1 S.2.1 dX5_strike_26 (by decide) ?_
  refine mo_p_44 S E hS hM dX5_strike_27 (fun H locs hM hS => ?_)
  refine lv_aload_n S.1 S.2.1 dX5_strike_30 rfl (lv_at hl 0 rfl) ?_
  refine mo_g_44 S E hM dX5_strike_31 ?_
  refine mi_top (v' := .int (nI (0))) (rfl) ?_
  refine mi_if_le (tgt := 39) S (by omega) dX5_strike_34 (by decide) (fun c34_3 => ?_) (fun c34_3 => by exfalso; omega)
  refine lv_iconst (v := nI 0) S.1 S.2.1 dX5_strike_39 (by decide) ?_
  refine lv_istore_n (lv' := [(2, .int (nI (0))), (0, .ref (ad 1000020)), (1, .int (nI (d)))]) S.1 S.2.1 dX5_strike_40 rfl hl (by decide) rfl (fun ls hl => ?_)
  have lp41 : ∀ (n41 : Nat) (i : Nat) (H : Heap) (locs : List Loc) (ls : Array Slot), 16 - i < n41 → i ≤ 16 → mo_W D A ad cf0 (upd f 0 (nI (0))) (va_up g 11 (mo_ly (g 11) (sC S0) (sH S0 d) i)) H → va_S A s.heap H locs → lv_has ls 4 [(0, .ref (ad 1000020)), (1, .int (nI (d))), (2, .int (nI (i)))] → W p l e (mi_rm 3) s m ([.ref (ad 1000020), .int (nI (d))] : List Value).toArray below meth c H locs 0 0 (MQ below (mi_Qi A (fun r H => r = nI (sC S0) ∧ ∃ f1 g1, mo_W D A ad cf0 f1 g1 H ∧ st_mo (st_strike S0 d) f1 g1 ∧ f1 0 = nI 0)) ([.ref (ad 1000020), .int (nI (d))] : List Value).toArray s 0 0 A) (F0 m 41 ls []) := by
    intro n41
    induction n41 with
    | zero => intro i H locs ls hm hi hM hS hl; exact absurd hm (Nat.not_lt_zero _)
    | succ n41 ih41 =>
      intro i H locs ls hm hi hM hS hl
      refine lv_iload_n S.1 S.2.1 dX5_strike_41 rfl (lv_at hl 2 rfl) ?_
      refine lv_bipush (v := nI 16) S.1 S.2.1 dX5_strike_42 (by decide) ?_
      refine mi_icmp_ge (tgt := 78) S (by omega) (by omega) dX5_strike_44 (by decide) (fun c44_4 => ?_) (fun c44_4 => ?_)
      · have h16 : i = 16 := by omega
        rw [h16] at hM
        refine lv_aload_n S.1 S.2.1 dX5_strike_78 rfl (lv_at hl 0 rfl) ?_
        refine mo_g_29 S E hM dX5_strike_79 ?_
        refine lv_iload_n S.1 S.2.1 dX5_strike_82 rfl (lv_at hl 1 rfl) ?_
        refine lv_dup2_11 S.1 S.2.1 dX5_strike_83 rfl rfl ?_
        refine mo_ald 9 S E hM rfl (by show _ < 8; omega) dX5_strike_84 ?_
        refine mi_top (v' := .int (nI (sX S0 d))) (congrArg Value.int (st_sx hR (by omega))) ?_
        refine lv_iconst (v := nI 1) S.1 S.2.1 dX5_strike_85 (by decide) ?_
        refine mi_iadd S dX5_strike_86 ?_
        refine mo_ast 9 S E hS hM rfl (by show _ < 8; omega) dX5_strike_87 (fun H locs hM hS => ?_)
        refine lv_aload_n S.1 S.2.1 dX5_strike_88 rfl (lv_at hl 0 rfl) ?_
        refine mo_g_35 S E hM dX5_strike_89 ?_
        refine lv_aload_n S.1 S.2.1 dX5_strike_92 rfl (lv_at hl 0 rfl) ?_
        refine mo_g_107 S E hM dX5_strike_93 ?_
        refine mi_top (v' := .int (nI (sC S0))) (congrArg Value.int hR.1.2.2.2) ?_
        refine lv_iload_n S.1 S.2.1 dX5_strike_96 rfl (lv_at hl 1 rfl) ?_
        refine mo_ast 12 S E hS hM rfl (by show _ < 60; omega) dX5_strike_97 (fun H locs hM hS => ?_)
        refine lv_aload_n S.1 S.2.1 dX5_strike_98 rfl (lv_at hl 0 rfl) ?_
        refine mo_g_38 S E hM dX5_strike_99 ?_
        refine lv_aload_n S.1 S.2.1 dX5_strike_102 rfl (lv_at hl 0 rfl) ?_
        refine mo_g_107 S E hM dX5_strike_103 ?_
        refine mi_top (v' := .int (nI (sC S0))) (congrArg Value.int hR.1.2.2.2) ?_
        refine lv_aload_n S.1 S.2.1 dX5_strike_106 rfl (lv_at hl 0 rfl) ?_
        refine mo_g_29 S E hM dX5_strike_107 ?_
        refine lv_iload_n S.1 S.2.1 dX5_strike_110 rfl (lv_at hl 1 rfl) ?_
        refine mo_ald 9 S E hM rfl (by show _ < 8; omega) dX5_strike_111 ?_
        refine mi_top (v' := .int (nI (sX S0 d + 1))) (congrArg Value.int (if_pos rfl)) ?_
        refine mo_ast 13 S E hS hM rfl (by show _ < 60; omega) dX5_strike_112 (fun H locs hM hS => ?_)
        refine lv_aload_n S.1 S.2.1 dX5_strike_113 rfl (lv_at hl 0 rfl) ?_
        refine lv_dup S.1 S.2.1 dX5_strike_114 rfl ?_
        refine mo_g_107 S E hM dX5_strike_115 ?_
        refine mi_top (v' := .int (nI (sC S0))) (congrArg Value.int hR.1.2.2.2) ?_
        refine lv_iconst (v := nI 1) S.1 S.2.1 dX5_strike_118 (by decide) ?_
        refine mi_iadd S dX5_strike_119 ?_
        refine mo_p_107 S E hS hM dX5_strike_120 (fun H locs hM hS => ?_)
        refine lv_aload_n S.1 S.2.1 dX5_strike_123 rfl (lv_at hl 0 rfl) ?_
        refine mo_g_29 S E hM dX5_strike_124 ?_
        refine lv_iload_n S.1 S.2.1 dX5_strike_127 rfl (lv_at hl 1 rfl) ?_
        refine mo_ald 9 S E hM rfl (by show _ < 8; omega) dX5_strike_128 ?_
        refine mi_top (v' := .int (nI (sX S0 d + 1))) (congrArg Value.int (if_pos rfl)) ?_
        refine lv_iconst (v := nI 2) S.1 S.2.1 dX5_strike_129 (by decide) ?_
        refine mi_irem S (by omega) (by omega) (by omega) dX5_strike_130 ?_
        refine mi_if_ne (tgt := 205) S (by omega) dX5_strike_131 (by decide) (fun c131_6 => ?_) (fun c131_6 => ?_)
        · refine lv_aload_n S.1 S.2.1 dX5_strike_205 rfl (lv_at hl 0 rfl) ?_
          refine mo_g_107 S E hM dX5_strike_206 ?_
          refine mi_top (v' := .int (nI ((sC S0) + 1))) (rfl) ?_
          refine lv_iconst (v := nI 1) S.1 S.2.1 dX5_strike_209 (by decide) ?_
          refine mi_isub S (by omega) dX5_strike_210 ?_
          exact mi_retMi S hr hk hS dX5_strike_211 (Nat.le_refl _) (Nat.le_refl _) ⟨rfl, (upd (upd f 0 (nI (0))) 10 (nI ((sC S0) + 1))), (va_up (va_up (va_up (va_up g 11 (mo_ly (g 11) (sC S0) (sH S0 d) 16)) 9 (upd ((va_up g 11 (mo_ly (g 11) (sC S0) (sH S0 d) 16)) 9) (d) (nI ((sX S0 d) + 1)))) 12 (upd ((va_up (va_up g 11 (mo_ly (g 11) (sC S0) (sH S0 d) 16)) 9 (upd ((va_up g 11 (mo_ly (g 11) (sC S0) (sH S0 d) 16)) 9) (d) (nI ((sX S0 d) + 1)))) 12) (sC S0) (nI (d)))) 13 (upd ((va_up (va_up (va_up g 11 (mo_ly (g 11) (sC S0) (sH S0 d) 16)) 9 (upd ((va_up g 11 (mo_ly (g 11) (sC S0) (sH S0 d) 16)) 9) (d) (nI ((sX S0 d) + 1)))) 12 (upd ((va_up (va_up g 11 (mo_ly (g 11) (sC S0) (sH S0 d) 16)) 9 (upd ((va_up g 11 (mo_ly (g 11) (sC S0) (sH S0 d) 16)) 9) (d) (nI ((sX S0 d) + 1)))) 12) (sC S0) (nI (d)))) 13) (sC S0) (nI (sX S0 d + 1)))), hM, st_mo_strike (st_mo_0 hR (nI 0)) rfl rfl rfl rfl rfl rfl rfl rfl rfl rfl rfl (st_nowear hR (by omega)), rfl⟩
        · refine lv_bipush (v := nI 16) S.1 S.2.1 dX5_strike_134 (by decide) ?_
          refine lv_iload_n S.1 S.2.1 dX5_strike_136 rfl (lv_at hl 1 rfl) ?_
          refine mi_imul S dX5_strike_137 ?_
          refine lv_istore_n (lv' := [(2, .int (nI (16 * d))), (0, .ref (ad 1000020)), (1, .int (nI (d)))]) S.1 S.2.1 dX5_strike_138 rfl hl (by decide) rfl (fun ls hl => ?_)
          refine lv_bipush (v := nI 16) S.1 S.2.1 dX5_strike_139 (by decide) ?_
          refine lv_iload_n S.1 S.2.1 dX5_strike_141 rfl (lv_at hl 2 rfl) ?_
          refine mi_imul S dX5_strike_142 ?_
          refine lv_istore_n (lv' := [(3, .int (nI (16 * d))), (2, .int (nI (16 * d))), (0, .ref (ad 1000020)), (1, .int (nI (d)))]) S.1 S.2.1 dX5_strike_143 rfl hl (by decide) rfl (fun ls hl => ?_)
          have lp144 : ∀ (n144 : Nat) (t : Nat) (i : Nat) (ls : Array Slot), 16 * d + 16 - i < n144 → 16 * d ≤ i ∧ i ≤ 16 * d + 16 → t = 16 * d + wr_mx (sH S0 d) (i - 16 * d) → t < 16 * d + 16 → lv_has ls 4 [(0, .ref (ad 1000020)), (1, .int (nI (d))), (2, .int (nI (t))), (3, .int (nI (i)))] → W p l e (mi_rm 3) s m ([.ref (ad 1000020), .int (nI (d))] : List Value).toArray below meth c H locs 0 0 (MQ below (mi_Qi A (fun r H => r = nI (sC S0) ∧ ∃ f1 g1, mo_W D A ad cf0 f1 g1 H ∧ st_mo (st_strike S0 d) f1 g1 ∧ f1 0 = nI 0)) ([.ref (ad 1000020), .int (nI (d))] : List Value).toArray s 0 0 A) (F0 m 144 ls []) := by
            intro n144
            induction n144 with
            | zero => intro t i ls hm hi ht9 htb  hl; exact absurd hm (Nat.not_lt_zero _)
            | succ n144 ih144 =>
              intro t i ls hm hi ht9 htb  hl
              refine lv_iload_n S.1 S.2.1 dX5_strike_144 rfl (lv_at hl 3 rfl) ?_
              refine lv_bipush (v := nI 16) S.1 S.2.1 dX5_strike_145 (by decide) ?_
              refine lv_iload_n S.1 S.2.1 dX5_strike_147 rfl (lv_at hl 1 rfl) ?_
              refine mi_imul S dX5_strike_148 ?_
              refine lv_bipush (v := nI 16) S.1 S.2.1 dX5_strike_149 (by decide) ?_
              refine mi_iadd S dX5_strike_151 ?_
              refine mi_icmp_ge (tgt := 182) S (by omega) (by omega) dX5_strike_152 (by decide) (fun c152_7 => ?_) (fun c152_7 => ?_)
              · have h169 : i - 16 * d = 16 := by omega
                have hb2 := st_hb hO hd (show t - 16 * d < 16 by omega)
                refine lv_aload_n S.1 S.2.1 dX5_strike_182 rfl (lv_at hl 0 rfl) ?_
                refine mo_g_26 S E hM dX5_strike_183 ?_
                refine lv_iload_n S.1 S.2.1 dX5_strike_186 rfl (lv_at hl 2 rfl) ?_
                refine lv_dup2_11 S.1 S.2.1 dX5_strike_187 rfl rfl ?_
                refine mo_ald 8 S E hM rfl (by show _ < 128; omega) dX5_strike_188 ?_
                refine mi_top (v' := .int (nI (sH S0 d (t - 16 * d)))) (congrArg Value.int (st_dhi hR hd (by omega) (by omega))) ?_
                refine lv_aload_n S.1 S.2.1 dX5_strike_189 rfl (lv_at hl 0 rfl) ?_
                refine mo_g_26 S E hM dX5_strike_190 ?_
                refine lv_iload_n S.1 S.2.1 dX5_strike_193 rfl (lv_at hl 2 rfl) ?_
                refine mo_ald 8 S E hM rfl (by show _ < 128; omega) dX5_strike_194 ?_
                refine mi_top (v' := .int (nI (sH S0 d (t - 16 * d)))) (congrArg Value.int (st_dhi hR hd (by omega) (by omega))) ?_
                refine mi_if_le (tgt := 202) S (by omega) dX5_strike_195 (by decide) (fun c195_8 => ?_) (fun c195_8 => ?_)
                · refine lv_iconst (v := nI 0) S.1 S.2.1 dX5_strike_202 (by decide) ?_
                  refine mi_isub S (by omega) dX5_strike_203 ?_
                  refine mo_ast 8 S E hS hM rfl (by show _ < 128; omega) dX5_strike_204 (fun H locs hM hS => ?_)
                  refine lv_aload_n S.1 S.2.1 dX5_strike_205 rfl (lv_at hl 0 rfl) ?_
                  refine mo_g_107 S E hM dX5_strike_206 ?_
                  refine mi_top (v' := .int (nI ((sC S0) + 1))) (rfl) ?_
                  refine lv_iconst (v := nI 1) S.1 S.2.1 dX5_strike_209 (by decide) ?_
                  refine mi_isub S (by omega) dX5_strike_210 ?_
                  exact mi_retMi S hr hk hS dX5_strike_211 (Nat.le_refl _) (Nat.le_refl _) ⟨rfl, (upd (upd f 0 (nI (0))) 10 (nI ((sC S0) + 1))), (va_up (va_up (va_up (va_up (va_up g 11 (mo_ly (g 11) (sC S0) (sH S0 d) 16)) 9 (upd ((va_up g 11 (mo_ly (g 11) (sC S0) (sH S0 d) 16)) 9) (d) (nI ((sX S0 d) + 1)))) 12 (upd ((va_up (va_up g 11 (mo_ly (g 11) (sC S0) (sH S0 d) 16)) 9 (upd ((va_up g 11 (mo_ly (g 11) (sC S0) (sH S0 d) 16)) 9) (d) (nI ((sX S0 d) + 1)))) 12) (sC S0) (nI (d)))) 13 (upd ((va_up (va_up (va_up g 11 (mo_ly (g 11) (sC S0) (sH S0 d) 16)) 9 (upd ((va_up g 11 (mo_ly (g 11) (sC S0) (sH S0 d) 16)) 9) (d) (nI ((sX S0 d) + 1)))) 12 (upd ((va_up (va_up g 11 (mo_ly (g 11) (sC S0) (sH S0 d) 16)) 9 (upd ((va_up g 11 (mo_ly (g 11) (sC S0) (sH S0 d) 16)) 9) (d) (nI ((sX S0 d) + 1)))) 12) (sC S0) (nI (d)))) 13) (sC S0) (nI (sX S0 d + 1)))) 8 (upd ((va_up (va_up (va_up (va_up g 11 (mo_ly (g 11) (sC S0) (sH S0 d) 16)) 9 (upd ((va_up g 11 (mo_ly (g 11) (sC S0) (sH S0 d) 16)) 9) (d) (nI ((sX S0 d) + 1)))) 12 (upd ((va_up (va_up g 11 (mo_ly (g 11) (sC S0) (sH S0 d) 16)) 9 (upd ((va_up g 11 (mo_ly (g 11) (sC S0) (sH S0 d) 16)) 9) (d) (nI ((sX S0 d) + 1)))) 12) (sC S0) (nI (d)))) 13 (upd ((va_up (va_up (va_up g 11 (mo_ly (g 11) (sC S0) (sH S0 d) 16)) 9 (upd ((va_up g 11 (mo_ly (g 11) (sC S0) (sH S0 d) 16)) 9) (d) (nI ((sX S0 d) + 1)))) 12 (upd ((va_up (va_up g 11 (mo_ly (g 11) (sC S0) (sH S0 d) 16)) 9 (upd ((va_up g 11 (mo_ly (g 11) (sC S0) (sH S0 d) 16)) 9) (d) (nI ((sX S0 d) + 1)))) 12) (sC S0) (nI (d)))) 13) (sC S0) (nI (sX S0 d + 1)))) 8) (t) (nI ((sH S0 d (t - 16 * d)) - 0)))), hM, st_mo_strike (st_mo_0 hR (nI 0)) rfl rfl rfl rfl rfl rfl rfl rfl rfl rfl rfl (st_wear hR hd (by rw [ht9, h169]) (by first | rfl | omega) (by omega)), rfl⟩
                · refine lv_iconst (v := nI 1) S.1 S.2.1 dX5_strike_198 (by decide) ?_
                  refine lv_goto (tgt := 203) S.1 S.2.1 dX5_strike_199 (by decide) ?_
                  refine mi_isub S (by omega) dX5_strike_203 ?_
                  refine mo_ast 8 S E hS hM rfl (by show _ < 128; omega) dX5_strike_204 (fun H locs hM hS => ?_)
                  refine lv_aload_n S.1 S.2.1 dX5_strike_205 rfl (lv_at hl 0 rfl) ?_
                  refine mo_g_107 S E hM dX5_strike_206 ?_
                  refine mi_top (v' := .int (nI ((sC S0) + 1))) (rfl) ?_
                  refine lv_iconst (v := nI 1) S.1 S.2.1 dX5_strike_209 (by decide) ?_
                  refine mi_isub S (by omega) dX5_strike_210 ?_
                  exact mi_retMi S hr hk hS dX5_strike_211 (Nat.le_refl _) (Nat.le_refl _) ⟨rfl, (upd (upd f 0 (nI (0))) 10 (nI ((sC S0) + 1))), (va_up (va_up (va_up (va_up (va_up g 11 (mo_ly (g 11) (sC S0) (sH S0 d) 16)) 9 (upd ((va_up g 11 (mo_ly (g 11) (sC S0) (sH S0 d) 16)) 9) (d) (nI ((sX S0 d) + 1)))) 12 (upd ((va_up (va_up g 11 (mo_ly (g 11) (sC S0) (sH S0 d) 16)) 9 (upd ((va_up g 11 (mo_ly (g 11) (sC S0) (sH S0 d) 16)) 9) (d) (nI ((sX S0 d) + 1)))) 12) (sC S0) (nI (d)))) 13 (upd ((va_up (va_up (va_up g 11 (mo_ly (g 11) (sC S0) (sH S0 d) 16)) 9 (upd ((va_up g 11 (mo_ly (g 11) (sC S0) (sH S0 d) 16)) 9) (d) (nI ((sX S0 d) + 1)))) 12 (upd ((va_up (va_up g 11 (mo_ly (g 11) (sC S0) (sH S0 d) 16)) 9 (upd ((va_up g 11 (mo_ly (g 11) (sC S0) (sH S0 d) 16)) 9) (d) (nI ((sX S0 d) + 1)))) 12) (sC S0) (nI (d)))) 13) (sC S0) (nI (sX S0 d + 1)))) 8 (upd ((va_up (va_up (va_up (va_up g 11 (mo_ly (g 11) (sC S0) (sH S0 d) 16)) 9 (upd ((va_up g 11 (mo_ly (g 11) (sC S0) (sH S0 d) 16)) 9) (d) (nI ((sX S0 d) + 1)))) 12 (upd ((va_up (va_up g 11 (mo_ly (g 11) (sC S0) (sH S0 d) 16)) 9 (upd ((va_up g 11 (mo_ly (g 11) (sC S0) (sH S0 d) 16)) 9) (d) (nI ((sX S0 d) + 1)))) 12) (sC S0) (nI (d)))) 13 (upd ((va_up (va_up (va_up g 11 (mo_ly (g 11) (sC S0) (sH S0 d) 16)) 9 (upd ((va_up g 11 (mo_ly (g 11) (sC S0) (sH S0 d) 16)) 9) (d) (nI ((sX S0 d) + 1)))) 12 (upd ((va_up (va_up g 11 (mo_ly (g 11) (sC S0) (sH S0 d) 16)) 9 (upd ((va_up g 11 (mo_ly (g 11) (sC S0) (sH S0 d) 16)) 9) (d) (nI ((sX S0 d) + 1)))) 12) (sC S0) (nI (d)))) 13) (sC S0) (nI (sX S0 d + 1)))) 8) (t) (nI ((sH S0 d (t - 16 * d)) - 1)))), hM, st_mo_strike (st_mo_0 hR (nI 0)) rfl rfl rfl rfl rfl rfl rfl rfl rfl rfl rfl (st_wear hR hd (by rw [ht9, h169]) (by first | rfl | omega) (by omega)), rfl⟩
              · have hb1 := st_hb hO hd (show i - 16 * d < 16 by omega)
                have hb2 := st_hb hO hd (show t - 16 * d < 16 by omega)
                refine lv_aload_n S.1 S.2.1 dX5_strike_155 rfl (lv_at hl 0 rfl) ?_
                refine mo_g_26 S E hM dX5_strike_156 ?_
                refine lv_iload_n S.1 S.2.1 dX5_strike_159 rfl (lv_at hl 3 rfl) ?_
                refine mo_ald 8 S E hM rfl (by show _ < 128; omega) dX5_strike_160 ?_
                refine mi_top (v' := .int (nI (sH S0 d (i - 16 * d)))) (congrArg Value.int (st_dhi hR hd (by omega) (by omega))) ?_
                refine lv_aload_n S.1 S.2.1 dX5_strike_161 rfl (lv_at hl 0 rfl) ?_
                refine mo_g_26 S E hM dX5_strike_162 ?_
                refine lv_iload_n S.1 S.2.1 dX5_strike_165 rfl (lv_at hl 2 rfl) ?_
                refine mo_ald 8 S E hM rfl (by show _ < 128; omega) dX5_strike_166 ?_
                refine mi_top (v' := .int (nI (sH S0 d (t - 16 * d)))) (congrArg Value.int (st_dhi hR hd (by omega) (by omega))) ?_
                refine mi_icmp_le (tgt := 174) S (by omega) (by omega) dX5_strike_167 (by decide) (fun c167_9 => ?_) (fun c167_9 => ?_)
                · refine lv_iload_n S.1 S.2.1 dX5_strike_174 rfl (lv_at hl 2 rfl) ?_
                  refine lv_istore_n (lv' := [(2, .int (nI (t))), (0, .ref (ad 1000020)), (1, .int (nI (d))), (3, .int (nI (i)))]) S.1 S.2.1 dX5_strike_175 rfl hl (by decide) rfl (fun ls hl => ?_)
                  refine lv_iinc (v := nI (i + 1)) (lv' := [(3, .int (nI (i + 1))), (2, .int (nI (t))), (0, .ref (ad 1000020)), (1, .int (nI (d)))]) S.1 S.2.1 dX5_strike_176 hl (k := 3) rfl (mi_inc _) (by decide) rfl (fun ls hl => ?_)
                  refine lv_goto (tgt := 144) S.1 S.2.1 dX5_strike_179 (by decide) ?_
                  exact ih144 t (i + 1) _ (by omega) (by omega) (by have e9 : t - 16 * d = wr_mx (sH S0 d) (i - 16 * d) := (by omega); rw [show i + 1 - 16 * d = (i - 16 * d) + 1 by omega]; first | (rw [wr_mx_1 (by rw [← e9]; omega)]; omega) | (rw [wr_mx_0 (by rw [← e9]; omega)]; omega)) (by omega)  (lv_sub hl [2, 3, 1, 0] rfl)
                · refine lv_iload_n S.1 S.2.1 dX5_strike_170 rfl (lv_at hl 3 rfl) ?_
                  refine lv_goto (tgt := 175) S.1 S.2.1 dX5_strike_171 (by decide) ?_
                  refine lv_istore_n (lv' := [(2, .int (nI (i))), (0, .ref (ad 1000020)), (1, .int (nI (d))), (3, .int (nI (i)))]) S.1 S.2.1 dX5_strike_175 rfl hl (by decide) rfl (fun ls hl => ?_)
                  refine lv_iinc (v := nI (i + 1)) (lv' := [(3, .int (nI (i + 1))), (2, .int (nI (i))), (0, .ref (ad 1000020)), (1, .int (nI (d)))]) S.1 S.2.1 dX5_strike_176 hl (k := 3) rfl (mi_inc _) (by decide) rfl (fun ls hl => ?_)
                  refine lv_goto (tgt := 144) S.1 S.2.1 dX5_strike_179 (by decide) ?_
                  exact ih144 i (i + 1) _ (by omega) (by omega) (by have e9 : t - 16 * d = wr_mx (sH S0 d) (i - 16 * d) := (by omega); rw [show i + 1 - 16 * d = (i - 16 * d) + 1 by omega]; first | (rw [wr_mx_1 (by rw [← e9]; omega)]; omega) | (rw [wr_mx_0 (by rw [← e9]; omega)]; omega)) (by omega)  (lv_sub hl [2, 3, 1, 0] rfl)
          exact lp144 _ (16 * d) (16 * d) _ (Nat.lt_succ_self _) (by omega) (by rw [show 16 * d - 16 * d = 0 by omega]; rfl) (by omega)  (lv_sub hl [2, 3, 1, 0] rfl)
      · refine lv_aload_n S.1 S.2.1 dX5_strike_47 rfl (lv_at hl 0 rfl) ?_
        refine mo_g_32 S E hM dX5_strike_48 ?_
        refine lv_bipush (v := nI 16) S.1 S.2.1 dX5_strike_51 (by decide) ?_
        refine lv_aload_n S.1 S.2.1 dX5_strike_53 rfl (lv_at hl 0 rfl) ?_
        refine mo_g_107 S E hM dX5_strike_54 ?_
        refine mi_top (v' := .int (nI (sC S0))) (congrArg Value.int hR.1.2.2.2) ?_
        refine mi_imul S dX5_strike_57 ?_
        refine lv_iload_n S.1 S.2.1 dX5_strike_58 rfl (lv_at hl 2 rfl) ?_
        refine mi_iadd S dX5_strike_59 ?_
        refine lv_aload_n S.1 S.2.1 dX5_strike_60 rfl (lv_at hl 0 rfl) ?_
        refine mo_g_26 S E hM dX5_strike_61 ?_
        refine lv_bipush (v := nI 16) S.1 S.2.1 dX5_strike_64 (by decide) ?_
        refine lv_iload_n S.1 S.2.1 dX5_strike_66 rfl (lv_at hl 1 rfl) ?_
        refine mi_imul S dX5_strike_67 ?_
        refine lv_iload_n S.1 S.2.1 dX5_strike_68 rfl (lv_at hl 2 rfl) ?_
        refine mi_iadd S dX5_strike_69 ?_
        refine mo_ald 8 S E hM rfl (by show _ < 128; omega) dX5_strike_70 ?_
        refine mi_top (v' := .int (nI (sH S0 d i))) (congrArg Value.int (st_dh hR (by omega) (by omega))) ?_
        refine mo_ast 11 S E hS hM rfl (by show _ < 960; omega) dX5_strike_71 (fun H locs hM hS => ?_)
        refine lv_iinc (v := nI (i + 1)) (lv' := [(2, .int (nI (i + 1))), (0, .ref (ad 1000020)), (1, .int (nI (d)))]) S.1 S.2.1 dX5_strike_72 hl (k := 2) rfl (mi_inc _) (by decide) rfl (fun ls hl => ?_)
        refine lv_goto (tgt := 41) S.1 S.2.1 dX5_strike_75 (by decide) ?_
        exact ih41 (i + 1) _ _ _ (by omega) (by omega) (by rw [mi_up_up, mi_up_s, mo_ly_step] at hM; exact hM) hS (lv_sub hl [1, 2, 0] rfl)
  exact lp41 _ 0 _ _ _ (Nat.lt_succ_self _) (by omega) (by rw [mo_ly_0, mi_up_fn]; exact hM) hS (lv_sub hl [1, 2, 0] rfl)
set_option maxHeartbeats 4000000 in
set_option maxRecDepth 100000 in
theorem c_mstrike_1 (l : Launch) (D : va_G) (A : Nat → Prop) {ad : Nat → Nat} {cf0 : Nat → Option va_E} {f : Nat → Int32} {g : Nat → Nat → Int32} {S0 : sT} (hR : st_mo S0 f g) (hO : st_ok S0) {x : Int32} (h9 : ¬ (0 ≤ x.toInt ∧ x.toInt < sD S0)) : mi_Mi l yX5_strike (Cond.code yX5_strike cX5_strike 4 (some Jvm.ClassFile.FieldType.int)) (mi_rm 3) D A (mo_W D A ad cf0 f g) [.ref (ad 1000020), .int (x)] 0 0 (fun r H => mo_W D A ad cf0 (upd f 0 (nI 1)) g H) := by
  refine mi_start (cc := cX5_strike) (nL := 4) (ret := (some Jvm.ClassFile.FieldType.int)) rfl (by decide) (Nat.le_of_ble_eq_true rfl) ?_
  intro p e s m below meth c ls S E hM hS hr hk hn hl
  have S : CallFix p m c cX5_strike 4 s _ ((Cond.code yX5_strike cX5_strike 4 (some Jvm.ClassFile.FieldType.int)) :: mi_G) RX5 := S
  have hl : lv_has ls 4 [(0, .ref (ad 1000020)), (1, .int (x))] := hl
  obtain ⟨⟨o1, o2, o3, o4, o5⟩, oP, oK, oD, oX, oC, oI⟩ := id hO
  have hw : sW S0 < 61 := by omega
  have hK := st_mo_K hR o3
  have hKb : ∀ j, j < 128 → sK S0 (sW S0) j < 4 := fun j hj => oK _ _ o3 hj
  refine lv_aload_n S.1 S.2.1 dX5_strike_0 rfl (lv_at hl 0 rfl) ?_
  refine lv_aload_n S.1 S.2.1 dX5_strike_1 rfl (lv_at hl 0 rfl) ?_
  refine lv_iload_n S.1 S.2.1 dX5_strike_2 rfl (lv_at hl 1 rfl) ?_
  refine mi_cR (mi_runV (P := mo_W D A ad cf0 f g) (As := [.int (x)]) (rest := [.ref (ad 1000020)]) S E hS hM (ad 1000020) (c_isDie_n l D A (f := f) (g := g) (n := sD S0) hR.1.2.2.1 (by omega) h9) (hM.recv E) mw_863 mw_860 mw_862 mw_29 mw_43 ⟨by decide, by decide, by decide +kernel⟩ ⟨rfl, rfl, Nat.le_of_ble_eq_true rfl, Nat.le_of_ble_eq_true rfl⟩ (n := 1) rfl hl.1 rfl (Nat.le_of_ble_eq_true rfl) dX5_strike_3 ⟨Nat.le_of_ble_eq_true rfl, Nat.le_of_ble_eq_true rfl⟩) (fun r9 e9 => ?_)
  subst e9
  refine mi_if_ne (tgt := 13) S (by omega) dX5_strike_6 (by decide) (fun c6_0 => by exfalso; omega) (fun c6_0 => ?_)
  refine lv_iconst (v := nI 1) S.1 S.2.1 dX5_strike_9 (by decide) ?_
  refine lv_goto (tgt := 27) S.1 S.2.1 dX5_strike_10 (by decide) ?_
  refine mo_p_44 S E hS hM dX5_strike_27 (fun H locs hM hS => ?_)
  refine lv_aload_n S.1 S.2.1 dX5_strike_30 rfl (lv_at hl 0 rfl) ?_
  refine mo_g_44 S E hM dX5_strike_31 ?_
  refine mi_top (v' := .int (nI (1))) (rfl) ?_
  refine mi_if_le (tgt := 39) S (by omega) dX5_strike_34 (by decide) (fun c34_2 => by exfalso; omega) (fun c34_2 => ?_)
  refine lv_iconst (v := nI 0) S.1 S.2.1 dX5_strike_37 (by decide) ?_
  exact mi_retMi S hr hk hS dX5_strike_38 (Nat.le_refl _) (Nat.le_refl _) (hM)
set_option maxHeartbeats 4000000 in
set_option maxRecDepth 100000 in
theorem c_mstrike_2 (l : Launch) (D : va_G) (A : Nat → Prop) {ad : Nat → Nat} {cf0 : Nat → Option va_E} {f : Nat → Int32} {g : Nat → Nat → Int32} {S0 : sT} (hR : st_mo S0 f g) (hO : st_ok S0) {d : Nat} (hd : d < sD S0) (h60 : sC S0 = 60) : mi_Mi l yX5_strike (Cond.code yX5_strike cX5_strike 4 (some Jvm.ClassFile.FieldType.int)) (mi_rm 3) D A (mo_W D A ad cf0 f g) [.ref (ad 1000020), .int (nI (d))] 0 0 (fun r H => mo_W D A ad cf0 (upd f 0 (nI 2)) g H) := by
  refine mi_start (cc := cX5_strike) (nL := 4) (ret := (some Jvm.ClassFile.FieldType.int)) rfl (by decide) (Nat.le_of_ble_eq_true rfl) ?_
  intro p e s m below meth c ls S E hM hS hr hk hn hl
  have S : CallFix p m c cX5_strike 4 s _ ((Cond.code yX5_strike cX5_strike 4 (some Jvm.ClassFile.FieldType.int)) :: mi_G) RX5 := S
  have hl : lv_has ls 4 [(0, .ref (ad 1000020)), (1, .int (nI (d)))] := hl
  obtain ⟨⟨o1, o2, o3, o4, o5⟩, oP, oK, oD, oX, oC, oI⟩ := id hO
  have hw : sW S0 < 61 := by omega
  have hK := st_mo_K hR o3
  have hKb : ∀ j, j < 128 → sK S0 (sW S0) j < 4 := fun j hj => oK _ _ o3 hj
  refine lv_aload_n S.1 S.2.1 dX5_strike_0 rfl (lv_at hl 0 rfl) ?_
  refine lv_aload_n S.1 S.2.1 dX5_strike_1 rfl (lv_at hl 0 rfl) ?_
  refine lv_iload_n S.1 S.2.1 dX5_strike_2 rfl (lv_at hl 1 rfl) ?_
  refine mi_cR (mi_runV (P := mo_W D A ad cf0 f g) (As := [.int (nI (d))]) (rest := [.ref (ad 1000020)]) S E hS hM (ad 1000020) (c_isDie_y l D A (f := f) (g := g) (n := sD S0) hR.1.2.2.1 (by omega) (by omega)) (hM.recv E) mw_863 mw_860 mw_862 mw_29 mw_43 ⟨by decide, by decide, by decide +kernel⟩ ⟨rfl, rfl, Nat.le_of_ble_eq_true rfl, Nat.le_of_ble_eq_true rfl⟩ (n := 1) rfl hl.1 rfl (Nat.le_of_ble_eq_true rfl) dX5_strike_3 ⟨Nat.le_of_ble_eq_true rfl, Nat.le_of_ble_eq_true rfl⟩) (fun r9 e9 => ?_)
  subst e9
  refine mi_if_ne (tgt := 13) S (by omega) dX5_strike_6 (by decide) (fun c6_0 => ?_) (fun c6_0 => by exfalso; omega)
  refine lv_aload_n S.1 S.2.1 dX5_strike_13 rfl (lv_at hl 0 rfl) ?_
  refine mo_g_107 S E hM dX5_strike_14 ?_
  refine mi_top (v' := .int (nI (sC S0))) (congrArg Value.int hR.1.2.2.2) ?_
  refine lv_bipush (v := nI 60) S.1 S.2.1 dX5_strike_17 (by decide) ?_
  refine mi_icmp_ne (tgt := 26) S (by omega) (by omega) dX5_strike_19 (by decide) (fun c19_1 => by exfalso; omega) (fun c19_1 => ?_)
  refine lv_iconst (v := nI 2) S.1 S.2.1 dX5_strike_22 (by decide) ?_
  refine lv_goto (tgt := 27) S.1 S.2.1 dX5_strike_23 (by decide) ?_
  refine mo_p_44 S E hS hM dX5_strike_27 (fun H locs hM hS => ?_)
  refine lv_aload_n S.1 S.2.1 dX5_strike_30 rfl (lv_at hl 0 rfl) ?_
  refine mo_g_44 S E hM dX5_strike_31 ?_
  refine mi_top (v' := .int (nI (2))) (rfl) ?_
  refine mi_if_le (tgt := 39) S (by omega) dX5_strike_34 (by decide) (fun c34_3 => by exfalso; omega) (fun c34_3 => ?_)
  refine lv_iconst (v := nI 0) S.1 S.2.1 dX5_strike_37 (by decide) ?_
  exact mi_retMi S hr hk hS dX5_strike_38 (Nat.le_refl _) (Nat.le_refl _) (hM)
