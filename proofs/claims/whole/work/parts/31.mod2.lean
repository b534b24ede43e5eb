/-! the reference's changes of blocks -/
theorem mi_up_fn {α : Type} (f : Nat → α) (k : Nat) : va_up f k (f k) = f := by
  funext j
  by_cases h : j = k
  · subst h
    rw [mi_up_s]
  · rw [mi_up_n h]
set_option maxHeartbeats 4000000 in
set_option maxRecDepth 100000 in
theorem c_grows (l : Launch) (D : va_G) (A : Nat → Prop) {ad : Nat → Nat} {cf0 : Nat → Option va_E} {f : Nat → Int32} {g : Nat → Nat → Int32} {S0 : sT} (hR : st_mo S0 f g) (hO : st_ok S0) (h61 : sN S0 < 61) : mi_Mv l yX5_grows (Cond.code yX5_grows cX5_grows 2 none) (mi_rm 0) D A (mo_W D A ad cf0 f g) [.ref (ad 1000020)] 0 0 (fun H => ∃ f1 g1, mo_W D A ad cf0 f1 g1 H ∧ st_mo (st_new S0 (sK S0 (sW S0))) f1 g1 ∧ f1 0 = f 0) := by
  refine mi_start (cc := cX5_grows) (nL := 2) (ret := none) rfl (by decide) (Nat.le_of_ble_eq_true rfl) ?_
  intro p e s m below meth c ls S E hM hS hr hk hn hl
  have S : CallFix p m c cX5_grows 2 s _ ((Cond.code yX5_grows cX5_grows 2 none) :: mi_G) RX5 := S
  have hl : lv_has ls 2 [(0, .ref (ad 1000020))] := hl
  obtain ⟨⟨o1, o2, o3, o4, o5⟩, oP, oK, oD, oX, oC, oI⟩ := id hO
  refine lv_iconst (v := nI 0) S.1 S.2.1 dX5_grows_0 (by decide) ?_
  refine lv_istore_n (lv' := [(1, .int (nI (0))), (0, .ref (ad 1000020))]) S.1 S.2.1 dX5_grows_1 rfl hl (by decide) rfl (fun ls hl => ?_)
  have lp2 : ∀ (n2 : Nat) (i : Nat) (H : Heap) (locs : List Loc) (ls : Array Slot), 16 - i < n2 → i ≤ 16 → mo_W D A ad cf0 f (va_up g 4 (mo_gr (g 4) (sN S0) (sW S0) i)) H → va_S A s.heap H locs → lv_has ls 2 [(0, .ref (ad 1000020)), (1, .int (nI (i)))] → W p l e (mi_rm 0) s m ([.ref (ad 1000020)] : List Value).toArray below meth c H locs 0 0 (MQ below (mi_Qv A (fun H => ∃ f1 g1, mo_W D A ad cf0 f1 g1 H ∧ st_mo (st_new S0 (sK S0 (sW S0))) f1 g1 ∧ f1 0 = f 0)) ([.ref (ad 1000020)] : List Value).toArray s 0 0 A) (F0 m 2 ls []) := by
    intro n2
    induction n2 with
    | zero => intro i H locs ls hm hi hM hS hl; exact absurd hm (Nat.not_lt_zero _)
    | succ n2 ih2 =>
      intro i H locs ls hm hi hM hS hl
      refine lv_iload_n S.1 S.2.1 dX5_grows_2 rfl (lv_at hl 1 rfl) ?_
      refine lv_bipush (v := nI 16) S.1 S.2.1 dX5_grows_3 (by decide) ?_
      refine mi_icmp_ge (tgt := 42) S (by omega) (by omega) dX5_grows_5 (by decide) (fun c5_0 => ?_) (fun c5_0 => ?_)
      · refine lv_aload_n S.1 S.2.1 dX5_grows_42 rfl (lv_at hl 0 rfl) ?_
        refine mo_g_13 S E hM dX5_grows_43 ?_
        refine lv_aload_n S.1 S.2.1 dX5_grows_46 rfl (lv_at hl 0 rfl) ?_
        refine mo_g_7 S E hM dX5_grows_47 ?_
        refine mi_top (v' := .int (nI (sN S0))) (congrArg Value.int hR.1.1) ?_
        refine lv_aload_n S.1 S.2.1 dX5_grows_50 rfl (lv_at hl 0 rfl) ?_
        refine mo_g_51 S E hM dX5_grows_51 ?_
        refine mi_top (v' := .int (nI (sW S0))) (congrArg Value.int hR.1.2.1) ?_
        refine mo_ast 3 S E hS hM rfl (by show _ < 61; omega) dX5_grows_54 (fun H locs hM hS => ?_)
        refine lv_aload_n S.1 S.2.1 dX5_grows_55 rfl (lv_at hl 0 rfl) ?_
        refine lv_aload_n S.1 S.2.1 dX5_grows_56 rfl (lv_at hl 0 rfl) ?_
        refine mo_g_7 S E hM dX5_grows_57 ?_
        refine mi_top (v' := .int (nI (sN S0))) (congrArg Value.int hR.1.1) ?_
        refine mo_p_51 S E hS hM dX5_grows_60 (fun H locs hM hS => ?_)
        refine lv_aload_n S.1 S.2.1 dX5_grows_63 rfl (lv_at hl 0 rfl) ?_
        refine lv_dup S.1 S.2.1 dX5_grows_64 rfl ?_
        refine mo_g_7 S E hM dX5_grows_65 ?_
        refine mi_top (v' := .int (nI (sN S0))) (congrArg Value.int hR.1.1) ?_
        refine lv_iconst (v := nI 1) S.1 S.2.1 dX5_grows_68 (by decide) ?_
        refine mi_iadd S dX5_grows_69 ?_
        refine mo_p_7 S E hS hM dX5_grows_70 (fun H locs hM hS => ?_)
        skip
        exact mi_retMv S hr hk hS dX5_grows_73 (Nat.le_refl _) (Nat.le_refl _) ⟨_, _, hM, (show st_mo (st_new S0 (sK S0 (sW S0))) _ _ from by rw [mi_up_n (show (3 : Nat) ≠ 4 by decide), show i = 16 from by omega]; exact st_mo_grow hR hO), rfl⟩
      · refine lv_aload_n S.1 S.2.1 dX5_grows_8 rfl (lv_at hl 0 rfl) ?_
        refine mo_g_17 S E hM dX5_grows_9 ?_
        refine lv_bipush (v := nI 16) S.1 S.2.1 dX5_grows_12 (by decide) ?_
        refine lv_aload_n S.1 S.2.1 dX5_grows_14 rfl (lv_at hl 0 rfl) ?_
        refine mo_g_7 S E hM dX5_grows_15 ?_
        refine mi_top (v' := .int (nI (sN S0))) (congrArg Value.int hR.1.1) ?_
        refine mi_imul S dX5_grows_18 ?_
        refine lv_iload_n S.1 S.2.1 dX5_grows_19 rfl (lv_at hl 1 rfl) ?_
        refine mi_iadd S dX5_grows_20 ?_
        refine lv_aload_n S.1 S.2.1 dX5_grows_21 rfl (lv_at hl 0 rfl) ?_
        refine mo_g_17 S E hM dX5_grows_22 ?_
        refine lv_bipush (v := nI 16) S.1 S.2.1 dX5_grows_25 (by decide) ?_
        refine lv_aload_n S.1 S.2.1 dX5_grows_27 rfl (lv_at hl 0 rfl) ?_
        refine mo_g_51 S E hM dX5_grows_28 ?_
        refine mi_top (v' := .int (nI (sW S0))) (congrArg Value.int hR.1.2.1) ?_
        refine mi_imul S dX5_grows_31 ?_
        refine lv_iload_n S.1 S.2.1 dX5_grows_32 rfl (lv_at hl 1 rfl) ?_
        refine mi_iadd S dX5_grows_33 ?_
        refine mo_ald 4 S E hM rfl (by show _ < 976; omega) dX5_grows_34 ?_
        refine mi_top (v' := .int (mo_gr (g 4) (sN S0) (sW S0) i (16 * sW S0 + i))) (congrArg Value.int (congrFun mi_up_s _)) ?_
        refine mo_ast 4 S E hS hM rfl (by show _ < 976; omega) dX5_grows_35 (fun H locs hM hS => ?_)
        refine lv_iinc (v := nI (i + 1)) (lv' := [(1, .int (nI (i + 1))), (0, .ref (ad 1000020))]) S.1 S.2.1 dX5_grows_36 hl (k := 1) rfl (mi_inc _) (by decide) rfl (fun ls hl => ?_)
        refine lv_goto (tgt := 2) S.1 S.2.1 dX5_grows_39 (by decide) ?_
        exact ih2 (i + 1) _ _ _ (by omega) (by omega) (by rw [mi_up_s, mi_up_up, mo_gr_step o3 (by omega)] at hM; exact hM) hS (lv_sub hl [1, 0] rfl)
  exact lp2 _ 0 _ _ _ (Nat.lt_succ_self _) (by omega) (by rw [mo_gr_0, mi_up_fn]; exact hM) hS (lv_sub hl [1, 0] rfl)
set_option maxHeartbeats 4000000 in
set_option maxRecDepth 100000 in
theorem c_puts (l : Launch) (D : va_G) (A : Nat → Prop) {ad : Nat → Nat} {cf0 : Nat → Option va_E} {f : Nat → Int32} {g : Nat → Nat → Int32} {S0 : sT} (hR : st_mo S0 f g) (hO : sW S0 < sN S0 ∧ sN S0 ≤ 61) {a b k : Nat} (ha : a < 16) (hb : b < 8) (hk4 : k < 4) : mi_Mv l yX5_puts (Cond.code yX5_puts cX5_puts 5 none) (mi_rm 0) D A (mo_W D A ad cf0 f g) [.ref (ad 1000020), .int (nI (a)), .int (nI (b)), .int (nI (k))] 0 0 (fun H => ∃ f1 g1, mo_W D A ad cf0 f1 g1 H ∧ st_mo (st_put S0 (8 * a + b) k) f1 g1 ∧ f1 0 = f 0) := by
  refine mi_start (cc := cX5_puts) (nL := 5) (ret := none) rfl (by decide) (Nat.le_of_ble_eq_true rfl) ?_
  intro p e s m below meth c ls S E hM hS hr hk hn hl
  have S : CallFix p m c cX5_puts 5 s _ ((Cond.code yX5_puts cX5_puts 5 none) :: mi_G) RX5 := S
  have hl : lv_has ls 5 [(0, .ref (ad 1000020)), (1, .int (nI (a))), (2, .int (nI (b))), (3, .int (nI (k)))] := hl
  refine lv_bipush (v := nI 16) S.1 S.2.1 dX5_puts_0 (by decide) ?_
  refine lv_aload_n S.1 S.2.1 dX5_puts_2 rfl (lv_at hl 0 rfl) ?_
  refine mo_g_51 S E hM dX5_puts_3 ?_
  refine mi_top (v' := .int (nI (sW S0))) (congrArg Value.int hR.1.2.1) ?_
  refine mi_imul S dX5_puts_6 ?_
  refine lv_iload_n S.1 S.2.1 dX5_puts_7 rfl (lv_at hl 1 rfl) ?_
  refine mi_iadd S dX5_puts_8 ?_
  refine lv_istore (lv' := [(4, .int (nI ((16 * (sW S0)) + a))), (0, .ref (ad 1000020)), (1, .int (nI (a))), (2, .int (nI (b))), (3, .int (nI (k)))]) S.1 S.2.1 dX5_puts_9 hl (by decide) rfl (fun ls hl => ?_)
  refine lv_aload_n S.1 S.2.1 dX5_puts_11 rfl (lv_at hl 1 rfl) ?_
  refine mo_g_17 S E hM dX5_puts_12 ?_
  refine lv_iload S.1 S.2.1 dX5_puts_15 (lv_at hl 0 rfl) ?_
  refine lv_aload_n S.1 S.2.1 dX5_puts_17 rfl (lv_at hl 1 rfl) ?_
  refine mo_g_17 S E hM dX5_puts_18 ?_
  refine lv_iload S.1 S.2.1 dX5_puts_21 (lv_at hl 0 rfl) ?_
  refine mo_ald 4 S E hM rfl (by show _ < 976; omega) dX5_puts_23 ?_
  refine lv_iconst (v := nI 3) S.1 S.2.1 dX5_puts_24 (by decide) ?_
  refine lv_iconst (v := nI 2) S.1 S.2.1 dX5_puts_25 (by decide) ?_
  refine lv_iload_n S.1 S.2.1 dX5_puts_26 rfl (lv_at hl 3 rfl) ?_
  refine mi_imul S dX5_puts_27 ?_
  refine lv_ishl S.1 S.2.1 dX5_puts_28 ?_
  refine lv_iconst (v := (-1)) S.1 S.2.1 dX5_puts_29 (by decide) ?_
  refine lv_ixor S.1 S.2.1 dX5_puts_30 ?_
  refine lv_iand S.1 S.2.1 dX5_puts_31 ?_
  refine lv_iload_n S.1 S.2.1 dX5_puts_32 rfl (lv_at hl 4 rfl) ?_
  refine lv_iconst (v := nI 2) S.1 S.2.1 dX5_puts_33 (by decide) ?_
  refine lv_iload_n S.1 S.2.1 dX5_puts_34 rfl (lv_at hl 3 rfl) ?_
  refine mi_imul S dX5_puts_35 ?_
  refine lv_ishl S.1 S.2.1 dX5_puts_36 ?_
  refine lv_ior S.1 S.2.1 dX5_puts_37 ?_
  refine mo_ast 4 S E hS hM rfl (by show _ < 976; omega) dX5_puts_38 (fun H locs hM hS => ?_)
  exact mi_retMv S hr hk hS dX5_puts_39 (Nat.le_refl _) (Nat.le_refl _) (⟨f, _, hM, st_mo_put hR ha hb hk4 hO.1, rfl⟩)
set_option maxHeartbeats 4000000 in
set_option maxRecDepth 100000 in
theorem c_mset (l : Launch) (D : va_G) (A : Nat → Prop) {ad : Nat → Nat} {cf0 : Nat → Option va_E} {f : Nat → Int32} {g : Nat → Nat → Int32} {S0 : sT} (hR : st_mo S0 f g) (hO : st_ok S0) {a b k : Nat} (ha : a < 16) (hb : b < 8) (hk4 : k < 4) (h61 : sN S0 < 61) : mi_Mi l yX5_set (Cond.code yX5_set cX5_set 4 (some Jvm.ClassFile.FieldType.int)) (mi_rm 2) D A (mo_W D A ad cf0 f g) [.ref (ad 1000020), .int (nI (a)), .int (nI (b)), .int (nI (k))] 0 0 (fun r H => r = nI (sN S0) ∧ ∃ f1 g1, mo_W D A ad cf0 f1 g1 H ∧ st_mo (st_new S0 (mi_un (sK S0 (sW S0)) (8 * a + b) k)) f1 g1 ∧ f1 0 = nI 0) := by
  refine mi_start (cc := cX5_set) (nL := 4) (ret := (some Jvm.ClassFile.FieldType.int)) rfl (by decide) (Nat.le_of_ble_eq_true rfl) ?_
  intro p e s m below meth c ls S E hM hS hr hk hn hl
  have S : CallFix p m c cX5_set 4 s _ ((Cond.code yX5_set cX5_set 4 (some Jvm.ClassFile.FieldType.int)) :: mi_G) RX5 := S
  have hl : lv_has ls 4 [(0, .ref (ad 1000020)), (1, .int (nI (a))), (2, .int (nI (b))), (3, .int (nI (k)))] := hl
  obtain ⟨⟨o1, o2, o3, o4, o5⟩, oP, oK, oD, oX, oC, oI⟩ := id hO
  refine lv_aload_n S.1 S.2.1 dX5_set_0 rfl (lv_at hl 0 rfl) ?_
  refine lv_iload_n S.1 S.2.1 dX5_set_1 rfl (lv_at hl 1 rfl) ?_
  refine mi_cR (mi_runS (P := mo_W D A ad cf0 f g) (As := [.int (nI (a))]) (rest := [.ref (ad 1000020)]) S E hS hM (c_misColumn_y l D A (mo_W D A ad cf0 f g) (by omega)) mw_733 mw_731 mw_732 mw_43 ⟨by decide, by decide, by decide +kernel⟩ ⟨rfl, rfl, Nat.le_of_ble_eq_true rfl, Nat.le_of_ble_eq_true rfl⟩ (n := 1) rfl hl.1 rfl (Nat.le_of_ble_eq_true rfl) dX5_set_2 ⟨Nat.le_of_ble_eq_true rfl, Nat.le_of_ble_eq_true rfl⟩) (fun r9 e9 => ?_)
  subst e9
  refine mi_if_eq (tgt := 15) S (by omega) dX5_set_5 (by decide) (fun c5_0 => by exfalso; omega) (fun c5_0 => ?_)
  refine lv_iload_n S.1 S.2.1 dX5_set_8 rfl (lv_at hl 2 rfl) ?_
  refine mi_cR (mi_runS (P := mo_W D A ad cf0 f g) (As := [.int (nI (b))]) (rest := [.ref (ad 1000020)]) S E hS hM (c_misLevel_y l D A (mo_W D A ad cf0 f g) (by omega)) mw_739 mw_737 mw_738 mw_43 ⟨by decide, by decide, by decide +kernel⟩ ⟨rfl, rfl, Nat.le_of_ble_eq_true rfl, Nat.le_of_ble_eq_true rfl⟩ (n := 1) rfl hl.1 rfl (Nat.le_of_ble_eq_true rfl) dX5_set_9 ⟨Nat.le_of_ble_eq_true rfl, Nat.le_of_ble_eq_true rfl⟩) (fun r9 e9 => ?_)
  subst e9
  refine mi_if_ne (tgt := 19) S (by omega) dX5_set_12 (by decide) (fun c12_1 => ?_) (fun c12_1 => by exfalso; omega)
  refine lv_iload_n S.1 S.2.1 dX5_set_19 rfl (lv_at hl 3 rfl) ?_
  refine lv_iconst (v := nI 0) S.1 S.2.1 dX5_set_20 (by decide) ?_
  refine lv_iconst (v := nI 3) S.1 S.2.1 dX5_set_21 (by decide) ?_
  refine mi_cR (mi_runS (P := mo_W D A ad cf0 f g) (As := [.int (nI (k)), .int (nI (0)), .int (nI (3))]) (rest := [.ref (ad 1000020)]) S E hS hM (c_in_y l D A (mo_W D A ad cf0 f g) (by have := nI_toInt (n := k) (by omega); have := nI_toInt (n := 0) (by omega); have := nI_toInt (n := 3) (by omega); omega)) mw_736 mw_734 mw_735 mw_43 ⟨by decide, by decide, by decide +kernel⟩ ⟨rfl, rfl, Nat.le_of_ble_eq_true rfl, Nat.le_of_ble_eq_true rfl⟩ (n := 3) rfl hl.1 rfl (Nat.le_of_ble_eq_true rfl) dX5_set_22 ⟨Nat.le_of_ble_eq_true rfl, Nat.le_of_ble_eq_true rfl⟩) (fun r9 e9 => ?_)
  subst e9
  refine mi_if_ne (tgt := 32) S (by omega) dX5_set_25 (by decide) (fun c25_2 => ?_) (fun c25_2 => by exfalso; omega)
  refine lv_aload_n S.1 S.2.1 dX5_set_32 rfl (lv_at hl 0 rfl) ?_
  refine mo_g_7 S E hM dX5_set_33 ?_
  refine mi_top (v' := .int (nI (sN S0))) (congrArg Value.int hR.1.1) ?_
  refine lv_bipush (v := nI 61) S.1 S.2.1 dX5_set_36 (by decide) ?_
  refine mi_icmp_ne (tgt := 45) S (by omega) (by omega) dX5_set_38 (by decide) (fun c38_3 => ?_) (fun c38_3 => by exfalso; omega)
  refine lv_iconst (v := nI 0) S.1 S.2.1 dX5_set_45 (by decide) ?_
  refine mo_p_44 S E hS hM dX5_set_46 (fun H locs hM hS => ?_)
  refine lv_aload_n S.1 S.2.1 dX5_set_49 rfl (lv_at hl 0 rfl) ?_
  refine mo_g_44 S E hM dX5_set_50 ?_
  refine mi_top (v' := .int (nI (0))) (rfl) ?_
  refine mi_if_le (tgt := 58) S (by omega) dX5_set_53 (by decide) (fun c53_5 => ?_) (fun c53_5 => by exfalso; omega)
  refine lv_aload_n S.1 S.2.1 dX5_set_58 rfl (lv_at hl 0 rfl) ?_
  refine mi_cMv (mi_runV (P := mo_W D A ad cf0 (upd f 0 (nI (0))) g) (As := []) (rest := []) S E hS hM (ad 1000020) (c_grows l D A (st_mo_0 hR _) hO h61) (hM.recv E) mw_743 mw_740 mw_742 mw_17 mw_43 ⟨by decide, by decide, by decide +kernel⟩ ⟨rfl, rfl, Nat.le_of_ble_eq_true rfl, Nat.le_of_ble_eq_true rfl⟩ (n := 0) rfl hl.1 rfl (Nat.le_of_ble_eq_true rfl) dX5_set_59 ⟨Nat.le_of_ble_eq_true rfl, Nat.le_of_ble_eq_true rfl⟩) hS (fun H locs hp9 hS hz => ?_)
  obtain ⟨f7, g7, hM, hR7, hz7⟩ := hp9
  refine lv_aload_n S.1 S.2.1 dX5_set_62 rfl (lv_at hl 0 rfl) ?_
  refine lv_iload_n S.1 S.2.1 dX5_set_63 rfl (lv_at hl 1 rfl) ?_
  refine lv_iload_n S.1 S.2.1 dX5_set_64 rfl (lv_at hl 2 rfl) ?_
  refine lv_iload_n S.1 S.2.1 dX5_set_65 rfl (lv_at hl 3 rfl) ?_
  refine mi_cMv (mi_runV (P := mo_W D A ad cf0 f7 g7) (As := [.int (nI (a)), .int (nI (b)), .int (nI (k))]) (rest := []) S E hS hM (ad 1000020) (c_puts l D A (S0 := st_new S0 (sK S0 (sW S0))) hR7 ⟨(show sN S0 < sN S0 + 1 by omega), (show sN S0 + 1 ≤ 61 by omega)⟩ (by omega) (by omega) (by omega)) (hM.recv E) mw_747 mw_744 mw_746 mw_18 mw_43 ⟨by decide, by decide, by decide +kernel⟩ ⟨rfl, rfl, Nat.le_of_ble_eq_true rfl, Nat.le_of_ble_eq_true rfl⟩ (n := 3) rfl hl.1 rfl (Nat.le_of_ble_eq_true rfl) dX5_set_66 ⟨Nat.le_of_ble_eq_true rfl, Nat.le_of_ble_eq_true rfl⟩) hS (fun H locs hp9 hS hz => ?_)
  obtain ⟨f8, g8, hM, hR8, hz8⟩ := hp9
  rw [st_put_new] at hR8
  refine lv_aload_n S.1 S.2.1 dX5_set_69 rfl (lv_at hl 0 rfl) ?_
  refine mo_g_51 S E hM dX5_set_70 ?_
  refine mi_top (v' := .int (nI (sN S0))) (congrArg Value.int hR8.1.2.1) ?_
  exact mi_retMi S hr hk hS dX5_set_73 (Nat.le_refl _) (Nat.le_refl _) ⟨rfl, f8, g8, hM, hR8, hz8.trans ( hz7.trans (rfl))⟩
set_option maxHeartbeats 4000000 in
set_option maxRecDepth 100000 in
theorem c_mset_1 (l : Launch) (D : va_G) (A : Nat → Prop) {ad : Nat → Nat} {cf0 : Nat → Option va_E} {f : Nat → Int32} {g : Nat → Nat → Int32} {S0 : sT} (hR : st_mo S0 f g) (hO : st_ok S0) {x y z : Int32} (h9 : ¬ (0 ≤ x.toInt ∧ x.toInt ≤ 15)) : mi_Mi l yX5_set (Cond.code yX5_set cX5_set 4 (some Jvm.ClassFile.FieldType.int)) (mi_rm 2) D A (mo_W D A ad cf0 f g) [.ref (ad 1000020), .int (x), .int (y), .int (z)] 0 0 (fun r H => mo_W D A ad cf0 (upd f 0 (nI 1)) g H) := by
  refine mi_start (cc := cX5_set) (nL := 4) (ret := (some Jvm.ClassFile.FieldType.int)) rfl (by decide) (Nat.le_of_ble_eq_true rfl) ?_
  intro p e s m below meth c ls S E hM hS hr hk hn hl
  have S : CallFix p m c cX5_set 4 s _ ((Cond.code yX5_set cX5_set 4 (some Jvm.ClassFile.FieldType.int)) :: mi_G) RX5 := S
  have hl : lv_has ls 4 [(0, .ref (ad 1000020)), (1, .int (x)), (2, .int (y)), (3, .int (z))] := hl
  obtain ⟨⟨o1, o2, o3, o4, o5⟩, oP, oK, oD, oX, oC, oI⟩ := id hO
  refine lv_aload_n S.1 S.2.1 dX5_set_0 rfl (lv_at hl 0 rfl) ?_
  refine lv_iload_n S.1 S.2.1 dX5_set_1 rfl (lv_at hl 1 rfl) ?_
  refine mi_cR (mi_runS (P := mo_W D A ad cf0 f g) (As := [.int (x)]) (rest := [.ref (ad 1000020)]) S E hS hM (c_misColumn_n l D A (mo_W D A ad cf0 f g) (h9)) mw_733 mw_731 mw_732 mw_43 ⟨by decide, by decide, by decide +kernel⟩ ⟨rfl, rfl, Nat.le_of_ble_eq_true rfl, Nat.le_of_ble_eq_true rfl⟩ (n := 1) rfl hl.1 rfl (Nat.le_of_ble_eq_true rfl) dX5_set_2 ⟨Nat.le_of_ble_eq_true rfl, Nat.le_of_ble_eq_true rfl⟩) (fun r9 e9 => ?_)
  subst e9
  refine mi_if_eq (tgt := 15) S (by omega) dX5_set_5 (by decide) (fun c5_0 => ?_) (fun c5_0 => by exfalso; omega)
  refine lv_iconst (v := nI 1) S.1 S.2.1 dX5_set_15 (by decide) ?_
  refine lv_goto (tgt := 46) S.1 S.2.1 dX5_set_16 (by decide) ?_
  refine mo_p_44 S E hS hM dX5_set_46 (fun H locs hM hS => ?_)
  refine lv_aload_n S.1 S.2.1 dX5_set_49 rfl (lv_at hl 0 rfl) ?_
  refine mo_g_44 S E hM dX5_set_50 ?_
  refine mi_top (v' := .int (nI (1))) (rfl) ?_
  refine mi_if_le (tgt := 58) S (by omega) dX5_set_53 (by decide) (fun c53_2 => by exfalso; omega) (fun c53_2 => ?_)
  refine lv_iconst (v := nI 0) S.1 S.2.1 dX5_set_56 (by decide) ?_
  exact mi_retMi S hr hk hS dX5_set_57 (Nat.le_refl _) (Nat.le_refl _) (hM)
set_option maxHeartbeats 4000000 in
set_option maxRecDepth 100000 in
theorem c_mset_2 (l : Launch) (D : va_G) (A : Nat → Prop) {ad : Nat → Nat} {cf0 : Nat → Option va_E} {f : Nat → Int32} {g : Nat → Nat → Int32} {S0 : sT} (hR : st_mo S0 f g) (hO : st_ok S0) {a : Nat} (ha : a < 16) {y z : Int32} (h9 : ¬ (0 ≤ y.toInt ∧ y.toInt ≤ 7)) : mi_Mi l yX5_set (Cond.code yX5_set cX5_set 4 (some Jvm.ClassFile.FieldType.int)) (mi_rm 2) D A (mo_W D A ad cf0 f g) [.ref (ad 1000020), .int (nI (a)), .int (y), .int (z)] 0 0 (fun r H => mo_W D A ad cf0 (upd f 0 (nI 1)) g H) := by
  refine mi_start (cc := cX5_set) (nL := 4) (ret := (some Jvm.ClassFile.FieldType.int)) rfl (by decide) (Nat.le_of_ble_eq_true rfl) ?_
  intro p e s m below meth c ls S E hM hS hr hk hn hl
  have S : CallFix p m c cX5_set 4 s _ ((Cond.code yX5_set cX5_set 4 (some Jvm.ClassFile.FieldType.int)) :: mi_G) RX5 := S
  have hl : lv_has ls 4 [(0, .ref (ad 1000020)), (1, .int (nI (a))), (2, .int (y)), (3, .int (z))] := hl
  obtain ⟨⟨o1, o2, o3, o4, o5⟩, oP, oK, oD, oX, oC, oI⟩ := id hO
  refine lv_aload_n S.1 S.2.1 dX5_set_0 rfl (lv_at hl 0 rfl) ?_
  refine lv_iload_n S.1 S.2.1 dX5_set_1 rfl (lv_at hl 1 rfl) ?_
  refine mi_cR (mi_runS (P := mo_W D A ad cf0 f g) (As := [.int (nI (a))]) (rest := [.ref (ad 1000020)]) S E hS hM (c_misColumn_y l D A (mo_W D A ad cf0 f g) (by omega)) mw_733 mw_731 mw_732 mw_43 ⟨by decide, by decide, by decide +kernel⟩ ⟨rfl, rfl, Nat.le_of_ble_eq_true rfl, Nat.le_of_ble_eq_true rfl⟩ (n := 1) rfl hl.1 rfl (Nat.le_of_ble_eq_true rfl) dX5_set_2 ⟨Nat.le_of_ble_eq_true rfl, Nat.le_of_ble_eq_true rfl⟩) (fun r9 e9 => ?_)
  subst e9
  refine mi_if_eq (tgt := 15) S (by omega) dX5_set_5 (by decide) (fun c5_0 => by exfalso; omega) (fun c5_0 => ?_)
  refine lv_iload_n S.1 S.2.1 dX5_set_8 rfl (lv_at hl 2 rfl) ?_
  refine mi_cR (mi_runS (P := mo_W D A ad cf0 f g) (As := [.int (y)]) (rest := [.ref (ad 1000020)]) S E hS hM (c_misLevel_n l D A (mo_W D A ad cf0 f g) (h9)) mw_739 mw_737 mw_738 mw_43 ⟨by decide, by decide, by decide +kernel⟩ ⟨rfl, rfl, Nat.le_of_ble_eq_true rfl, Nat.le_of_ble_eq_true rfl⟩ (n := 1) rfl hl.1 rfl (Nat.le_of_ble_eq_true rfl) dX5_set_9 ⟨Nat.le_of_ble_eq_true rfl, Nat.le_of_ble_eq_true rfl⟩) (fun r9 e9 => ?_)
  subst e9
  refine mi_if_ne (tgt := 19) S (by omega) dX5_set_12 (by decide) (fun c12_1 => by exfalso; omega) (fun c12_1 => ?_)
  refine lv_iconst (v := nI 1) S.1 S.2.1 dX5_set_15 (by decide) ?_
  refine lv_goto (tgt := 46) S.1 S.2.1 dX5_set_16 (by decide) ?_
  refine mo_p_44 S E hS hM dX5_set_46 (fun H locs hM hS => ?_)
  refine lv_aload_n S.1 S.2.1 dX5_set_49 rfl (lv_at hl 0 rfl) ?_
  refine mo_g_44 S E hM dX5_set_50 ?_
  refine mi_top (v' := .int (nI (1))) (rfl) ?_
  refine mi_if_le (tgt := 58) S (by omega) dX5_set_53 (by decide) (fun c53_3 => by exfalso; omega) (fun c53_3 => ?_)
  refine lv_iconst (v := nI 0) S.1 S.2.1 dX5_set_56 (by decide) ?_
  exact mi_retMi S hr hk hS dX5_set_57 (Nat.le_refl _) (Nat.le_refl _) (hM)
set_option maxHeartbeats 4000000 in
set_option maxRecDepth 100000 in
theorem c_mset_3 (l : Launch) (D : va_G) (A : Nat → Prop) {ad : Nat → Nat} {cf0 : Nat → Option va_E} {f : Nat → Int32} {g : Nat → Nat → Int32} {S0 : sT} (hR : st_mo S0 f g) (hO : st_ok S0) {a b : Nat} (ha : a < 16) (hb : b < 8) {z : Int32} (h9 : ¬ (0 ≤ z.toInt ∧ z.toInt ≤ 3)) : mi_Mi l yX5_set (Cond.code yX5_set cX5_set 4 (some Jvm.ClassFile.FieldType.int)) (mi_rm 2) D A (mo_W D A ad cf0 f g) [.ref (ad 1000020), .int (nI (a)), .int (nI (b)), .int (z)] 0 0 (fun r H => mo_W D A ad cf0 (upd f 0 (nI 2)) g H) := by
  refine mi_start (cc := cX5_set) (nL := 4) (ret := (some Jvm.ClassFile.FieldType.int)) rfl (by decide) (Nat.le_of_ble_eq_true rfl) ?_
  intro p e s m below meth c ls S E hM hS hr hk hn hl
  have S : CallFix p m c cX5_set 4 s _ ((Cond.code yX5_set cX5_set 4 (some Jvm.ClassFile.FieldType.int)) :: mi_G) RX5 := S
  have hl : lv_has ls 4 [(0, .ref (ad 1000020)), (1, .int (nI (a))), (2, .int (nI (b))), (3, .int (z))] := hl
  obtain ⟨⟨o1, o2, o3, o4, o5⟩, oP, oK, oD, oX, oC, oI⟩ := id hO
  refine lv_aload_n S.1 S.2.1 dX5_set_0 rfl (lv_at hl 0 rfl) ?_
  refine lv_iload_n S.1 S.2.1 dX5_set_1 rfl (lv_at hl 1 rfl) ?_
  refine mi_cR (mi_runS (P := mo_W D A ad cf0 f g) (As := [.int (nI (a))]) (rest := [.ref (ad 1000020)]) S E hS hM (c_misColumn_y l D A (mo_W D A ad cf0 f g) (by omega)) mw_733 mw_731 mw_732 mw_43 ⟨by decide, by decide, by decide +kernel⟩ ⟨rfl, rfl, Nat.le_of_ble_eq_true rfl, Nat.le_of_ble_eq_true rfl⟩ (n := 1) rfl hl.1 rfl (Nat.le_of_ble_eq_true rfl) dX5_set_2 ⟨Nat.le_of_ble_eq_true rfl, Nat.le_of_ble_eq_true rfl⟩) (fun r9 e9 => ?_)
  subst e9
  refine mi_if_eq (tgt := 15) S (by omega) dX5_set_5 (by decide) (fun c5_0 => by exfalso; omega) (fun c5_0 => ?_)
  refine lv_iload_n S.1 S.2.1 dX5_set_8 rfl (lv_at hl 2 rfl) ?_
  refine mi_cR (mi_runS (P := mo_W D A ad cf0 f g) (As := [.int (nI (b))]) (rest := [.ref (ad 1000020)]) S E hS hM (c_misLevel_y l D A (mo_W D A ad cf0 f g) (by omega)) mw_739 mw_737 mw_738 mw_43 ⟨by decide, by decide, by decide +kernel⟩ ⟨rfl, rfl, Nat.le_of_ble_eq_true rfl, Nat.le_of_ble_eq_true rfl⟩ (n := 1) rfl hl.1 rfl (Nat.le_of_ble_eq_true rfl) dX5_set_9 ⟨Nat.le_of_ble_eq_true rfl, Nat.le_of_ble_eq_true rfl⟩) (fun r9 e9 => ?_)
  subst e9
  refine mi_if_ne (tgt := 19) S (by omega) dX5_set_12 (by decide) (fun c12_1 => ?_) (fun c12_1 => by exfalso; omega)
  refine lv_iload_n S.1 S.2.1 dX5_set_19 rfl (lv_at hl 3 rfl) ?_
  refine lv_iconst (v := nI 0) S.1 S.2.1 dX5_set_20 (by decide) ?_
  refine lv_iconst (v := nI 3) S.1 S.2.1 dX5_set_21 (by decide) ?_
  refine mi_cR (mi_runS (P := mo_W D A ad cf0 f g) (As := [.int (z), .int (nI (0)), .int (nI (3))]) (rest := [.ref (ad 1000020)]) S E hS hM (c_in_n l D A (mo_W D A ad cf0 f g) (by skip; have := nI_toInt (n := 0) (by omega); have := nI_toInt (n := 3) (by omega); omega)) mw_736 mw_734 mw_735 mw_43 ⟨by decide, by decide, by decide +kernel⟩ ⟨rfl, rfl, Nat.le_of_ble_eq_true rfl, Nat.le_of_ble_eq_true rfl⟩ (n := 3) rfl hl.1 rfl (Nat.le_of_ble_eq_true rfl) dX5_set_22 ⟨Nat.le_of_ble_eq_true rfl, Nat.le_of_ble_eq_true rfl⟩) (fun r9 e9 => ?_)
  subst e9
  refine mi_if_ne (tgt := 32) S (by omega) dX5_set_25 (by decide) (fun c25_2 => by exfalso; omega) (fun c25_2 => ?_)
  refine lv_iconst (v := nI 2) S.1 S.2.1 dX5_set_28 (by decide) ?_
  refine lv_goto (tgt := 46) S.1 S.2.1 dX5_set_29 (by decide) ?_
  refine mo_p_44 S E hS hM dX5_set_46 (fun H locs hM hS => ?_)
  refine lv_aload_n S.1 S.2.1 dX5_set_49 rfl (lv_at hl 0 rfl) ?_
  refine mo_g_44 S E hM dX5_set_50 ?_
  refine mi_top (v' := .int (nI (2))) (rfl) ?_
  refine mi_if_le (tgt := 58) S (by omega) dX5_set_53 (by decide) (fun c53_4 => by exfalso; omega) (fun c53_4 => ?_)
  refine lv_iconst (v := nI 0) S.1 S.2.1 dX5_set_56 (by decide) ?_
  exact mi_retMi S hr hk hS dX5_set_57 (Nat.le_refl _) (Nat.le_refl _) (hM)
set_option maxHeartbeats 4000000 in
set_option maxRecDepth 100000 in
theorem c_mset_4 (l : Launch) (D : va_G) (A : Nat → Prop) {ad : Nat → Nat} {cf0 : Nat → Option va_E} {f : Nat → Int32} {g : Nat → Nat → Int32} {S0 : sT} (hR : st_mo S0 f g) (hO : st_ok S0) {a b k : Nat} (ha : a < 16) (hb : b < 8) (hk4 : k < 4) (h61 : sN S0 = 61) : mi_Mi l yX5_set (Cond.code yX5_set cX5_set 4 (some Jvm.ClassFile.FieldType.int)) (mi_rm 2) D A (mo_W D A ad cf0 f g) [.ref (ad 1000020), .int (nI (a)), .int (nI (b)), .int (nI (k))] 0 0 (fun r H => mo_W D A ad cf0 (upd f 0 (nI 3)) g H) := by
  refine mi_start (cc := cX5_set) (nL := 4) (ret := (some Jvm.ClassFile.FieldType.int)) rfl (by decide) (Nat.le_of_ble_eq_true rfl) ?_
  intro p e s m below meth c ls S E hM hS hr hk hn hl
  have S : CallFix p m c cX5_set 4 s _ ((Cond.code yX5_set cX5_set 4 (some Jvm.ClassFile.FieldType.int)) :: mi_G) RX5 := S
  have hl : lv_has ls 4 [(0, .ref (ad 1000020)), (1, .int (nI (a))), (2, .int (nI (b))), (3, .int (nI (k)))] := hl
  obtain ⟨⟨o1, o2, o3, o4, o5⟩, oP, oK, oD, oX, oC, oI⟩ := id hO
  refine lv_aload_n S.1 S.2.1 dX5_set_0 rfl (lv_at hl 0 rfl) ?_
  refine lv_iload_n S.1 S.2.1 dX5_set_1 rfl (lv_at hl 1 rfl) ?_
  refine mi_cR (mi_runS (P := mo_W D A ad cf0 f g) (As := [.int (nI (a))]) (rest := [.ref (ad 1000020)]) S E hS hM (c_misColumn_y l D A (mo_W D A ad cf0 f g) (by omega)) mw_733 mw_731 mw_732 mw_43 ⟨by decide, by decide, by decide +kernel⟩ ⟨rfl, rfl, Nat.le_of_ble_eq_true rfl, Nat.le_of_ble_eq_true rfl⟩ (n := 1) rfl hl.1 rfl (Nat.le_of_ble_eq_true rfl) dX5_set_2 ⟨Nat.le_of_ble_eq_true rfl, Nat.le_of_ble_eq_true rfl⟩) (fun r9 e9 => ?_)
  subst e9
  refine mi_if_eq (tgt := 15) S (by omega) dX5_set_5 (by decide) (fun c5_0 => by exfalso; omega) (fun c5_0 => ?_)
  refine lv_iload_n S.1 S.2.1 dX5_set_8 rfl (lv_at hl 2 rfl) ?_
  refine mi_cR (mi_runS (P := mo_W D A ad cf0 f g) (As := [.int (nI (b))]) (rest := [.ref (ad 1000020)]) S E hS hM (c_misLevel_y l D A (mo_W D A ad cf0 f g) (by omega)) mw_739 mw_737 mw_738 mw_43 ⟨by decide, by decide, by decide +kernel⟩ ⟨rfl, rfl, Nat.le_of_ble_eq_true rfl, Nat.le_of_ble_eq_true rfl⟩ (n := 1) rfl hl.1 rfl (Nat.le_of_ble_eq_true rfl) dX5_set_9 ⟨Nat.le_of_ble_eq_true rfl, Nat.le_of_ble_eq_true rfl⟩) (fun r9 e9 => ?_)
  subst e9
  refine mi_if_ne (tgt := 19) S (by omega) dX5_set_12 (by decide) (fun c12_1 => ?_) (fun c12_1 => by exfalso; omega)
  refine lv_iload_n S.1 S.2.1 dX5_set_19 rfl (lv_at hl 3 rfl) ?_
  refine lv_iconst (v := nI 0) S.1 S.2.1 dX5_set_20 (by decide) ?_
  refine lv_iconst (v := nI 3) S.1 S.2.1 dX5_set_21 (by decide) ?_
  refine mi_cR (mi_runS (P := mo_W D A ad cf0 f g) (As := [.int (nI (k)), .int (nI (0)), .int (nI (3))]) (rest := [.ref (ad 1000020)]) S E hS hM (c_in_y l D A (mo_W D A ad cf0 f g) (by have := nI_toInt (n := k) (by omega); have := nI_toInt (n := 0) (by omega); have := nI_toInt (n := 3) (by omega); omega)) mw_736 mw_734 mw_735 mw_43 ⟨by decide, by decide, by decide +kernel⟩ ⟨rfl, rfl, Nat.le_of_ble_eq_true rfl, Nat.le_of_ble_eq_true rfl⟩ (n := 3) rfl hl.1 rfl (Nat.le_of_ble_eq_true rfl) dX5_set_22 ⟨Nat.le_of_ble_eq_true rfl, Nat.le_of_ble_eq_true rfl⟩) (fun r9 e9 => ?_)
  subst e9
  refine mi_if_ne (tgt := 32) S (by omega) dX5_set_25 (by decide) (fun c25_2 => ?_) (fun c25_2 => by exfalso; omega)
  refine lv_aload_n S.1 S.2.1 dX5_set_32 rfl (lv_at hl 0 rfl) ?_
  refine mo_g_7 S E hM dX5_set_33 ?_
  refine mi_top (v' := .int (nI (sN S0))) (congrArg Value.int hR.1.1) ?_
  refine lv_bipush (v := nI 61) S.1 S.2.1 dX5_set_36 (by decide) ?_
  refine mi_icmp_ne (tgt := 45) S (by omega) (by omega) dX5_set_38 (by decide) (fun c38_3 => by exfalso; omega) (fun c38_3 => ?_)
  refine lv_iconst (v := nI 3) S.1 S.2.1 dX5_set_41 (by decide) ?_
  refine lv_goto (tgt := 46) S.1 S.2.1 dX5_set_42 (by decide) ?_
  refine mo_p_44 S E hS hM dX5_set_46 (fun H locs hM hS => ?_)
  refine lv_aload_n S.1 S.2.1 dX5_set_49 rfl (lv_at hl 0 rfl) ?_
  refine mo_g_44 S E hM dX5_set_50 ?_
  refine mi_top (v' := .int (nI (3))) (rfl) ?_
  refine mi_if_le (tgt := 58) S (by omega) dX5_set_53 (by decide) (fun c53_5 => by exfalso; omega) (fun c53_5 => ?_)
  refine lv_iconst (v := nI 0) S.1 S.2.1 dX5_set_56 (by decide) ?_
  exact mi_retMi S hr hk hS dX5_set_57 (Nat.le_refl _) (Nat.le_refl _) (hM)
set_option maxHeartbeats 4000000 in
set_option maxRecDepth 100000 in
theorem c_mraise (l : Launch) (D : va_G) (A : Nat → Prop) {ad : Nat → Nat} {cf0 : Nat → Option va_E} {f : Nat → Int32} {g : Nat → Nat → Int32} {S0 : sT} (hR : st_mo S0 f g) (hO : st_ok S0) {a b k : Nat} (ha : a < 16) (hb : b ≤ 8) (hk1 : 1 ≤ k) (hk4 : k < 4) (h61 : sN S0 < 61) : mi_Mi l yX5_raise (Cond.code yX5_raise cX5_raise 5 (some Jvm.ClassFile.FieldType.int)) (mi_rm 2) D A (mo_W D A ad cf0 f g) [.ref (ad 1000020), .int (nI (a)), .int (nI (b)), .int (nI (k))] 0 0 (fun r H => r = nI (sN S0) ∧ ∃ f1 g1, mo_W D A ad cf0 f1 g1 H ∧ st_mo (st_new S0 (sp_ra (sK S0 (sW S0)) a b k 8)) f1 g1 ∧ f1 0 = nI 0) := by
  refine mi_start (cc := cX5_raise) (nL := 5) (ret := (some Jvm.ClassFile.FieldType.int)) rfl (by decide) (Nat.le_of_ble_eq_true rfl) ?_
  intro p e s m below meth c ls S E hM hS hr hk hn hl
  have S : CallFix p m c cX5_raise 5 s _ ((Cond.code yX5_raise cX5_raise 5 (some Jvm.ClassFile.FieldType.int)) :: mi_G) RX5 := S
  have hl : lv_has ls 5 [(0, .ref (ad 1000020)), (1, .int (nI (a))), (2, .int (nI (b))), (3, .int (nI (k)))] := hl
  obtain ⟨⟨o1, o2, o3, o4, o5⟩, oP, oK, oD, oX, oC, oI⟩ := id hO
  refine lv_aload_n S.1 S.2.1 dX5_raise_0 rfl (lv_at hl 0 rfl) ?_
  refine lv_iload_n S.1 S.2.1 dX5_raise_1 rfl (lv_at hl 1 rfl) ?_
  refine mi_cR (mi_runS (P := mo_W D A ad cf0 f g) (As := [.int (nI (a))]) (rest := [.ref (ad 1000020)]) S E hS hM (c_misColumn_y l D A (mo_W D A ad cf0 f g) (by omega)) mw_733 mw_731 mw_732 mw_43 ⟨by decide, by decide, by decide +kernel⟩ ⟨rfl, rfl, Nat.le_of_ble_eq_true rfl, Nat.le_of_ble_eq_true rfl⟩ (n := 1) rfl hl.1 rfl (Nat.le_of_ble_eq_true rfl) dX5_raise_2 ⟨Nat.le_of_ble_eq_true rfl, Nat.le_of_ble_eq_true rfl⟩) (fun r9 e9 => ?_)
  subst e9
  refine mi_if_ne (tgt := 12) S (by omega) dX5_raise_5 (by decide) (fun c5_0 => ?_) (fun c5_0 => by exfalso; omega)
  refine lv_iload_n S.1 S.2.1 dX5_raise_12 rfl (lv_at hl 2 rfl) ?_
  refine lv_iconst (v := nI 0) S.1 S.2.1 dX5_raise_13 (by decide) ?_
  refine lv_bipush (v := nI 8) S.1 S.2.1 dX5_raise_14 (by decide) ?_
  refine mi_cR (mi_runS (P := mo_W D A ad cf0 f g) (As := [.int (nI (b)), .int (nI (0)), .int (nI (8))]) (rest := [.ref (ad 1000020)]) S E hS hM (c_in_y l D A (mo_W D A ad cf0 f g) (by have := nI_toInt (n := b) (by omega); have := nI_toInt (n := 0) (by omega); have := nI_toInt (n := 8) (by omega); omega)) mw_736 mw_734 mw_735 mw_43 ⟨by decide, by decide, by decide +kernel⟩ ⟨rfl, rfl, Nat.le_of_ble_eq_true rfl, Nat.le_of_ble_eq_true rfl⟩ (n := 3) rfl hl.1 rfl (Nat.le_of_ble_eq_true rfl) dX5_raise_16 ⟨Nat.le_of_ble_eq_true rfl, Nat.le_of_ble_eq_true rfl⟩) (fun r9 e9 => ?_)
  subst e9
  refine mi_if_eq (tgt := 31) S (by omega) dX5_raise_19 (by decide) (fun c19_1 => by exfalso; omega) (fun c19_1 => ?_)
  refine lv_iload_n S.1 S.2.1 dX5_raise_22 rfl (lv_at hl 3 rfl) ?_
  refine lv_iconst (v := nI 1) S.1 S.2.1 dX5_raise_23 (by decide) ?_
  refine lv_iconst (v := nI 3) S.1 S.2.1 dX5_raise_24 (by decide) ?_
  refine mi_cR (mi_runS (P := mo_W D A ad cf0 f g) (As := [.int (nI (k)), .int (nI (1)), .int (nI (3))]) (rest := [.ref (ad 1000020)]) S E hS hM (c_in_y l D A (mo_W D A ad cf0 f g) (by have := nI_toInt (n := k) (by omega); have := nI_toInt (n := 1) (by omega); have := nI_toInt (n := 3) (by omega); omega)) mw_736 mw_734 mw_735 mw_43 ⟨by decide, by decide, by decide +kernel⟩ ⟨rfl, rfl, Nat.le_of_ble_eq_true rfl, Nat.le_of_ble_eq_true rfl⟩ (n := 3) rfl hl.1 rfl (Nat.le_of_ble_eq_true rfl) dX5_raise_25 ⟨Nat.le_of_ble_eq_true rfl, Nat.le_of_ble_eq_true rfl⟩) (fun r9 e9 => ?_)
  subst e9
  refine mi_if_ne (tgt := 35) S (by omega) dX5_raise_28 (by decide) (fun c28_2 => ?_) (fun c28_2 => by exfalso; omega)
  refine lv_aload_n S.1 S.2.1 dX5_raise_35 rfl (lv_at hl 0 rfl) ?_
  refine mo_g_7 S E hM dX5_raise_36 ?_
  refine mi_top (v' := .int (nI (sN S0))) (congrArg Value.int hR.1.1) ?_
  refine lv_bipush (v := nI 61) S.1 S.2.1 dX5_raise_39 (by decide) ?_
  refine mi_icmp_ne (tgt := 48) S (by omega) (by omega) dX5_raise_41 (by decide) (fun c41_3 => ?_) (fun c41_3 => by exfalso; omega)
  refine lv_iconst (v := nI 0) S.1 S.2.1 dX5_raise_48 (by decide) ?_
  refine mo_p_44 S E hS hM dX5_raise_49 (fun H locs hM hS => ?_)
  refine lv_aload_n S.1 S.2.1 dX5_raise_52 rfl (lv_at hl 0 rfl) ?_
  refine mo_g_44 S E hM dX5_raise_53 ?_
  refine mi_top (v' := .int (nI (0))) (rfl) ?_
  refine mi_if_le (tgt := 61) S (by omega) dX5_raise_56 (by decide) (fun c56_5 => ?_) (fun c56_5 => by exfalso; omega)
  refine lv_aload_n S.1 S.2.1 dX5_raise_61 rfl (lv_at hl 0 rfl) ?_
  refine mi_cMv (mi_runV (P := mo_W D A ad cf0 (upd f 0 (nI (0))) g) (As := []) (rest := []) S E hS hM (ad 1000020) (c_grows l D A (st_mo_0 hR _) hO h61) (hM.recv E) mw_743 mw_740 mw_742 mw_17 mw_43 ⟨by decide, by decide, by decide +kernel⟩ ⟨rfl, rfl, Nat.le_of_ble_eq_true rfl, Nat.le_of_ble_eq_true rfl⟩ (n := 0) rfl hl.1 rfl (Nat.le_of_ble_eq_true rfl) dX5_raise_62 ⟨Nat.le_of_ble_eq_true rfl, Nat.le_of_ble_eq_true rfl⟩) hS (fun H locs hp9 hS hz => ?_)
  obtain ⟨f7, g7, hM, hR7, hz7⟩ := hp9
  refine lv_iconst (v := nI 0) S.1 S.2.1 dX5_raise_65 (by decide) ?_
  refine lv_istore (lv' := [(4, .int (nI (0))), (0, .ref (ad 1000020)), (1, .int (nI (a))), (2, .int (nI (b))), (3, .int (nI (k)))]) S.1 S.2.1 dX5_raise_66 hl (by decide) rfl (fun ls hl => ?_)
  have lp68 : ∀ (n68 : Nat) (f1 : Nat → Int32) (g1 : Nat → Nat → Int32) (i : Nat) (H : Heap) (locs : List Loc) (ls : Array Slot), 8 - i < n68 → i ≤ 8 → st_mo (st_new S0 (sp_ra (sK S0 (sW S0)) a b k i)) f1 g1 → f1 0 = nI 0 → mo_W D A ad cf0 f1 g1 H → va_S A s.heap H locs → lv_has ls 5 [(0, .ref (ad 1000020)), (1, .int (nI (a))), (2, .int (nI (b))), (3, .int (nI (k))), (4, .int (nI (i)))] → W p l e (mi_rm 2) s m ([.ref (ad 1000020), .int (nI (a)), .int (nI (b)), .int (nI (k))] : List Value).toArray below meth c H locs 0 0 (MQ below (mi_Qi A (fun r H => r = nI (sN S0) ∧ ∃ f1 g1, mo_W D A ad cf0 f1 g1 H ∧ st_mo (st_new S0 (sp_ra (sK S0 (sW S0)) a b k 8)) f1 g1 ∧ f1 0 = nI 0)) ([.ref (ad 1000020), .int (nI (a)), .int (nI (b)), .int (nI (k))] : List Value).toArray s 0 0 A) (F0 m 68 ls []) := by
    intro n68
    induction n68 with
    | zero => intro f1 g1 i H locs ls hm hi hR1 hz1 hM hS hl; exact absurd hm (Nat.not_lt_zero _)
    | succ n68 ih68 =>
      intro f1 g1 i H locs ls hm hi hR1 hz1 hM hS hl
      refine lv_iload S.1 S.2.1 dX5_raise_68 (lv_at hl 4 rfl) ?_
      refine lv_bipush (v := nI 8) S.1 S.2.1 dX5_raise_70 (by decide) ?_
      refine mi_icmp_ge (tgt := 99) S (by omega) (by omega) dX5_raise_72 (by decide) (fun c72_7 => ?_) (fun c72_7 => ?_)
      · refine lv_aload_n S.1 S.2.1 dX5_raise_99 rfl (lv_at hl 0 rfl) ?_
        refine mo_g_51 S E hM dX5_raise_100 ?_
        refine mi_top (v' := .int (nI (sN S0))) (congrArg Value.int hR1.1.2.1) ?_
        exact mi_retMi S hr hk hS dX5_raise_103 (Nat.le_refl _) (Nat.le_refl _) ⟨rfl, f1, g1, hM, (by rw [show i = 8 by omega] at hR1; exact hR1), hz1⟩
      · refine lv_aload_n S.1 S.2.1 dX5_raise_75 rfl (lv_at hl 0 rfl) ?_
        refine lv_iload_n S.1 S.2.1 dX5_raise_76 rfl (lv_at hl 1 rfl) ?_
        refine lv_iload S.1 S.2.1 dX5_raise_77 (lv_at hl 4 rfl) ?_
        refine lv_iload S.1 S.2.1 dX5_raise_79 (lv_at hl 4 rfl) ?_
        refine lv_iload_n S.1 S.2.1 dX5_raise_81 rfl (lv_at hl 2 rfl) ?_
        refine mi_icmp_ge (tgt := 89) S (by omega) (by omega) dX5_raise_82 (by decide) (fun c82_8 => ?_) (fun c82_8 => ?_)
        · refine lv_iconst (v := nI 0) S.1 S.2.1 dX5_raise_89 (by decide) ?_
          refine mi_cMv (mi_runV (P := mo_W D A ad cf0 f1 g1) (As := [.int (nI (a)), .int (nI (i)), .int (nI (0))]) (rest := []) S E hS hM (ad 1000020) (c_puts l D A (S0 := st_new S0 (sp_ra (sK S0 (sW S0)) a b k i)) hR1 ⟨(show sN S0 < sN S0 + 1 by omega), (show sN S0 + 1 ≤ 61 by omega)⟩ (by omega) (by omega) (by omega)) (hM.recv E) mw_747 mw_744 mw_746 mw_18 mw_43 ⟨by decide, by decide, by decide +kernel⟩ ⟨rfl, rfl, Nat.le_of_ble_eq_true rfl, Nat.le_of_ble_eq_true rfl⟩ (n := 3) rfl hl.1 rfl (Nat.le_of_ble_eq_true rfl) dX5_raise_90 ⟨Nat.le_of_ble_eq_true rfl, Nat.le_of_ble_eq_true rfl⟩) hS (fun H locs hp9 hS hz => ?_)
          obtain ⟨f10, g10, hM, hR10, hz10⟩ := hp9
          rw [st_put_new] at hR10
          refine lv_iinc (v := nI (i + 1)) (lv' := [(4, .int (nI (i + 1))), (0, .ref (ad 1000020)), (1, .int (nI (a))), (2, .int (nI (b))), (3, .int (nI (k)))]) S.1 S.2.1 dX5_raise_93 hl (k := 4) rfl (mi_inc _) (by decide) rfl (fun ls hl => ?_)
          refine lv_goto (tgt := 68) S.1 S.2.1 dX5_raise_96 (by decide) ?_
          exact ih68 f10 g10 (i + 1) _ _ _ (by omega) (by omega) (by have h9 := hR10; rw [sp_ra_2 (by omega)] at h9; exact h9) (hz10.trans (hz1)) hM hS (lv_sub hl [1, 2, 3, 4, 0] rfl)
        · refine lv_iload_n S.1 S.2.1 dX5_raise_85 rfl (lv_at hl 3 rfl) ?_
          refine lv_goto (tgt := 90) S.1 S.2.1 dX5_raise_86 (by decide) ?_
          refine mi_cMv (mi_runV (P := mo_W D A ad cf0 f1 g1) (As := [.int (nI (a)), .int (nI (i)), .int (nI (k))]) (rest := []) S E hS hM (ad 1000020) (c_puts l D A (S0 := st_new S0 (sp_ra (sK S0 (sW S0)) a b k i)) hR1 ⟨(show sN S0 < sN S0 + 1 by omega), (show sN S0 + 1 ≤ 61 by omega)⟩ (by omega) (by omega) (by omega)) (hM.recv E) mw_747 mw_744 mw_746 mw_18 mw_43 ⟨by decide, by decide, by decide +kernel⟩ ⟨rfl, rfl, Nat.le_of_ble_eq_true rfl, Nat.le_of_ble_eq_true rfl⟩ (n := 3) rfl hl.1 rfl (Nat.le_of_ble_eq_true rfl) dX5_raise_90 ⟨Nat.le_of_ble_eq_true rfl, Nat.le_of_ble_eq_true rfl⟩) hS (fun H locs hp9 hS hz => ?_)
          obtain ⟨f11, g11, hM, hR11, hz11⟩ := hp9
          rw [st_put_new] at hR11
          refine lv_iinc (v := nI (i + 1)) (lv' := [(4, .int (nI (i + 1))), (0, .ref (ad 1000020)), (1, .int (nI (a))), (2, .int (nI (b))), (3, .int (nI (k)))]) S.1 S.2.1 dX5_raise_93 hl (k := 4) rfl (mi_inc _) (by decide) rfl (fun ls hl => ?_)
          refine lv_goto (tgt := 68) S.1 S.2.1 dX5_raise_96 (by decide) ?_
          exact ih68 f11 g11 (i + 1) _ _ _ (by omega) (by omega) (by have h9 := hR11; rw [sp_ra_1 (by omega)] at h9; exact h9) (hz11.trans (hz1)) hM hS (lv_sub hl [1, 2, 3, 4, 0] rfl)
  exact lp68 _ f7 g7 0 _ _ _ (Nat.lt_succ_self _) (by omega) (by rw [sp_ra_0]; exact hR7) (hz7.trans rfl) hM hS (lv_sub hl [1, 2, 3, 4, 0] rfl)
set_option maxHeartbeats 4000000 in
set_option maxRecDepth 100000 in
theorem c_mraise_1 (l : Launch) (D : va_G) (A : Nat → Prop) {ad : Nat → Nat} {cf0 : Nat → Option va_E} {f : Nat → Int32} {g : Nat → Nat → Int32} {S0 : sT} (hR : st_mo S0 f g) (hO : st_ok S0) {x y z : Int32} (h9 : ¬ (0 ≤ x.toInt ∧ x.toInt ≤ 15)) : mi_Mi l yX5_raise (Cond.code yX5_raise cX5_raise 5 (some Jvm.ClassFile.FieldType.int)) (mi_rm 2) D A (mo_W D A ad cf0 f g) [.ref (ad 1000020), .int (x), .int (y), .int (z)] 0 0 (fun r H => mo_W D A ad cf0 (upd f 0 (nI 1)) g H) := by
  refine mi_start (cc := cX5_raise) (nL := 5) (ret := (some Jvm.ClassFile.FieldType.int)) rfl (by decide) (Nat.le_of_ble_eq_true rfl) ?_
  intro p e s m below meth c ls S E hM hS hr hk hn hl
  have S : CallFix p m c cX5_raise 5 s _ ((Cond.code yX5_raise cX5_raise 5 (some Jvm.ClassFile.FieldType.int)) :: mi_G) RX5 := S
  have hl : lv_has ls 5 [(0, .ref (ad 1000020)), (1, .int (x)), (2, .int (y)), (3, .int (z))] := hl
  obtain ⟨⟨o1, o2, o3, o4, o5⟩, oP, oK, oD, oX, oC, oI⟩ := id hO
  refine lv_aload_n S.1 S.2.1 dX5_raise_0 rfl (lv_at hl 0 rfl) ?_
  refine lv_iload_n S.1 S.2.1 dX5_raise_1 rfl (lv_at hl 1 rfl) ?_
  refine mi_cR (mi_runS (P := mo_W D A ad cf0 f g) (As := [.int (x)]) (rest := [.ref (ad 1000020)]) S E hS hM (c_misColumn_n l D A (mo_W D A ad cf0 f g) (h9)) mw_733 mw_731 mw_732 mw_43 ⟨by decide, by decide, by decide +kernel⟩ ⟨rfl, rfl, Nat.le_of_ble_eq_true rfl, Nat.le_of_ble_eq_true rfl⟩ (n := 1) rfl hl.1 rfl (Nat.le_of_ble_eq_true rfl) dX5_raise_2 ⟨Nat.le_of_ble_eq_true rfl, Nat.le_of_ble_eq_true rfl⟩) (fun r9 e9 => ?_)
  subst e9
  refine mi_if_ne (tgt := 12) S (by omega) dX5_raise_5 (by decide) (fun c5_0 => by exfalso; omega) (fun c5_0 => ?_)
  refine lv_iconst (v := nI 1) S.1 S.2.1 dX5_raise_8 (by decide) ?_
  refine lv_goto (tgt := 49) S.1 S.2.1 dX5_raise_9 (by decide) ?_
  refine mo_p_44 S E hS hM dX5_raise_49 (fun H locs hM hS => ?_)
  refine lv_aload_n S.1 S.2.1 dX5_raise_52 rfl (lv_at hl 0 rfl) ?_
  refine mo_g_44 S E hM dX5_raise_53 ?_
  refine mi_top (v' := .int (nI (1))) (rfl) ?_
  refine mi_if_le (tgt := 61) S (by omega) dX5_raise_56 (by decide) (fun c56_2 => by exfalso; omega) (fun c56_2 => ?_)
  refine lv_iconst (v := nI 0) S.1 S.2.1 dX5_raise_59 (by decide) ?_
  exact mi_retMi S hr hk hS dX5_raise_60 (Nat.le_refl _) (Nat.le_refl _) (hM)
set_option maxHeartbeats 4000000 in
set_option maxRecDepth 100000 in
theorem c_mraise_2 (l : Launch) (D : va_G) (A : Nat → Prop) {ad : Nat → Nat} {cf0 : Nat → Option va_E} {f : Nat → Int32} {g : Nat → Nat → Int32} {S0 : sT} (hR : st_mo S0 f g) (hO : st_ok S0) {a : Nat} (ha : a < 16) {y z : Int32} (h9 : ¬ (0 ≤ y.toInt ∧ y.toInt ≤ 8)) : mi_Mi l yX5_raise (Cond.code yX5_raise cX5_raise 5 (some Jvm.ClassFile.FieldType.int)) (mi_rm 2) D A (mo_W D A ad cf0 f g) [.ref (ad 1000020), .int (nI (a)), .int (y), .int (z)] 0 0 (fun r H => mo_W D A ad cf0 (upd f 0 (nI 2)) g H) := by
  refine mi_start (cc := cX5_raise) (nL := 5) (ret := (some Jvm.ClassFile.FieldType.int)) rfl (by decide) (Nat.le_of_ble_eq_true rfl) ?_
  intro p e s m below meth c ls S E hM hS hr hk hn hl
  have S : CallFix p m c cX5_raise 5 s _ ((Cond.code yX5_raise cX5_raise 5 (some Jvm.ClassFile.FieldType.int)) :: mi_G) RX5 := S
  have hl : lv_has ls 5 [(0, .ref (ad 1000020)), (1, .int (nI (a))), (2, .int (y)), (3, .int (z))] := hl
  obtain ⟨⟨o1, o2, o3, o4, o5⟩, oP, oK, oD, oX, oC, oI⟩ := id hO
  refine lv_aload_n S.1 S.2.1 dX5_raise_0 rfl (lv_at hl 0 rfl) ?_
  refine lv_iload_n S.1 S.2.1 dX5_raise_1 rfl (lv_at hl 1 rfl) ?_
  refine mi_cR (mi_runS (P := mo_W D A ad cf0 f g) (As := [.int (nI (a))]) (rest := [.ref (ad 1000020)]) S E hS hM (c_misColumn_y l D A (mo_W D A ad cf0 f g) (by omega)) mw_733 mw_731 mw_732 mw_43 ⟨by decide, by decide, by decide +kernel⟩ ⟨rfl, rfl, Nat.le_of_ble_eq_true rfl, Nat.le_of_ble_eq_true rfl⟩ (n := 1) rfl hl.1 rfl (Nat.le_of_ble_eq_true rfl) dX5_raise_2 ⟨Nat.le_of_ble_eq_true rfl, Nat.le_of_ble_eq_true rfl⟩) (fun r9 e9 => ?_)
  subst e9
  refine mi_if_ne (tgt := 12) S (by omega) dX5_raise_5 (by decide) (fun c5_0 => ?_) (fun c5_0 => by exfalso; omega)
  refine lv_iload_n S.1 S.2.1 dX5_raise_12 rfl (lv_at hl 2 rfl) ?_
  refine lv_iconst (v := nI 0) S.1 S.2.1 dX5_raise_13 (by decide) ?_
  refine lv_bipush (v := nI 8) S.1 S.2.1 dX5_raise_14 (by decide) ?_
  refine mi_cR (mi_runS (P := mo_W D A ad cf0 f g) (As := [.int (y), .int (nI (0)), .int (nI (8))]) (rest := [.ref (ad 1000020)]) S E hS hM (c_in_n l D A (mo_W D A ad cf0 f g) (by skip; have := nI_toInt (n := 0) (by omega); have := nI_toInt (n := 8) (by omega); omega)) mw_736 mw_734 mw_735 mw_43 ⟨by decide, by decide, by decide +kernel⟩ ⟨rfl, rfl, Nat.le_of_ble_eq_true rfl, Nat.le_of_ble_eq_true rfl⟩ (n := 3) rfl hl.1 rfl (Nat.le_of_ble_eq_true rfl) dX5_raise_16 ⟨Nat.le_of_ble_eq_true rfl, Nat.le_of_ble_eq_true rfl⟩) (fun r9 e9 => ?_)
  subst e9
  refine mi_if_eq (tgt := 31) S (by omega) dX5_raise_19 (by decide) (fun c19_1 => ?_) (fun c19_1 => by exfalso; omega)
  refine lv_iconst (v := nI 2) S.1 S.2.1 dX5_raise_31 (by decide) ?_
  refine lv_goto (tgt := 49) S.1 S.2.1 dX5_raise_32 (by decide) ?_
  refine mo_p_44 S E hS hM dX5_raise_49 (fun H locs hM hS => ?_)
  refine lv_aload_n S.1 S.2.1 dX5_raise_52 rfl (lv_at hl 0 rfl) ?_
  refine mo_g_44 S E hM dX5_raise_53 ?_
  refine mi_top (v' := .int (nI (2))) (rfl) ?_
  refine mi_if_le (tgt := 61) S (by omega) dX5_raise_56 (by decide) (fun c56_3 => by exfalso; omega) (fun c56_3 => ?_)
  refine lv_iconst (v := nI 0) S.1 S.2.1 dX5_raise_59 (by decide) ?_
  exact mi_retMi S hr hk hS dX5_raise_60 (Nat.le_refl _) (Nat.le_refl _) (hM)
set_option maxHeartbeats 4000000 in
set_option maxRecDepth 100000 in
theorem c_mraise_3 (l : Launch) (D : va_G) (A : Nat → Prop) {ad : Nat → Nat} {cf0 : Nat → Option va_E} {f : Nat → Int32} {g : Nat → Nat → Int32} {S0 : sT} (hR : st_mo S0 f g) (hO : st_ok S0) {a b : Nat} (ha : a < 16) (hb : b ≤ 8) {z : Int32} (h9 : ¬ (1 ≤ z.toInt ∧ z.toInt ≤ 3)) : mi_Mi l yX5_raise (Cond.code yX5_raise cX5_raise 5 (some Jvm.ClassFile.FieldType.int)) (mi_rm 2) D A (mo_W D A ad cf0 f g) [.ref (ad 1000020), .int (nI (a)), .int (nI (b)), .int (z)] 0 0 (fun r H => mo_W D A ad cf0 (upd f 0 (nI 2)) g H) := by
  refine mi_start (cc := cX5_raise) (nL := 5) (ret := (some Jvm.ClassFile.FieldType.int)) rfl (by decide) (Nat.le_of_ble_eq_true rfl) ?_
  intro p e s m below meth c ls S E hM hS hr hk hn hl
  have S : CallFix p m c cX5_raise 5 s _ ((Cond.code yX5_raise cX5_raise 5 (some Jvm.ClassFile.FieldType.int)) :: mi_G) RX5 := S
  have hl : lv_has ls 5 [(0, .ref (ad 1000020)), (1, .int (nI (a))), (2, .int (nI (b))), (3, .int (z))] := hl
  obtain ⟨⟨o1, o2, o3, o4, o5⟩, oP, oK, oD, oX, oC, oI⟩ := id hO
  refine lv_aload_n S.1 S.2.1 dX5_raise_0 rfl (lv_at hl 0 rfl) ?_
  refine lv_iload_n S.1 S.2.1 dX5_raise_1 rfl (lv_at hl 1 rfl) ?_
  refine mi_cR (mi_runS (P := mo_W D A ad cf0 f g) (As := [.int (nI (a))]) (rest := [.ref (ad 1000020)]) S E hS hM (c_misColumn_y l D A (mo_W D A ad cf0 f g) (by omega)) mw_733 mw_731 mw_732 mw_43 ⟨by decide, by decide, by decide +kernel⟩ ⟨rfl, rfl, Nat.le_of_ble_eq_true rfl, Nat.le_of_ble_eq_true rfl⟩ (n := 1) rfl hl.1 rfl (Nat.le_of_ble_eq_true rfl) dX5_raise_2 ⟨Nat.le_of_ble_eq_true rfl, Nat.le_of_ble_eq_true rfl⟩) (fun r9 e9 => ?_)
  subst e9
  refine mi_if_ne (tgt := 12) S (by omega) dX5_raise_5 (by decide) (fun c5_0 => ?_) (fun c5_0 => by exfalso; omega)
  refine lv_iload_n S.1 S.2.1 dX5_raise_12 rfl (lv_at hl 2 rfl) ?_
  refine lv_iconst (v := nI 0) S.1 S.2.1 dX5_raise_13 (by decide) ?_
  refine lv_bipush (v := nI 8) S.1 S.2.1 dX5_raise_14 (by decide) ?_
  refine mi_cR (mi_runS (P := mo_W D A ad cf0 f g) (As := [.int (nI (b)), .int (nI (0)), .int (nI (8))]) (rest := [.ref (ad 1000020)]) S E hS hM (c_in_y l D A (mo_W D A ad cf0 f g) (by have := nI_toInt (n := b) (by omega); have := nI_toInt (n := 0) (by omega); have := nI_toInt (n := 8) (by omega); omega)) mw_736 mw_734 mw_735 mw_43 ⟨by decide, by decide, by decide +kernel⟩ ⟨rfl, rfl, Nat.le_of_ble_eq_true rfl, Nat.le_of_ble_eq_true rfl⟩ (n := 3) rfl hl.1 rfl (Nat.le_of_ble_eq_true rfl) dX5_raise_16 ⟨Nat.le_of_ble_eq_true rfl, Nat.le_of_ble_eq_true rfl⟩) (fun r9 e9 => ?_)
  subst e9
  refine mi_if_eq (tgt := 31) S (by omega) dX5_raise_19 (by decide) (fun c19_1 => by exfalso; omega) (fun c19_1 => ?_)
  refine lv_iload_n S.1 S.2.1 dX5_raise_22 rfl (lv_at hl 3 rfl) ?_
  refine lv_iconst (v := nI 1) S.1 S.2.1 dX5_raise_23 (by decide) ?_
  refine lv_iconst (v := nI 3) S.1 S.2.1 dX5_raise_24 (by decide) ?_
  refine mi_cR (mi_runS (P := mo_W D A ad cf0 f g) (As := [.int (z), .int (nI (1)), .int (nI (3))]) (rest := [.ref (ad 1000020)]) S E hS hM (c_in_n l D A (mo_W D A ad cf0 f g) (by skip; have := nI_toInt (n := 1) (by omega); have := nI_toInt (n := 3) (by omega); omega)) mw_736 mw_734 mw_735 mw_43 ⟨by decide, by decide, by decide +kernel⟩ ⟨rfl, rfl, Nat.le_of_ble_eq_true rfl, Nat.le_of_ble_eq_true rfl⟩ (n := 3) rfl hl.1 rfl (Nat.le_of_ble_eq_true rfl) dX5_raise_25 ⟨Nat.le_of_ble_eq_true rfl, Nat.le_of_ble_eq_true rfl⟩) (fun r9 e9 => ?_)
  subst e9
  refine mi_if_ne (tgt := 35) S (by omega) dX5_raise_28 (by decide) (fun c28_2 => by exfalso; omega) (fun c28_2 => ?_)
  refine lv_iconst (v := nI 2) S.1 S.2.1 dX5_raise_31 (by decide) ?_
  refine lv_goto (tgt := 49) S.1 S.2.1 dX5_raise_32 (by decide) ?_
  refine mo_p_44 S E hS hM dX5_raise_49 (fun H locs hM hS => ?_)
  refine lv_aload_n S.1 S.2.1 dX5_raise_52 rfl (lv_at hl 0 rfl) ?_
  refine mo_g_44 S E hM dX5_raise_53 ?_
  refine mi_top (v' := .int (nI (2))) (rfl) ?_
  refine mi_if_le (tgt := 61) S (by omega) dX5_raise_56 (by decide) (fun c56_4 => by exfalso; omega) (fun c56_4 => ?_)
  refine lv_iconst (v := nI 0) S.1 S.2.1 dX5_raise_59 (by decide) ?_
  exact mi_retMi S hr hk hS dX5_raise_60 (Nat.le_refl _) (Nat.le_refl _) (hM)
set_option maxHeartbeats 4000000 in
set_option maxRecDepth 100000 in
theorem c_mraise_4 (l : Launch) (D : va_G) (A : Nat → Prop) {ad : Nat → Nat} {cf0 : Nat → Option va_E} {f : Nat → Int32} {g : Nat → Nat → Int32} {S0 : sT} (hR : st_mo S0 f g) (hO : st_ok S0) {a b k : Nat} (ha : a < 16) (hb : b ≤ 8) (hk1 : 1 ≤ k) (hk4 : k < 4) (h61 : sN S0 = 61) : mi_Mi l yX5_raise (Cond.code yX5_raise cX5_raise 5 (some Jvm.ClassFile.FieldType.int)) (mi_rm 2) D A (mo_W D A ad cf0 f g) [.ref (ad 1000020), .int (nI (a)), .int (nI (b)), .int (nI (k))] 0 0 (fun r H => mo_W D A ad cf0 (upd f 0 (nI 3)) g H) := by
  refine mi_start (cc := cX5_raise) (nL := 5) (ret := (some Jvm.ClassFile.FieldType.int)) rfl (by decide) (Nat.le_of_ble_eq_true rfl) ?_
  intro p e s m below meth c ls S E hM hS hr hk hn hl
  have S : CallFix p m c cX5_raise 5 s _ ((Cond.code yX5_raise cX5_raise 5 (some Jvm.ClassFile.FieldType.int)) :: mi_G) RX5 := S
  have hl : lv_has ls 5 [(0, .ref (ad 1000020)), (1, .int (nI (a))), (2, .int (nI (b))), (3, .int (nI (k)))] := hl
  obtain ⟨⟨o1, o2, o3, o4, o5⟩, oP, oK, oD, oX, oC, oI⟩ := id hO
  refine lv_aload_n S.1 S.2.1 dX5_raise_0 rfl (lv_at hl 0 rfl) ?_
  refine lv_iload_n S.1 S.2.1 dX5_raise_1 rfl (lv_at hl 1 rfl) ?_
  refine mi_cR (mi_runS (P := mo_W D A ad cf0 f g) (As := [.int (nI (a))]) (rest := [.ref (ad 1000020)]) S E hS hM (c_misColumn_y l D A (mo_W D A ad cf0 f g) (by omega)) mw_733 mw_731 mw_732 mw_43 ⟨by decide, by decide, by decide +kernel⟩ ⟨rfl, rfl, Nat.le_of_ble_eq_true rfl, Nat.le_of_ble_eq_true rfl⟩ (n := 1) rfl hl.1 rfl (Nat.le_of_ble_eq_true rfl) dX5_raise_2 ⟨Nat.le_of_ble_eq_true rfl, Nat.le_of_ble_eq_true rfl⟩) (fun r9 e9 => ?_)
  subst e9
  refine mi_if_ne (tgt := 12) S (by omega) dX5_raise_5 (by decide) (fun c5_0 => ?_) (fun c5_0 => by exfalso; omega)
  refine lv_iload_n S.1 S.2.1 dX5_raise_12 rfl (lv_at hl 2 rfl) ?_
  refine lv_iconst (v := nI 0) S.1 S.2.1 dX5_raise_13 (by decide) ?_
  refine lv_bipush (v := nI 8) S.1 S.2.1 dX5_raise_14 (by decide) ?_
  refine mi_cR (mi_runS (P := mo_W D A ad cf0 f g) (As := [.int (nI (b)), .int (nI (0)), .int (nI (8))]) (rest := [.ref (ad 1000020)]) S E hS hM (c_in_y l D A (mo_W D A ad cf0 f g) (by have := nI_toInt (n := b) (by omega); have := nI_toInt (n := 0) (by omega); have := nI_toInt (n := 8) (by omega); omega)) mw_736 mw_734 mw_735 mw_43 ⟨by decide, by decide, by decide +kernel⟩ ⟨rfl, rfl, Nat.le_of_ble_eq_true rfl, Nat.le_of_ble_eq_true rfl⟩ (n := 3) rfl hl.1 rfl (Nat.le_of_ble_eq_true rfl) dX5_raise_16 ⟨Nat.le_of_ble_eq_true rfl, Nat.le_of_ble_eq_true rfl⟩) (fun r9 e9 => ?_)
  subst e9
  refine mi_if_eq (tgt := 31) S (by omega) dX5_raise_19 (by decide) (fun c19_1 => by exfalso; omega) (fun c19_1 => ?_)
  refine lv_iload_n S.1 S.2.1 dX5_raise_22 rfl (lv_at hl 3 rfl) ?_
  refine lv_iconst (v := nI 1) S.1 S.2.1 dX5_raise_23 (by decide) ?_
  refine lv_iconst (v := nI 3) S.1 S.2.1 dX5_raise_24 (by decide) ?_
  refine mi_cR (mi_runS (P := mo_W D A ad cf0 f g) (As := [.int (nI (k)), .int (nI (1)), .int (nI (3))]) (rest := [.ref (ad 1000020)]) S E hS hM (c_in_y l D A (mo_W D A ad cf0 f g) (by have := nI_toInt (n := k) (by omega); have := nI_toInt (n := 1) (by omega); have := nI_toInt (n := 3) (by omega); omega)) mw_736 mw_734 mw_735 mw_43 ⟨by decide, by decide, by decide +kernel⟩ ⟨rfl, rfl, Nat.le_of_ble_eq_true rfl, Nat.le_of_ble_eq_true rfl⟩ (n := 3) rfl hl.1 rfl (Nat.le_of_ble_eq_true rfl) dX5_raise_25 ⟨Nat.le_of_ble_eq_true rfl, Nat.le_of_ble_eq_true rfl⟩) (fun r9 e9 => ?_)
  subst e9
  refine mi_if_ne (tgt := 35) S (by omega) dX5_raise_28 (by decide) (fun c28_2 => ?_) (fun c28_2 => by exfalso; omega)
  refine lv_aload_n S.1 S.2.1 dX5_raise_35 rfl (lv_at hl 0 rfl) ?_
  refine mo_g_7 S E hM dX5_raise_36 ?_
  refine mi_top (v' := .int (nI (sN S0))) (congrArg Value.int hR.1.1) ?_
  refine lv_bipush (v := nI 61) S.1 S.2.1 dX5_raise_39 (by decide) ?_
  refine mi_icmp_ne (tgt := 48) S (by omega) (by omega) dX5_raise_41 (by decide) (fun c41_3 => by exfalso; omega) (fun c41_3 => ?_)
  refine lv_iconst (v := nI 3) S.1 S.2.1 dX5_raise_44 (by decide) ?_
  refine lv_goto (tgt := 49) S.1 S.2.1 dX5_raise_45 (by decide) ?_
  refine mo_p_44 S E hS hM dX5_raise_49 (fun H locs hM hS => ?_)
  refine lv_aload_n S.1 S.2.1 dX5_raise_52 rfl (lv_at hl 0 rfl) ?_
  refine mo_g_44 S E hM dX5_raise_53 ?_
  refine mi_top (v' := .int (nI (3))) (rfl) ?_
  refine mi_if_le (tgt := 61) S (by omega) dX5_raise_56 (by decide) (fun c56_5 => by exfalso; omega) (fun c56_5 => ?_)
  refine lv_iconst (v := nI 0) S.1 S.2.1 dX5_raise_59 (by decide) ?_
  exact mi_retMi S hr hk hS dX5_raise_60 (Nat.le_refl _) (Nat.le_refl _) (hM)
set_option maxHeartbeats 4000000 in
set_option maxRecDepth 100000 in
theorem c_mlayer (l : Launch) (D : va_G) (A : Nat → Prop) {ad : Nat → Nat} {cf0 : Nat → Option va_E} {f : Nat → Int32} {g : Nat → Nat → Int32} {S0 : sT} (hR : st_mo S0 f g) (hO : st_ok S0) {b k : Nat} (hb : b < 8) (hk4 : k < 4) (h61 : sN S0 < 61) : mi_Mi l yX5_layer (Cond.code yX5_layer cX5_layer 4 (some Jvm.ClassFile.FieldType.int)) (mi_rm 2) D A (mo_W D A ad cf0 f g) [.ref (ad 1000020), .int (nI (b)), .int (nI (k))] 0 0 (fun r H => r = nI (sN S0) ∧ ∃ f1 g1, mo_W D A ad cf0 f1 g1 H ∧ st_mo (st_new S0 (sp_la (sK S0 (sW S0)) b k 16)) f1 g1 ∧ f1 0 = nI 0) := by
  refine mi_start (cc := cX5_layer) (nL := 4) (ret := (some Jvm.ClassFile.FieldType.int)) rfl (by decide) (Nat.le_of_ble_eq_true rfl) ?_
  intro p e s m below meth c ls S E hM hS hr hk hn hl
  have S : CallFix p m c cX5_layer 4 s _ ((Cond.code yX5_layer cX5_layer 4 (some Jvm.ClassFile.FieldType.int)) :: mi_G) RX5 := S
  have hl : lv_has ls 4 [(0, .ref (ad 1000020)), (1, .int (nI (b))), (2, .int (nI (k)))] := hl
  obtain ⟨⟨o1, o2, o3, o4, o5⟩, oP, oK, oD, oX, oC, oI⟩ := id hO
  refine lv_aload_n S.1 S.2.1 dX5_layer_0 rfl (lv_at hl 0 rfl) ?_
  refine lv_iload_n S.1 S.2.1 dX5_layer_1 rfl (lv_at hl 1 rfl) ?_
  refine mi_cR (mi_runS (P := mo_W D A ad cf0 f g) (As := [.int (nI (b))]) (rest := [.ref (ad 1000020)]) S E hS hM (c_misLevel_y l D A (mo_W D A ad cf0 f g) (by omega)) mw_739 mw_737 mw_738 mw_43 ⟨by decide, by decide, by decide +kernel⟩ ⟨rfl, rfl, Nat.le_of_ble_eq_true rfl, Nat.le_of_ble_eq_true rfl⟩ (n := 1) rfl hl.1 rfl (Nat.le_of_ble_eq_true rfl) dX5_layer_2 ⟨Nat.le_of_ble_eq_true rfl, Nat.le_of_ble_eq_true rfl⟩) (fun r9 e9 => ?_)
  subst e9
  refine mi_if_ne (tgt := 12) S (by omega) dX5_layer_5 (by decide) (fun c5_0 => ?_) (fun c5_0 => by exfalso; omega)
  refine lv_iload_n S.1 S.2.1 dX5_layer_12 rfl (lv_at hl 2 rfl) ?_
  refine lv_iconst (v := nI 0) S.1 S.2.1 dX5_layer_13 (by decide) ?_
  refine lv_iconst (v := nI 3) S.1 S.2.1 dX5_layer_14 (by decide) ?_
  refine mi_cR (mi_runS (P := mo_W D A ad cf0 f g) (As := [.int (nI (k)), .int (nI (0)), .int (nI (3))]) (rest := [.ref (ad 1000020)]) S E hS hM (c_in_y l D A (mo_W D A ad cf0 f g) (by have := nI_toInt (n := k) (by omega); have := nI_toInt (n := 0) (by omega); have := nI_toInt (n := 3) (by omega); omega)) mw_736 mw_734 mw_735 mw_43 ⟨by decide, by decide, by decide +kernel⟩ ⟨rfl, rfl, Nat.le_of_ble_eq_true rfl, Nat.le_of_ble_eq_true rfl⟩ (n := 3) rfl hl.1 rfl (Nat.le_of_ble_eq_true rfl) dX5_layer_15 ⟨Nat.le_of_ble_eq_true rfl, Nat.le_of_ble_eq_true rfl⟩) (fun r9 e9 => ?_)
  subst e9
  refine mi_if_ne (tgt := 25) S (by omega) dX5_layer_18 (by decide) (fun c18_1 => ?_) (fun c18_1 => by exfalso; omega)
  refine lv_aload_n S.1 S.2.1 dX5_layer_25 rfl (lv_at hl 0 rfl) ?_
  refine mo_g_7 S E hM dX5_layer_26 ?_
  refine mi_top (v' := .int (nI (sN S0))) (congrArg Value.int hR.1.1) ?_
  refine lv_bipush (v := nI 61) S.1 S.2.1 dX5_layer_29 (by decide) ?_
  refine mi_icmp_ne (tgt := 38) S (by omega) (by omega) dX5_layer_31 (by decide) (fun c31_2 => ?_) (fun c31_2 => by exfalso; omega)
  refine lv_iconst (v := nI 0) S.1 S.2.1 dX5_layer_38 (by decide) ?_
  refine mo_p_44 S E hS hM dX5_layer_39 (fun H locs hM hS => ?_)
  refine lv_aload_n S.1 S.2.1 dX5_layer_42 rfl (lv_at hl 0 rfl) ?_
  refine mo_g_44 S E hM dX5_layer_43 ?_
  refine mi_top (v' := .int (nI (0))) (rfl) ?_
  refine mi_if_le (tgt := 51) S (by omega) dX5_layer_46 (by decide) (fun c46_4 => ?_) (fun c46_4 => by exfalso; omega)
  refine lv_aload_n S.1 S.2.1 dX5_layer_51 rfl (lv_at hl 0 rfl) ?_
  refine mi_cMv (mi_runV (P := mo_W D A ad cf0 (upd f 0 (nI (0))) g) (As := []) (rest := []) S E hS hM (ad 1000020) (c_grows l D A (st_mo_0 hR _) hO h61) (hM.recv E) mw_743 mw_740 mw_742 mw_17 mw_43 ⟨by decide, by decide, by decide +kernel⟩ ⟨rfl, rfl, Nat.le_of_ble_eq_true rfl, Nat.le_of_ble_eq_true rfl⟩ (n := 0) rfl hl.1 rfl (Nat.le_of_ble_eq_true rfl) dX5_layer_52 ⟨Nat.le_of_ble_eq_true rfl, Nat.le_of_ble_eq_true rfl⟩) hS (fun H locs hp9 hS hz => ?_)
  obtain ⟨f6, g6, hM, hR6, hz6⟩ := hp9
  refine lv_iconst (v := nI 0) S.1 S.2.1 dX5_layer_55 (by decide) ?_
  refine lv_istore_n (lv' := [(3, .int (nI (0))), (0, .ref (ad 1000020)), (1, .int (nI (b))), (2, .int (nI (k)))]) S.1 S.2.1 dX5_layer_56 rfl hl (by decide) rfl (fun ls hl => ?_)
  have lp57 : ∀ (n57 : Nat) (f1 : Nat → Int32) (g1 : Nat → Nat → Int32) (i : Nat) (H : Heap) (locs : List Loc) (ls : Array Slot), 16 - i < n57 → i ≤ 16 → st_mo (st_new S0 (sp_la (sK S0 (sW S0)) b k i)) f1 g1 → f1 0 = nI 0 → mo_W D A ad cf0 f1 g1 H → va_S A s.heap H locs → lv_has ls 4 [(0, .ref (ad 1000020)), (1, .int (nI (b))), (2, .int (nI (k))), (3, .int (nI (i)))] → W p l e (mi_rm 2) s m ([.ref (ad 1000020), .int (nI (b)), .int (nI (k))] : List Value).toArray below meth c H locs 0 0 (MQ below (mi_Qi A (fun r H => r = nI (sN S0) ∧ ∃ f1 g1, mo_W D A ad cf0 f1 g1 H ∧ st_mo (st_new S0 (sp_la (sK S0 (sW S0)) b k 16)) f1 g1 ∧ f1 0 = nI 0)) ([.ref (ad 1000020), .int (nI (b)), .int (nI (k))] : List Value).toArray s 0 0 A) (F0 m 57 ls []) := by
    intro n57
    induction n57 with
    | zero => intro f1 g1 i H locs ls hm hi hR1 hz1 hM hS hl; exact absurd hm (Nat.not_lt_zero _)
    | succ n57 ih57 =>
      intro f1 g1 i H locs ls hm hi hR1 hz1 hM hS hl
      refine lv_iload_n S.1 S.2.1 dX5_layer_57 rfl (lv_at hl 3 rfl) ?_
      refine lv_bipush (v := nI 16) S.1 S.2.1 dX5_layer_58 (by decide) ?_
      refine mi_icmp_ge (tgt := 76) S (by omega) (by omega) dX5_layer_60 (by decide) (fun c60_6 => ?_) (fun c60_6 => ?_)
      · refine lv_aload_n S.1 S.2.1 dX5_layer_76 rfl (lv_at hl 0 rfl) ?_
        refine mo_g_51 S E hM dX5_layer_77 ?_
        refine mi_top (v' := .int (nI (sN S0))) (congrArg Value.int hR1.1.2.1) ?_
        exact mi_retMi S hr hk hS dX5_layer_80 (Nat.le_refl _) (Nat.le_refl _) ⟨rfl, f1, g1, hM, (by rw [show i = 16 by omega] at hR1; exact hR1), hz1⟩
      · refine lv_aload_n S.1 S.2.1 dX5_layer_63 rfl (lv_at hl 0 rfl) ?_
        refine lv_iload_n S.1 S.2.1 dX5_layer_64 rfl (lv_at hl 3 rfl) ?_
        refine lv_iload_n S.1 S.2.1 dX5_layer_65 rfl (lv_at hl 1 rfl) ?_
        refine lv_iload_n S.1 S.2.1 dX5_layer_66 rfl (lv_at hl 2 rfl) ?_
        refine mi_cMv (mi_runV (P := mo_W D A ad cf0 f1 g1) (As := [.int (nI (i)), .int (nI (b)), .int (nI (k))]) (rest := []) S E hS hM (ad 1000020) (c_puts l D A (S0 := st_new S0 (sp_la (sK S0 (sW S0)) b k i)) hR1 ⟨(show sN S0 < sN S0 + 1 by omega), (show sN S0 + 1 ≤ 61 by omega)⟩ (by omega) (by omega) (by omega)) (hM.recv E) mw_747 mw_744 mw_746 mw_18 mw_43 ⟨by decide, by decide, by decide +kernel⟩ ⟨rfl, rfl, Nat.le_of_ble_eq_true rfl, Nat.le_of_ble_eq_true rfl⟩ (n := 3) rfl hl.1 rfl (Nat.le_of_ble_eq_true rfl) dX5_layer_67 ⟨Nat.le_of_ble_eq_true rfl, Nat.le_of_ble_eq_true rfl⟩) hS (fun H locs hp9 hS hz => ?_)
        obtain ⟨f8, g8, hM, hR8, hz8⟩ := hp9
        rw [st_put_new] at hR8
        refine lv_iinc (v := nI (i + 1)) (lv' := [(3, .int (nI (i + 1))), (0, .ref (ad 1000020)), (1, .int (nI (b))), (2, .int (nI (k)))]) S.1 S.2.1 dX5_layer_70 hl (k := 3) rfl (mi_inc _) (by decide) rfl (fun ls hl => ?_)
        refine lv_goto (tgt := 57) S.1 S.2.1 dX5_layer_73 (by decide) ?_
        exact ih57 f8 g8 (i + 1) _ _ _ (by omega) (by omega) (by have h9 := hR8; rw [sp_la_1 (by omega)] at h9; exact h9) (hz8.trans (hz1)) hM hS (lv_sub hl [1, 2, 3, 0] rfl)
  exact lp57 _ f6 g6 0 _ _ _ (Nat.lt_succ_self _) (by omega) (by rw [sp_la_0]; exact hR6) (hz6.trans rfl) hM hS (lv_sub hl [1, 2, 3, 0] rfl)
set_option maxHeartbeats 4000000 in
set_option maxRecDepth 100000 in
theorem c_mlayer_1 (l : Launch) (D : va_G) (A : Nat → Prop) {ad : Nat → Nat} {cf0 : Nat → Option va_E} {f : Nat → Int32} {g : Nat → Nat → Int32} {S0 : sT} (hR : st_mo S0 f g) (hO : st_ok S0) {x y : Int32} (h9 : ¬ (0 ≤ x.toInt ∧ x.toInt ≤ 7)) : mi_Mi l yX5_layer (Cond.code yX5_layer cX5_layer 4 (some Jvm.ClassFile.FieldType.int)) (mi_rm 2) D A (mo_W D A ad cf0 f g) [.ref (ad 1000020), .int (x), .int (y)] 0 0 (fun r H => mo_W D A ad cf0 (upd f 0 (nI 1)) g H) := by
  refine mi_start (cc := cX5_layer) (nL := 4) (ret := (some Jvm.ClassFile.FieldType.int)) rfl (by decide) (Nat.le_of_ble_eq_true rfl) ?_
  intro p e s m below meth c ls S E hM hS hr hk hn hl
  have S : CallFix p m c cX5_layer 4 s _ ((Cond.code yX5_layer cX5_layer 4 (some Jvm.ClassFile.FieldType.int)) :: mi_G) RX5 := S
  have hl : lv_has ls 4 [(0, .ref (ad 1000020)), (1, .int (x)), (2, .int (y))] := hl
  obtain ⟨⟨o1, o2, o3, o4, o5⟩, oP, oK, oD, oX, oC, oI⟩ := id hO
  refine lv_aload_n S.1 S.2.1 dX5_layer_0 rfl (lv_at hl 0 rfl) ?_
  refine lv_iload_n S.1 S.2.1 dX5_layer_1 rfl (lv_at hl 1 rfl) ?_
  refine mi_cR (mi_runS (P := mo_W D A ad cf0 f g) (As := [.int (x)]) (rest := [.ref (ad 1000020)]) S E hS hM (c_misLevel_n l D A (mo_W D A ad cf0 f g) (h9)) mw_739 mw_737 mw_738 mw_43 ⟨by decide, by decide, by decide +kernel⟩ ⟨rfl, rfl, Nat.le_of_ble_eq_true rfl, Nat.le_of_ble_eq_true rfl⟩ (n := 1) rfl hl.1 rfl (Nat.le_of_ble_eq_true rfl) dX5_layer_2 ⟨Nat.le_of_ble_eq_true rfl, Nat.le_of_ble_eq_true rfl⟩) (fun r9 e9 => ?_)
  subst e9
  refine mi_if_ne (tgt := 12) S (by omega) dX5_layer_5 (by decide) (fun c5_0 => by exfalso; omega) (fun c5_0 => ?_)
  refine lv_iconst (v := nI 1) S.1 S.2.1 dX5_layer_8 (by decide) ?_
  refine lv_goto (tgt := 39) S.1 S.2.1 dX5_layer_9 (by decide) ?_
  refine mo_p_44 S E hS hM dX5_layer_39 (fun H locs hM hS => ?_)
  refine lv_aload_n S.1 S.2.1 dX5_layer_42 rfl (lv_at hl 0 rfl) ?_
  refine mo_g_44 S E hM dX5_layer_43 ?_
  refine mi_top (v' := .int (nI (1))) (rfl) ?_
  refine mi_if_le (tgt := 51) S (by omega) dX5_layer_46 (by decide) (fun c46_2 => by exfalso; omega) (fun c46_2 => ?_)
  refine lv_iconst (v := nI 0) S.1 S.2.1 dX5_layer_49 (by decide) ?_
  exact mi_retMi S hr hk hS dX5_layer_50 (Nat.le_refl _) (Nat.le_refl _) (hM)
set_option maxHeartbeats 4000000 in
set_option maxRecDepth 100000 in
theorem c_mlayer_2 (l : Launch) (D : va_G) (A : Nat → Prop) {ad : Nat → Nat} {cf0 : Nat → Option va_E} {f : Nat → Int32} {g : Nat → Nat → Int32} {S0 : sT} (hR : st_mo S0 f g) (hO : st_ok S0) {b : Nat} (hb : b < 8) {z : Int32} (h9 : ¬ (0 ≤ z.toInt ∧ z.toInt ≤ 3)) : mi_Mi l yX5_layer (Cond.code yX5_layer cX5_layer 4 (some Jvm.ClassFile.FieldType.int)) (mi_rm 2) D A (mo_W D A ad cf0 f g) [.ref (ad 1000020), .int (nI (b)), .int (z)] 0 0 (fun r H => mo_W D A ad cf0 (upd f 0 (nI 2)) g H) := by
  refine mi_start (cc := cX5_layer) (nL := 4) (ret := (some Jvm.ClassFile.FieldType.int)) rfl (by decide) (Nat.le_of_ble_eq_true rfl) ?_
  intro p e s m below meth c ls S E hM hS hr hk hn hl
  have S : CallFix p m c cX5_layer 4 s _ ((Cond.code yX5_layer cX5_layer 4 (some Jvm.ClassFile.FieldType.int)) :: mi_G) RX5 := S
  have hl : lv_has ls 4 [(0, .ref (ad 1000020)), (1, .int (nI (b))), (2, .int (z))] := hl
  obtain ⟨⟨o1, o2, o3, o4, o5⟩, oP, oK, oD, oX, oC, oI⟩ := id hO
  refine lv_aload_n S.1 S.2.1 dX5_layer_0 rfl (lv_at hl 0 rfl) ?_
  refine lv_iload_n S.1 S.2.1 dX5_layer_1 rfl (lv_at hl 1 rfl) ?_
  refine mi_cR (mi_runS (P := mo_W D A ad cf0 f g) (As := [.int (nI (b))]) (rest := [.ref (ad 1000020)]) S E hS hM (c_misLevel_y l D A (mo_W D A ad cf0 f g) (by omega)) mw_739 mw_737 mw_738 mw_43 ⟨by decide, by decide, by decide +kernel⟩ ⟨rfl, rfl, Nat.le_of_ble_eq_true rfl, Nat.le_of_ble_eq_true rfl⟩ (n := 1) rfl hl.1 rfl (Nat.le_of_ble_eq_true rfl) dX5_layer_2 ⟨Nat.le_of_ble_eq_true rfl, Nat.le_of_ble_eq_true rfl⟩) (fun r9 e9 => ?_)
  subst e9
  refine mi_if_ne (tgt := 12) S (by omega) dX5_layer_5 (by decide) (fun c5_0 => ?_) (fun c5_0 => by exfalso; omega)
  refine lv_iload_n S.1 S.2.1 dX5_layer_12 rfl (lv_at hl 2 rfl) ?_
  refine lv_iconst (v := nI 0) S.1 S.2.1 dX5_layer_13 (by decide) ?_
  refine lv_iconst (v := nI 3) S.1 S.2.1 dX5_layer_14 (by decide) ?_
  refine mi_cR (mi_runS (P := mo_W D A ad cf0 f g) (As := [.int (z), .int (nI (0)), .int (nI (3))]) (rest := [.ref (ad 1000020)]) S E hS hM (c_in_n l D A (mo_W D A ad cf0 f g) (by skip; have := nI_toInt (n := 0) (by omega); have := nI_toInt (n := 3) (by omega); omega)) mw_736 mw_734 mw_735 mw_43 ⟨by decide, by decide, by decide +kernel⟩ ⟨rfl, rfl, Nat.le_of_ble_eq_true rfl, Nat.le_of_ble_eq_true rfl⟩ (n := 3) rfl hl.1 rfl (Nat.le_of_ble_eq_true rfl) dX5_layer_15 ⟨Nat.le_of_ble_eq_true rfl, Nat.le_of_ble_eq_true rfl⟩) (fun r9 e9 => ?_)
  subst e9
  refine mi_if_ne (tgt := 25) S (by omega) dX5_layer_18 (by decide) (fun c18_1 => by exfalso; omega) (fun c18_1 => ?_)
  refine lv_iconst (v := nI 2) S.1 S.2.1 dX5_layer_21 (by decide) ?_
  refine lv_goto (tgt := 39) S.1 S.2.1 dX5_layer_22 (by decide) ?_
  refine mo_p_44 S E hS hM dX5_layer_39 (fun H locs hM hS => ?_)
  refine lv_aload_n S.1 S.2.1 dX5_layer_42 rfl (lv_at hl 0 rfl) ?_
  refine mo_g_44 S E hM dX5_layer_43 ?_
  refine mi_top (v' := .int (nI (2))) (rfl) ?_
  refine mi_if_le (tgt := 51) S (by omega) dX5_layer_46 (by decide) (fun c46_3 => by exfalso; omega) (fun c46_3 => ?_)
  refine lv_iconst (v := nI 0) S.1 S.2.1 dX5_layer_49 (by decide) ?_
  exact mi_retMi S hr hk hS dX5_layer_50 (Nat.le_refl _) (Nat.le_refl _) (hM)
set_option maxHeartbeats 4000000 in
set_option maxRecDepth 100000 in
theorem c_mlayer_3 (l : Launch) (D : va_G) (A : Nat → Prop) {ad : Nat → Nat} {cf0 : Nat → Option va_E} {f : Nat → Int32} {g : Nat → Nat → Int32} {S0 : sT} (hR : st_mo S0 f g) (hO : st_ok S0) {b k : Nat} (hb : b < 8) (hk4 : k < 4) (h61 : sN S0 = 61) : mi_Mi l yX5_layer (Cond.code yX5_layer cX5_layer 4 (some Jvm.ClassFile.FieldType.int)) (mi_rm 2) D A (mo_W D A ad cf0 f g) [.ref (ad 1000020), .int (nI (b)), .int (nI (k))] 0 0 (fun r H => mo_W D A ad cf0 (upd f 0 (nI 3)) g H) := by
  refine mi_start (cc := cX5_layer) (nL := 4) (ret := (some Jvm.ClassFile.FieldType.int)) rfl (by decide) (Nat.le_of_ble_eq_true rfl) ?_
  intro p e s m below meth c ls S E hM hS hr hk hn hl
  have S : CallFix p m c cX5_layer 4 s _ ((Cond.code yX5_layer cX5_layer 4 (some Jvm.ClassFile.FieldType.int)) :: mi_G) RX5 := S
  have hl : lv_has ls 4 [(0, .ref (ad 1000020)), (1, .int (nI (b))), (2, .int (nI (k)))] := hl
  obtain ⟨⟨o1, o2, o3, o4, o5⟩, oP, oK, oD, oX, oC, oI⟩ := id hO
  refine lv_aload_n S.1 S.2.1 dX5_layer_0 rfl (lv_at hl 0 rfl) ?_
  refine lv_iload_n S.1 S.2.1 dX5_layer_1 rfl (lv_at hl 1 rfl) ?_
  refine mi_cR (mi_runS (P := mo_W D A ad cf0 f g) (As := [.int (nI (b))]) (rest := [.ref (ad 1000020)]) S E hS hM (c_misLevel_y l D A (mo_W D A ad cf0 f g) (by omega)) mw_739 mw_737 mw_738 mw_43 ⟨by decide, by decide, by decide +kernel⟩ ⟨rfl, rfl, Nat.le_of_ble_eq_true rfl, Nat.le_of_ble_eq_true rfl⟩ (n := 1) rfl hl.1 rfl (Nat.le_of_ble_eq_true rfl) dX5_layer_2 ⟨Nat.le_of_ble_eq_true rfl, Nat.le_of_ble_eq_true rfl⟩) (fun r9 e9 => ?_)
  subst e9
  refine mi_if_ne (tgt := 12) S (by omega) dX5_layer_5 (by decide) (fun c5_0 => ?_) (fun c5_0 => by exfalso; omega)
  refine lv_iload_n S.1 S.2.1 dX5_layer_12 rfl (lv_at hl 2 rfl) ?_
  refine lv_iconst (v := nI 0) S.1 S.2.1 dX5_layer_13 (by decide) ?_
  refine lv_iconst (v := nI 3) S.1 S.2.1 dX5_layer_14 (by decide) ?_
  refine mi_cR (mi_runS (P := mo_W D A ad cf0 f g) (As := [.int (nI (k)), .int (nI (0)), .int (nI (3))]) (rest := [.ref (ad 1000020)]) S E hS hM (c_in_y l D A (mo_W D A ad cf0 f g) (by have := nI_toInt (n := k) (by omega); have := nI_toInt (n := 0) (by omega); have := nI_toInt (n := 3) (by omega); omega)) mw_736 mw_734 mw_735 mw_43 ⟨by decide, by decide, by decide +kernel⟩ ⟨rfl, rfl, Nat.le_of_ble_eq_true rfl, Nat.le_of_ble_eq_true rfl⟩ (n := 3) rfl hl.1 rfl (Nat.le_of_ble_eq_true rfl) dX5_layer_15 ⟨Nat.le_of_ble_eq_true rfl, Nat.le_of_ble_eq_true rfl⟩) (fun r9 e9 => ?_)
  subst e9
  refine mi_if_ne (tgt := 25) S (by omega) dX5_layer_18 (by decide) (fun c18_1 => ?_) (fun c18_1 => by exfalso; omega)
  refine lv_aload_n S.1 S.2.1 dX5_layer_25 rfl (lv_at hl 0 rfl) ?_
  refine mo_g_7 S E hM dX5_layer_26 ?_
  refine mi_top (v' := .int (nI (sN S0))) (congrArg Value.int hR.1.1) ?_
  refine lv_bipush (v := nI 61) S.1 S.2.1 dX5_layer_29 (by decide) ?_
  refine mi_icmp_ne (tgt := 38) S (by omega) (by omega) dX5_layer_31 (by decide) (fun c31_2 => by exfalso; omega) (fun c31_2 => ?_)
  refine lv_iconst (v := nI 3) S.1 S.2.1 dX5_layer_34 (by decide) ?_
  refine lv_goto (tgt := 39) S.1 S.2.1 dX5_layer_35 (by decide) ?_
  refine mo_p_44 S E hS hM dX5_layer_39 (fun H locs hM hS => ?_)
  refine lv_aload_n S.1 S.2.1 dX5_layer_42 rfl (lv_at hl 0 rfl) ?_
  refine mo_g_44 S E hM dX5_layer_43 ?_
  refine mi_top (v' := .int (nI (3))) (rfl) ?_
  refine mi_if_le (tgt := 51) S (by omega) dX5_layer_46 (by decide) (fun c46_4 => by exfalso; omega) (fun c46_4 => ?_)
  refine lv_iconst (v := nI 0) S.1 S.2.1 dX5_layer_49 (by decide) ?_
  exact mi_retMi S hr hk hS dX5_layer_50 (Nat.le_refl _) (Nat.le_refl _) (hM)
