/-! the reference's changes of blocks -/
theorem mi_up_fn {α : Type} (f : Nat → α) (k : Nat) : va_up f k (f k) = f := by
  funext j
  by_cases h : j = k
  · subst h
    rw [mi_up_s]
  · rw [mi_up_n h]
set_option maxHeartbeats 4000000 in
set_option maxRecDepth 100000 in
theorem c_grows (l : Launch) (D : va_G) (A : Nat → Prop) {ad : Nat → Nat} {cf0 : Nat → Option va_E} {f : Nat → Int32} {g : Nat → Nat → Int32} {S0 : sT} (hR : st_mo S0 f g) (hO : st_ok S0) (h61 : sN S0 < 61) : mi_Mv l yX5_grows (Cond.code yX5_grows cX5_grows 2 none) (mi_rm 0) D A (mo_W D A ad cf0 f g) [.ref (ad 1000020)] 0 0 (fun H => ∃ f1 g1, mo_W D A ad cf0 f1 g1 H ∧ st_mo (st_new S0 (sK S0 (sW S0))) f1 g1 ∧ f1 0 = f 0) := by
  refine mi_start (cc := cX5_grows) (nL := 2) (ret := none) rfl (by decide) (Nat.le_of_ble_eq_true rfl) ?_
  intro p e s m below meth c ls S E hM hS hr hk hn hl
  have S : CallFix p m c cX5_grows 2 s _ ((Cond.code yX5_grows cX5_grows 2 none) :: mi_G) RX5 := S
  have hl : lv_has ls 2 [(0, .ref (ad 1000020))] := hl
  obtain ⟨⟨o1, o2, o3, o4, o5⟩, oP, oK, oD, oX, oC, oI⟩ := id hO
  refine lv_iconst (v := nI 0) S.1 S.2.1 dX5_grows_0 (by decide) ?_
  refine lv_istore_n (lv' := [(1, .int (nI (0))), (0, .ref (ad 1000020))]) S.1 S.2.1 dX5_grows_1 rfl hl (by decide) rfl (fun ls hl => ?_)
  have lp2 : ∀ (n2 : Nat) (i : Nat) (H : Heap) (locs : List Loc) (ls : Array Slot), 16 - i < n2 → i ≤ 16 → mo_W D A ad cf0 f (va_up g 4 (mo_gr (g 4) (sN S0) (sW S0) i)) H → va_S A s.heap H locs → lv_has ls 2 [(0, .ref (ad 1000020)), (1, .int (nI (i)))] → W p l e (mi_rm 0) s m ([.ref (ad 1000020)] : List Value).toArray below meth c H locs 0 0 (MQ below (mi_Qv A (fun H => ∃ f1 g1, mo_W D A ad cf0 f1 g1 H ∧ st_mo (st_new S0 (sK S0 (sW S0))) f1 g1 ∧ f1 0 = f 0)) ([.ref (ad 1000020)] : List Value).toArray s 0 0 A) (F0 m 2 ls []) := by
    intro n2
    induction n2 with
    | zero => intro i H locs ls hm hi hM hS hl; exact absurd hm (Nat.not_lt_zero _)
    | succ n2 ih2 =>
      intro i H locs ls hm hi hM hS hl
      refine lv_iload_n S.1 S.2.1 dX5_grows_2 rfl (lv_at hl 1 rfl) ?_
      refine lv_bipush (v := nI 16) S.1 S.2.1 dX5_grows_3 (by decide) ?_
      refine mi_icmp_ge (tgt := 42) S (by omega) (by omega) dX5_grows_5 (by decide) (fun c5_0 => ?_) (fun c5_0 => ?_)
      · refine lv_aload_n S.1 S.2.1 dX5_grows_42 rfl (lv_at hl 0 rfl) ?_
        refine mo_g_13 S E hM dX5_grows_43 ?_
        refine lv_aload_n S.1 S.2.1 dX5_grows_46 rfl (lv_at hl 0 rfl) ?_
        refine mo_g_7 S E hM dX5_grows_47 ?_
        refine mi_top (v' := .int (nI (sN S0))) (congrArg Value.int hR.1.1) ?_
        refine lv_aload_n S.1 S.2.1 dX5_grows_50 rfl (lv_at hl 0 rfl) ?_
        refine mo_g_51 S E hM dX5_grows_51 ?_
        refine mi_top (v' := .int (nI (sW S0))) (congrArg Value.int hR.1.2.1) ?_
        refine mo_ast 3 S E hS hM rfl (by show _ < 61; omega) dX5_grows_54 (fun H locs hM hS => ?_)
        refine lv_aload_n S.1 S.2.1 dX5_grows_55 rfl (lv_at hl 0 rfl) ?_
        refine lv_aload_n S.1 S.2.1 dX5_grows_56 rfl (lv_at hl 0 rfl) ?_
        refine mo_g_7 S E hM dX5_grows_57 ?_
        refine mi_top (v' := .int (nI (sN S0))) (congrArg Value.int hR.1.1) ?_
        refine mo_p_51 S E hS hM dX5_grows_60 (fun H locs hM hS => ?_)
        refine lv_aload_n S.1 S.2.1 dX5_grows_63 rfl (lv_at hl 0 rfl) ?_
        refine lv_dup S.1 S.2.1 dX5_grows_64 rfl ?_
        refine mo_g_7 S E hM dX5_grows_65 ?_
        refine mi_top (v' := .int (nI (sN S0))) (congrArg Value.int hR.1.1) ?_
        refine lv_iconst (v := nI 1) S.1 S.2.1 dX5_grows_68 (by decide) ?_
        refine mi_iadd S dX5_grows_69 ?_
        refine mo_p_7 S E hS hM dX5_grows_70 (fun H locs hM hS => ?_)
        skip
        exact mi_retMv S hr hk hS dX5_grows_73 (Nat.le_refl _) (Nat.le_refl _) ⟨_, _, hM, (show st_mo (st_new S0 (sK S0 (sW S0))) _ _ from by rw [mi_up_n (show (3 : Nat) ≠ 4 by decide), show i = 16 from by omega]; exact st_mo_grow hR hO), rfl⟩
      · refine lv_aload_n S.1 S.2.1 dX5_grows_8 rfl (lv_at hl 0 rfl) ?_
        refine mo_g_17 S E hM dX5_grows_9 ?_
        refine lv_bipush (v := nI 16) S.1 S.2.1 dX5_grows_12 (by decide) ?_
        refine lv_aload_n S.1 S.2.1 dX5_grows_14 rfl (lv_at hl 0 rfl) ?_
        refine mo_g_7 S E hM dX5_grows_15 ?_
        refine mi_top (v' := .int (nI (sN S0))) (congrArg Value.int hR.1.1) ?_
        refine mi_imul S dX5_grows_18 ?_
        refine lv_iload_n S.1 S.2.1 dX5_grows_19 rfl (lv_at hl 1 rfl) ?_
        refine mi_iadd S dX5_grows_20 ?_
        refine lv_aload_n S.1 S.2.1 dX5_grows_21 rfl (lv_at hl 0 rfl) ?_
        refine mo_g_17 S E hM dX5_grows_22 ?_
        refine lv_bipush (v := nI 16) S.1 S.2.1 dX5_grows_25 (by decide) ?_
        refine lv_aload_n S.1 S.2.1 dX5_grows_27 rfl (lv_at hl 0 rfl) ?_
        refine mo_g_51 S E hM dX5_grows_28 ?_
        refine mi_top (v' := .int (nI (sW S0))) (congrArg Value.int hR.1.2.1) ?_
        refine mi_imul S dX5_grows_31 ?_
        refine lv_iload_n S.1 S.2.1 dX5_grows_32 rfl (lv_at hl 1 rfl) ?_
        refine mi_iadd S dX5_grows_33 ?_
        refine mo_ald 4 S E hM rfl (by show _ < 976; omega) dX5_grows_34 ?_
        refine mi_top (v' := .int (mo_gr (g 4) (sN S0) (sW S0) i (16 * sW S0 + i))) (congrArg Value.int (congrFun mi_up_s _)) ?_
        refine mo_ast 4 S E hS hM rfl (by show _ < 976; omega) dX5_grows_35 (fun H locs hM hS => ?_)
        refine lv_iinc (v := nI (i + 1)) (lv' := [(1, .int (nI (i + 1))), (0, .ref (ad 1000020))]) S.1 S.2.1 dX5_grows_36 hl (k := 1) rfl (mi_inc _) (by decide) rfl (fun ls hl => ?_)
        refine lv_goto (tgt := 2) S.1 S.2.1 dX5_grows_39 (by decide) ?_
        exact ih2 (i + 1) _ _ _ (by omega) (by omega) (by rw [mi_up_s, mi_up_up, mo_gr_step o3 (by omega)] at hM; exact hM) hS (lv_sub hl [1, 0] rfl)
  exact lp2 _ 0 _ _ _ (Nat.lt_succ_self _) (by omega) (by rw [mo_gr_0, mi_up_fn]; exact hM) hS (lv_sub hl [1, 0] rfl)
set_option maxHeartbeats 4000000 in
set_option maxRecDepth 100000 in
theorem c_puts (l : Launch) (D : va_G) (A : Nat → Prop) {ad : Nat → Nat} {cf0 : Nat → Option va_E} {f : Nat → Int32} {g : Nat → Nat → Int32} {S0 : sT} (hR : st_mo S0 f g) (hO : sW S0 < sN S0 ∧ sN S0 ≤ 61) {a b k : Nat} (ha : a < 16) (hb : b < 8) (hk4 : k < 4) : mi_Mv l yX5_puts (Cond.code yX5_puts cX5_puts 5 none) (mi_rm 0) D A (mo_W D A ad cf0 f g) [.ref (ad 1000020), .int (nI (a)), .int (nI (b)), .int (nI (k))] 0 0 (fun H => ∃ f1 g1, mo_W D A ad cf0 f1 g1 H ∧ st_mo (st_put S0 (8 * a + b) k) f1 g1 ∧ f1 0 = f 0) := by
  refine mi_start (cc := cX5_puts) (nL := 5) (ret := none) rfl (by decide) (Nat.le_of_ble_eq_true rfl) ?_
  intro p e s m below meth c ls S E hM hS hr hk hn hl
  have S : CallFix p m c cX5_puts 5 s _ ((Cond.code yX5_puts cX5_puts 5 none) :: mi_G) RX5 := S
  have hl : lv_has ls 5 [(0, .ref (ad 1000020)), (1, .int (nI (a))), (2, .int (nI (b))), (3, .int (nI (k)))] := hl
  refine lv_bipush (v := nI 16) S.1 S.2.1 dX5_puts_0 (by decide) ?_
  refine lv_aload_n S.1 S.2.1 dX5_puts_2 rfl (lv_at hl 0 rfl) ?_
  refine mo_g_51 S E hM dX5_puts_3 ?_
  refine mi_top (v' := .int (nI (sW S0))) (congrArg Value.int hR.1.2.1) ?_
  refine mi_imul S dX5_puts_6 ?_
  refine lv_iload_n S.1 S.2.1 dX5_puts_7 rfl (lv_at hl 1 rfl) ?_
  refine mi_iadd S dX5_puts_8 ?_
  refine lv_istore (lv' := [(4, .int (nI ((16 * (sW S0)) + a))), (0, .ref (ad 1000020)), (1, .int (nI (a))), (2, .int (nI (b))), (3, .int (nI (k)))]) S.1 S.2.1 dX5_puts_9 hl (by decide) rfl (fun ls hl => ?_)
  refine lv_aload_n S.1 S.2.1 dX5_puts_11 rfl (lv_at hl 1 rfl) ?_
  refine mo_g_17 S E hM dX5_puts_12 ?_
  refine lv_iload S.1 S.2.1 dX5_puts_15 (lv_at hl 0 rfl) ?_
  refine lv_aload_n S.1 S.2.1 dX5_puts_17 rfl (lv_at hl 1 rfl) ?_
  refine mo_g_17 S E hM dX5_puts_18 ?_
  refine lv_iload S.1 S.2.1 dX5_puts_21 (lv_at hl 0 rfl) ?_
  refine mo_ald 4 S E hM rfl (by show _ < 976; omega) dX5_puts_23 ?_
  refine lv_iconst (v := nI 3) S.1 S.2.1 dX5_puts_24 (by decide) ?_
  refine lv_iconst (v := nI 2) S.1 S.2.1 dX5_puts_25 (by decide) ?_
  refine lv_iload_n S.1 S.2.1 dX5_puts_26 rfl (lv_at hl 3 rfl) ?_
  refine mi_imul S dX5_puts_27 ?_
  refine lv_ishl S.1 S.2.1 dX5_puts_28 ?_
  refine lv_iconst (v := (-1)) S.1 S.2.1 dX5_puts_29 (by decide) ?_
  refine lv_ixor S.1 S.2.1 dX5_puts_30 ?_
  refine lv_iand S.1 S.2.1 dX5_puts_31 ?_
  refine lv_iload_n S.1 S.2.1 dX5_puts_32 rfl (lv_at hl 4 rfl) ?_
  refine lv_iconst (v := nI 2) S.1 S.2.1 dX5_puts_33 (by decide) ?_
  refine lv_iload_n S.1 S.2.1 dX5_puts_34 rfl (lv_at hl 3 rfl) ?_
  refine mi_imul S dX5_puts_35 ?_
  refine lv_ishl S.1 S.2.1 dX5_puts_36 ?_
  refine lv_ior S.1 S.2.1 dX5_puts_37 ?_
  refine mo_ast 4 S E hS hM rfl (by show _ < 976; omega) dX5_puts_38 (fun H locs hM hS => ?_)
  exact mi_retMv S hr hk hS dX5_puts_39 (Nat.le_refl _) (Nat.le_refl _) (⟨f, _, hM, st_mo_put hR ha hb hk4 hO.1, rfl⟩)
