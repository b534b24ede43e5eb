/-! the law's mints -/
theorem j_cut_xx (l : Launch) (D : va_G) (A : Nat → Prop) (hst : l.stackTraces = false) (q : Nat → Nat) {T : sT} {gl : Nat → Nat → Int64} {gi : Nat → Nat → Int32} (hO : st_ok T) {k : Nat} (hct : pc_ct (pc_lst (sK T (sW T))) 128 k) (h : k ≠ 1 ∨ sD T = 8) : mi_Mi l yL_cut (Cond.codeWith yL_cut cL_cut 3 (some Jvm.ClassFile.FieldType.int) [(0, 5, 8, 18)]) (mi_rq 9 1 6) D A (mj_W D A q T gl gi) [.ref (q 0)] 1 6 (fun r H => r = -73 ∧ mj_W D A q T gl gi H) := by
  have := hO.1.2.2.2.1
  by_cases z : sD T = 8
  · exact j_cut_x1 l D A hst q hO z
  · exact j_cut_x2 l D A hst q hO hct (by omega) (by omega)
theorem j_forge_xx (l : Launch) (D : va_G) (A : Nat → Prop) (hst : l.stackTraces = false) (q : Nat → Nat) {T : sT} {gl : Nat → Nat → Int64} {gi : Nat → Nat → Int32} (hO : st_ok T) {a d : Nat} {z : Int32} (ha : a ≤ sC T) (hd : d ≤ sD T) (h : a = sC T ∨ d = sD T) : mi_Mi l yL_forge (Cond.codeWith yL_forge cL_forge 6 (some Jvm.ClassFile.FieldType.int) [(0, 9, 12, 14), (0, 9, 17, 16), (0, 9, 22, 18)]) (mi_rq 9 1 6) D A (mj_W D A q T gl gi) [.ref (q 0), .int (nI a), .int (nI d), .int z] 1 6 (fun r H => r = -71 ∧ mj_W D A q T gl gi H) := by
  have := hO.1.2.2.2
  by_cases e : a = sC T
  · exact j_forge_x1 l D A hst q hO (lj_tn (by omega) (by omega))
  · exact j_forge_x2 l D A hst q hO (by omega) (lj_tn (by omega) (by omega))
theorem j_forge_xy (l : Launch) (D : va_G) (A : Nat → Prop) (hst : l.stackTraces = false) (q : Nat → Nat) {T : sT} {gl : Nat → Nat → Int64} {gi : Nat → Nat → Int32} (hO : st_ok T) {a d u : Nat} (ha : a < sC T) (hd : d < sD T) (hu1 : 1 ≤ u) (hu : u ≤ 60) (h : sC T = 60 ∨ sX T d < u) : mi_Mi l yL_forge (Cond.codeWith yL_forge cL_forge 6 (some Jvm.ClassFile.FieldType.int) [(0, 9, 12, 14), (0, 9, 17, 16), (0, 9, 22, 18)]) (mi_rq 9 1 6) D A (mj_W D A q T gl gi) [.ref (q 0), .int (nI a), .int (nI d), .int (nI u)] 1 6 (fun r H => r = -73 ∧ mj_W D A q T gl gi H) := by
  have := hO.1.2.2.2
  by_cases e : sC T = 60
  · exact j_forge_x4 l D A hst q hO ha hd hu1 hu e
  · exact j_forge_x5 l D A hst q hO ha hd (by omega) hu (by omega)
set_option maxHeartbeats 4000000 in
set_option maxRecDepth 100000 in
theorem c_Lmi_cut (l : Launch) (D : va_G) (A : Nat → Prop) {q : Nat → Nat} {T : sT} {gl : Nat → Nat → Int64} {gi : Nat → Nat → Int32} (hst : l.stackTraces = false) (hAu : ∀ a b, A a → a ≤ b → A b) (hL : lr T gl gi) {act : Nat} (hact : act = 0) {y z : Int32} : mi_Mi l yL_mints (Cond.code yL_mints cL_mints 15 (some Jvm.ClassFile.FieldType.boolean)) (mi_rq 10 12 2100) D A (mj_W D A q T gl gi) [.ref (q 0), .int (nI (act)), .int (y), .int (z), .ref (q 1), .ref (q 3), .ref (q 4), .ref (q 5), .ref (q 6), .ref (q 7), .ref (q 8), .ref (q 9)] 12 2100 (fun r H => r = nI 1 ∧ mj_I D A q H) := by
  refine mi_start (cc := cL_mints) (nL := 15) (ret := (some Jvm.ClassFile.FieldType.boolean)) rfl (by decide) (Nat.le_of_ble_eq_true rfl) ?_
  intro p e s m below meth c ls S E hM hS hr hk hn hl
  have S : CallFix p m c cL_mints 15 s _ ((Cond.code yL_mints cL_mints 15 (some Jvm.ClassFile.FieldType.boolean)) :: mi_G) RL := S
  have hl : lv_has ls 15 [(0, .ref (q 0)), (1, .int (nI (act))), (2, .int (y)), (3, .int (z)), (4, .ref (q 1)), (5, .ref (q 3)), (6, .ref (q 4)), (7, .ref (q 5)), (8, .ref (q 6)), (9, .ref (q 7)), (10, .ref (q 8)), (11, .ref (q 9))] := hl
  have hO := hM.ok
  obtain ⟨⟨o1, o2, o3, o4, o5⟩, oP, oK, oD, oX, oC, oI⟩ := id hO
  obtain ⟨⟨g0, g1, g2, g3⟩, h16, hp9, hk9, hd9, hc9⟩ := id hL
  obtain ⟨kp, hct⟩ := pc_ct_ex (pc_lst (sK T (sW T))) 128
  have hkpb := pc_ct_le hct
  refine lv_iload_n S.1 S.2.1 dL_mints_0 rfl (lv_at hl 1 rfl) ?_
  refine mi_if_ne (tgt := 131) S (by omega) dL_mints_1 (by decide) (fun c1_0 => by exfalso; omega) (fun c1_0 => ?_)
  refine lv_aload S.1 S.2.1 dL_mints_4 (lv_at hl 4 rfl) ?_
  refine lv_aload S.1 S.2.1 dL_mints_6 (lv_at hl 9 rfl) ?_
  refine lv_aload S.1 S.2.1 dL_mints_8 (lv_at hl 10 rfl) ?_
  refine lv_aload S.1 S.2.1 dL_mints_10 (lv_at hl 11 rfl) ?_
  refine mi_cMi (mi_runS (P := mj_W D A q T gl gi) (As := [.ref (q 1), .ref (q 7), .ref (q 8), .ref (q 9)]) (rest := []) S E hS hM (c_Lpieces l D A g0 (by omega) (fun c1 h1 => hk9 (sW T) c1 o3 h1) (fun j1 h1 => oK (sW T) j1 o3 h1) hct) mw_432 mw_430 mw_431 mw_17 ⟨by decide, by decide, by decide +kernel⟩ ⟨rfl, rfl, Nat.le_of_ble_eq_true rfl, Nat.le_of_ble_eq_true rfl⟩ (n := 4) rfl hl.1 rfl (Nat.le_of_ble_eq_true rfl) dL_mints_12 ⟨Nat.le_of_ble_eq_true rfl, Nat.le_of_ble_eq_true rfl⟩) hS (fun r9 H locs hp9 hS hz9 => ?_)
  obtain ⟨e9, vv, ff, hM⟩ := hp9
  refine mi_top (v' := .int (nI kp)) (by rw [e9]) ?_
  have hL9 : lr T gl (va_up (va_up gi 7 vv) 8 ff) := hL
  refine lv_iconst (v := nI 1) S.1 S.2.1 dL_mints_15 (by decide) ?_
  refine mi_icmp_ne (tgt := 28) S (by omega) (by omega) dL_mints_16 (by decide) (fun c16_1 => ?_) (fun c16_1 => ?_)
  · refine lv_aload_n S.1 S.2.1 dL_mints_28 rfl (lv_at hl 0 rfl) ?_
    refine mi_cMi (mi_runSH (P := mj_W D A q T gl ((va_up (va_up gi 7 vv) 8 ff))) (As := [.ref (q 0)]) (rest := []) S E hS hM (j_cut_xx l D A hst q hO hct (by omega)) mw_438 mw_436 mw_437 mw_17 ⟨by decide, by decide, by decide +kernel⟩ ⟨rfl, rfl, Nat.le_of_ble_eq_true rfl, Nat.le_of_ble_eq_true rfl⟩ (n := 1) rfl hl.1 rfl (Nat.le_of_ble_eq_true rfl) dL_mints_29 ⟨(by show _ ≤ (12 : Nat); omega), (by show _ ≤ (2100 : Nat); omega)⟩) hS (fun r9 H locs hp9 hS hz9 => ?_)
    obtain ⟨e9, hM⟩ := hp9
    refine mi_top (v' := .int (-73)) (by rw [e9]) ?_
    refine lv_bipush (v := (-73)) S.1 S.2.1 dL_mints_32 (by decide) ?_
    refine lv_icmp_ne (tgt := 41) S.1 S.2.1 dL_mints_34 (by decide) (fun c34_2 => absurd rfl c34_2) (fun _ => ?_)
    refine lv_iconst (v := nI 1) S.1 S.2.1 dL_mints_37 (by decide) ?_
    refine lv_goto (tgt := 42) S.1 S.2.1 dL_mints_38 (by decide) ?_
    exact mi_retMz S hr hk hS dL_mints_42 rfl (by show _ ≤ (12 : Nat); omega) (by show _ ≤ (2100 : Nat); omega) (⟨rfl, T, gl, _, hL9, hM⟩)
  · have hct1 : pc_ct (pc_lst (sK T (sW T))) 128 1 := by rw [c16_1] at hct; exact hct
    refine lv_aload S.1 S.2.1 dL_mints_19 (lv_at hl 11 rfl) ?_
    refine lv_iconst (v := nI 2) S.1 S.2.1 dL_mints_21 (by decide) ?_
    refine mj_ild S E hM 9 (by omega) (by show _ < 4; omega) dL_mints_22 ?_
    refine mi_top (v' := .int (nI (sD T))) (congrArg Value.int g2) ?_
    refine lv_bipush (v := nI 8) S.1 S.2.1 dL_mints_23 (by decide) ?_
    refine mi_icmp_ne (tgt := 43) S (by omega) (by omega) dL_mints_25 (by decide) (fun c25_3 => ?_) (fun c25_3 => ?_)
    · refine lv_lconst (v := 0) S.1 S.2.1 dL_mints_43 (by decide) ?_
      refine lv_lstore (lv' := [(12, .long (0)), (0, .ref (q 0)), (1, .int (nI (act))), (2, .int (y)), (3, .int (z)), (4, .ref (q 1)), (5, .ref (q 3)), (6, .ref (q 4)), (7, .ref (q 5)), (8, .ref (q 6)), (9, .ref (q 7)), (10, .ref (q 8)), (11, .ref (q 9))]) S.1 S.2.1 dL_mints_44 hl (by decide) rfl (fun ls hl => ?_)
      refine lv_iconst (v := nI 0) S.1 S.2.1 dL_mints_46 (by decide) ?_
      refine lv_istore (lv' := [(14, .int (nI (0))), (12, .long (0)), (0, .ref (q 0)), (1, .int (nI (act))), (2, .int (y)), (3, .int (z)), (4, .ref (q 1)), (5, .ref (q 3)), (6, .ref (q 4)), (7, .ref (q 5)), (8, .ref (q 6)), (9, .ref (q 7)), (10, .ref (q 8)), (11, .ref (q 9))]) S.1 S.2.1 dL_mints_47 hl (by decide) rfl (fun ls hl => ?_)
      have lp49 : ∀ (n49 : Nat) (it : Int64) (j : Nat) (ls : Array Slot), 16 - j < n49 → j ≤ 16 → lj_hk it (fun c => sp_h (sK T (sW T)) c 8) j → lv_has ls 15 [(12, .long (it)), (14, .int (nI (j))), (0, .ref (q 0)), (4, .ref (q 1)), (5, .ref (q 3)), (7, .ref (q 5)), (11, .ref (q 9))] → W p l e (mi_rq 10 12 2100) s m ([.ref (q 0), .int (nI (act)), .int (y), .int (z), .ref (q 1), .ref (q 3), .ref (q 4), .ref (q 5), .ref (q 6), .ref (q 7), .ref (q 8), .ref (q 9)] : List Value).toArray below meth c H locs 0 0 (MQ below (mi_Qi A (fun r H => r = nI 1 ∧ mj_I D A q H)) ([.ref (q 0), .int (nI (act)), .int (y), .int (z), .ref (q 1), .ref (q 3), .ref (q 4), .ref (q 5), .ref (q 6), .ref (q 7), .ref (q 8), .ref (q 9)] : List Value).toArray s 12 2100 A) (F0 m 49 ls []) := by
        intro n49
        induction n49 with
        | zero => intro it j ls hm hj hkk  hl; exact absurd hm (Nat.not_lt_zero _)
        | succ n49 ih49 =>
          intro it j ls hm hj hkk  hl
          refine lv_iload S.1 S.2.1 dL_mints_49 (lv_at hl 1 rfl) ?_
          refine lv_bipush (v := nI 16) S.1 S.2.1 dL_mints_51 (by decide) ?_
          refine mi_icmp_ge (tgt := 87) S (by omega) (by omega) dL_mints_53 (by decide) (fun c53_4 => ?_) (fun c53_4 => ?_)
          · have hhp := lj_hk_hp (by rw [show 16 = j by omega]; exact hkk : lj_hk it (fun c => sp_h (sK T (sW T)) c 8) 16) (fun c1 _ => sp_h_le _ _ 8)
            refine lv_aload S.1 S.2.1 dL_mints_87 (lv_at hl 4 rfl) ?_
            refine lv_aload S.1 S.2.1 dL_mints_89 (lv_at hl 6 rfl) ?_
            refine lv_iconst (v := nI 2) S.1 S.2.1 dL_mints_91 (by decide) ?_
            refine mj_ild S E hM 9 (by omega) (by show _ < 4; omega) dL_mints_92 ?_
            refine mi_top (v' := .int (nI (sD T))) (congrArg Value.int g2) ?_
            refine lv_lload S.1 S.2.1 dL_mints_93 (lv_at hl 0 rfl) ?_
            refine mj_lst S E hS hM 3 (by omega) (by show _ < 8; omega) dL_mints_95 (fun H locs hM hS => ?_)
            refine lv_aload S.1 S.2.1 dL_mints_96 (lv_at hl 5 rfl) ?_
            refine lv_aload S.1 S.2.1 dL_mints_98 (lv_at hl 6 rfl) ?_
            refine lv_iconst (v := nI 2) S.1 S.2.1 dL_mints_100 (by decide) ?_
            refine mj_ild S E hM 9 (by omega) (by show _ < 4; omega) dL_mints_101 ?_
            refine mi_top (v' := .int (nI (sD T))) (congrArg Value.int g2) ?_
            refine lv_iconst (v := nI 0) S.1 S.2.1 dL_mints_102 (by decide) ?_
            refine mj_ist S E hS hM 5 (by omega) (by show _ < 8; omega) dL_mints_103 (fun H locs hM hS => ?_)
            refine lv_aload S.1 S.2.1 dL_mints_104 (lv_at hl 6 rfl) ?_
            refine lv_iconst (v := nI 2) S.1 S.2.1 dL_mints_106 (by decide) ?_
            refine lv_dup2_11 S.1 S.2.1 dL_mints_107 rfl rfl ?_
            refine mj_ild S E hM 9 (by omega) (by show _ < 4; omega) dL_mints_108 ?_
            refine mi_top (v' := .int (nI (sD T))) (congrArg Value.int g2) ?_
            refine lv_iconst (v := nI 1) S.1 S.2.1 dL_mints_109 (by decide) ?_
            refine mi_iadd S dL_mints_110 ?_
            refine mj_ist S E hS hM 9 (by omega) (by show _ < 4; omega) dL_mints_111 (fun H locs hM hS => ?_)
            refine lv_aload_n S.1 S.2.1 dL_mints_112 rfl (lv_at hl 2 rfl) ?_
            refine mi_cMi (mi_runSH (P := mj_W D A q T ((va_up gl 3 (vp_updL (gl 3) (sD T) (it)))) ((va_up ((va_up ((va_up (va_up gi 7 vv) 8 ff)) 5 (upd (((va_up (va_up gi 7 vv) 8 ff)) 5) (sD T) (nI (0))))) 9 (upd (((va_up ((va_up (va_up gi 7 vv) 8 ff)) 5 (upd (((va_up (va_up gi 7 vv) 8 ff)) 5) (sD T) (nI (0))))) 9) (2) (nI ((sD T) + 1)))))) (As := [.ref (q 0)]) (rest := []) S E hS hM (j_cut l D A hst q hO hAu hct1 (by omega)) mw_438 mw_436 mw_437 mw_17 ⟨by decide, by decide, by decide +kernel⟩ ⟨rfl, rfl, Nat.le_of_ble_eq_true rfl, Nat.le_of_ble_eq_true rfl⟩ (n := 1) rfl hl.1 rfl (Nat.le_of_ble_eq_true rfl) dL_mints_113 ⟨(by show _ ≤ (12 : Nat); omega), (by show _ ≤ (2100 : Nat); omega)⟩) hS (fun r9 H locs hp9 hS hz9 => ?_)
            obtain ⟨e9, hM⟩ := hp9
            refine mi_top (v' := .int (nI (sD T))) (by rw [e9]) ?_
            refine lv_aload S.1 S.2.1 dL_mints_116 (lv_at hl 6 rfl) ?_
            refine lv_iconst (v := nI 2) S.1 S.2.1 dL_mints_118 (by decide) ?_
            refine mj_ild S E hM 9 (by omega) (by show _ < 4; omega) dL_mints_119 ?_
            refine mi_top (v' := .int (nI ((sD T) + 1))) (by first | rfl | exact congrArg Value.int (if_pos rfl)) ?_
            refine lv_iconst (v := nI 1) S.1 S.2.1 dL_mints_120 (by decide) ?_
            refine mi_isub S (by omega) dL_mints_121 ?_
            refine mi_icmp_ne (tgt := 129) S (by omega) (by omega) dL_mints_122 (by decide) (fun c122_5 => by exfalso; omega) (fun c122_5 => ?_)
            refine lv_iconst (v := nI 1) S.1 S.2.1 dL_mints_125 (by decide) ?_
            refine lv_goto (tgt := 130) S.1 S.2.1 dL_mints_126 (by decide) ?_
            exact mi_retMz S hr hk hS dL_mints_130 rfl (by show _ ≤ (12 : Nat); omega) (by show _ ≤ (2100 : Nat); omega) (⟨rfl, _, _, _, lr_cut hL9 hhp, hM⟩)
          · refine lv_lload S.1 S.2.1 dL_mints_56 (lv_at hl 0 rfl) ?_
            refine lv_aload S.1 S.2.1 dL_mints_58 (lv_at hl 3 rfl) ?_
            refine lv_aload S.1 S.2.1 dL_mints_60 (lv_at hl 6 rfl) ?_
            refine lv_iconst (v := nI 0) S.1 S.2.1 dL_mints_62 (by decide) ?_
            refine mj_ild S E hM 9 (by omega) (by show _ < 4; omega) dL_mints_63 ?_
            refine mi_top (v' := .int (nI (sW T))) (congrArg Value.int g0) ?_
            refine lv_iload S.1 S.2.1 dL_mints_64 (lv_at hl 1 rfl) ?_
            refine mi_cR (mi_runS (P := mj_W D A q T gl ((va_up (va_up gi 7 vv) 8 ff))) (As := [.ref (q 1), .int (nI (sW T)), .int (nI (j))]) (rest := [.long (it)]) S E hS hM (c_Lcolumn l D A (by omega) (by omega)) mw_350 mw_348 mw_349 mw_17 ⟨by decide, by decide, by decide +kernel⟩ ⟨rfl, rfl, Nat.le_of_ble_eq_true rfl, Nat.le_of_ble_eq_true rfl⟩ (n := 3) rfl hl.1 rfl (Nat.le_of_ble_eq_true rfl) dL_mints_66 ⟨Nat.le_of_ble_eq_true rfl, Nat.le_of_ble_eq_true rfl⟩) (fun r9 e9 => ?_)
            subst e9
            refine mi_cR (mi_runS (P := mj_W D A q T gl ((va_up (va_up gi 7 vv) 8 ff))) (As := [.int (lj_col (gl 1) (sW T) j)]) (rest := [.long (it)]) S E hS hM (c_Lheight l D A (mj_W D A q T gl ((va_up (va_up gi 7 vv) 8 ff))) (hk9 (sW T) j o3 (by omega)) (fun l1 h1 => oK (sW T) _ o3 (by omega))) mw_504 mw_502 mw_503 mw_17 ⟨by decide, by decide, by decide +kernel⟩ ⟨rfl, rfl, Nat.le_of_ble_eq_true rfl, Nat.le_of_ble_eq_true rfl⟩ (n := 1) rfl hl.1 rfl (Nat.le_of_ble_eq_true rfl) dL_mints_69 ⟨Nat.le_of_ble_eq_true rfl, Nat.le_of_ble_eq_true rfl⟩) (fun r9 e9 => ?_)
            subst e9
            refine lv_i2l (v := (nI (sp_h (sK T (sW T)) j 8)).toInt64) S.1 S.2.1 dL_mints_72 rfl ?_
            refine lv_iconst (v := nI 4) S.1 S.2.1 dL_mints_73 (by decide) ?_
            refine lv_iload S.1 S.2.1 dL_mints_74 (lv_at hl 1 rfl) ?_
            refine mi_imul S dL_mints_76 ?_
            refine lv_lshl S.1 S.2.1 dL_mints_77 rfl ?_
            refine lv_lor S.1 S.2.1 dL_mints_78 ?_
            refine lv_lstore (lv' := [(12, .long (it ||| (((nI (sp_h (sK T (sW T)) j 8)).toInt64) <<< ((nI (4 * j)).toInt64 &&& 63)))), (14, .int (nI (j))), (0, .ref (q 0)), (4, .ref (q 1)), (5, .ref (q 3)), (7, .ref (q 5)), (11, .ref (q 9))]) S.1 S.2.1 dL_mints_79 hl (by decide) rfl (fun ls hl => ?_)
            have hks : lj_hk (it ||| ((nI (sp_h (sK T (sW T)) j 8)).toInt64 <<< ((nI (4 * j)).toInt64 &&& 63))) (fun c => sp_h (sK T (sW T)) c 8) (j + 1) := lj_hk_s (h := (fun c => sp_h (sK T (sW T)) c 8)) hkk (by omega) (sp_h_le (sK T (sW T)) j 8)
            refine lv_iinc (v := nI (j + 1)) (lv' := [(14, .int (nI (j + 1))), (12, .long (it ||| (((nI (sp_h (sK T (sW T)) j 8)).toInt64) <<< ((nI (4 * j)).toInt64 &&& 63)))), (0, .ref (q 0)), (4, .ref (q 1)), (5, .ref (q 3)), (7, .ref (q 5)), (11, .ref (q 9))]) S.1 S.2.1 dL_mints_81 hl (k := 1) rfl (mi_inc _) (by decide) rfl (fun ls hl => ?_)
            refine lv_goto (tgt := 49) S.1 S.2.1 dL_mints_84 (by decide) ?_
            exact ih49 ((it ||| (((nI (sp_h (sK T (sW T)) j 8)).toInt64) <<< ((nI (4 * j)).toInt64 &&& 63)))) (j + 1) _ (by omega) (by omega) (hks)  (lv_sub hl [1, 0, 2, 3, 4, 5, 6] rfl)
      exact lp49 _ 0 0 _ (Nat.lt_succ_self _) (by omega) (lj_hk_0 _)  (lv_sub hl [1, 0, 2, 6, 7, 9, 13] rfl)
    · refine lv_aload_n S.1 S.2.1 dL_mints_28 rfl (lv_at hl 0 rfl) ?_
      refine mi_cMi (mi_runSH (P := mj_W D A q T gl ((va_up (va_up gi 7 vv) 8 ff))) (As := [.ref (q 0)]) (rest := []) S E hS hM (j_cut_xx l D A hst q hO hct (by omega)) mw_438 mw_436 mw_437 mw_17 ⟨by decide, by decide, by decide +kernel⟩ ⟨rfl, rfl, Nat.le_of_ble_eq_true rfl, Nat.le_of_ble_eq_true rfl⟩ (n := 1) rfl hl.1 rfl (Nat.le_of_ble_eq_true rfl) dL_mints_29 ⟨(by show _ ≤ (12 : Nat); omega), (by show _ ≤ (2100 : Nat); omega)⟩) hS (fun r9 H locs hp9 hS hz9 => ?_)
      obtain ⟨e9, hM⟩ := hp9
      refine mi_top (v' := .int (-73)) (by rw [e9]) ?_
      refine lv_bipush (v := (-73)) S.1 S.2.1 dL_mints_32 (by decide) ?_
      refine lv_icmp_ne (tgt := 41) S.1 S.2.1 dL_mints_34 (by decide) (fun c34_6 => absurd rfl c34_6) (fun _ => ?_)
      refine lv_iconst (v := nI 1) S.1 S.2.1 dL_mints_37 (by decide) ?_
      refine lv_goto (tgt := 42) S.1 S.2.1 dL_mints_38 (by decide) ?_
      exact mi_retMz S hr hk hS dL_mints_42 rfl (by show _ ≤ (12 : Nat); omega) (by show _ ≤ (2100 : Nat); omega) (⟨rfl, T, gl, _, hL9, hM⟩)
set_option maxHeartbeats 4000000 in
set_option maxRecDepth 100000 in
theorem c_Lmi_strike (l : Launch) (D : va_G) (A : Nat → Prop) {q : Nat → Nat} {T : sT} {gl : Nat → Nat → Int64} {gi : Nat → Nat → Int32} (hst : l.stackTraces = false) (hAu : ∀ a b, A a → a ≤ b → A b) (hL : lr T gl gi) {act : Nat} (hact : 1 ≤ act ∧ act < 5) {y z : Int32} : mi_Mi l yL_mints (Cond.code yL_mints cL_mints 15 (some Jvm.ClassFile.FieldType.boolean)) (mi_rq 10 12 2100) D A (mj_W D A q T gl gi) [.ref (q 0), .int (nI (act)), .int (y), .int (z), .ref (q 1), .ref (q 3), .ref (q 4), .ref (q 5), .ref (q 6), .ref (q 7), .ref (q 8), .ref (q 9)] 12 2100 (fun r H => r = nI 1 ∧ mj_I D A q H) := by
  refine mi_start (cc := cL_mints) (nL := 15) (ret := (some Jvm.ClassFile.FieldType.boolean)) rfl (by decide) (Nat.le_of_ble_eq_true rfl) ?_
  intro p e s m below meth c ls S E hM hS hr hk hn hl
  have S : CallFix p m c cL_mints 15 s _ ((Cond.code yL_mints cL_mints 15 (some Jvm.ClassFile.FieldType.boolean)) :: mi_G) RL := S
  have hl : lv_has ls 15 [(0, .ref (q 0)), (1, .int (nI (act))), (2, .int (y)), (3, .int (z)), (4, .ref (q 1)), (5, .ref (q 3)), (6, .ref (q 4)), (7, .ref (q 5)), (8, .ref (q 6)), (9, .ref (q 7)), (10, .ref (q 8)), (11, .ref (q 9))] := hl
  have hO := hM.ok
  obtain ⟨⟨o1, o2, o3, o4, o5⟩, oP, oK, oD, oX, oC, oI⟩ := id hO
  obtain ⟨⟨g0, g1, g2, g3⟩, h16, hp9, hk9, hd9, hc9⟩ := id hL
  refine lv_iload_n S.1 S.2.1 dL_mints_0 rfl (lv_at hl 1 rfl) ?_
  refine mi_if_ne (tgt := 131) S (by omega) dL_mints_1 (by decide) (fun c1_0 => ?_) (fun c1_0 => by exfalso; omega)
  refine lv_iload_n S.1 S.2.1 dL_mints_131 rfl (lv_at hl 2 rfl) ?_
  refine lv_aload S.1 S.2.1 dL_mints_132 (lv_at hl 11 rfl) ?_
  refine lv_iconst (v := nI 2) S.1 S.2.1 dL_mints_134 (by decide) ?_
  refine mj_ild S E hM 9 (by omega) (by show _ < 4; omega) dL_mints_135 ?_
  refine mi_top (v' := .int (nI (sD T))) (congrArg Value.int g2) ?_
  refine lv_iconst (v := nI 1) S.1 S.2.1 dL_mints_136 (by decide) ?_
  refine mi_iadd S dL_mints_137 ?_
  refine mi_cR (mi_runS (P := mj_W D A q T gl gi) (As := [.int (y), .int (nI ((sD T) + 1))]) (rest := []) S E hS hM (c_Llow l D A (mj_W D A q T gl gi) (by omega) (by omega)) mw_186 mw_184 mw_185 mw_17 ⟨by decide, by decide, by decide +kernel⟩ ⟨rfl, rfl, Nat.le_of_ble_eq_true rfl, Nat.le_of_ble_eq_true rfl⟩ (n := 2) rfl hl.1 rfl (Nat.le_of_ble_eq_true rfl) dL_mints_138 ⟨Nat.le_of_ble_eq_true rfl, Nat.le_of_ble_eq_true rfl⟩) (fun r9 e9 => ?_)
  obtain ⟨dq, hdq, rfl⟩ := e9
  refine lv_istore (lv' := [(12, .int (nI (dq))), (0, .ref (q 0)), (1, .int (nI (act))), (2, .int (y)), (3, .int (z)), (4, .ref (q 1)), (5, .ref (q 3)), (6, .ref (q 4)), (7, .ref (q 5)), (8, .ref (q 6)), (9, .ref (q 7)), (10, .ref (q 8)), (11, .ref (q 9))]) S.1 S.2.1 dL_mints_141 hl (by decide) rfl (fun ls hl => ?_)
  refine lv_iload_n S.1 S.2.1 dL_mints_143 rfl (lv_at hl 2 rfl) ?_
  refine lv_iconst (v := nI 5) S.1 S.2.1 dL_mints_144 (by decide) ?_
  refine mi_icmp_ge (tgt := 286) S (by omega) (by omega) dL_mints_145 (by decide) (fun c145_1 => by exfalso; omega) (fun c145_1 => ?_)
  refine lv_iload S.1 S.2.1 dL_mints_148 (lv_at hl 0 rfl) ?_
  refine lv_aload S.1 S.2.1 dL_mints_150 (lv_at hl 12 rfl) ?_
  refine lv_iconst (v := nI 2) S.1 S.2.1 dL_mints_152 (by decide) ?_
  refine mj_ild S E hM 9 (by omega) (by show _ < 4; omega) dL_mints_153 ?_
  refine mi_top (v' := .int (nI (sD T))) (congrArg Value.int g2) ?_
  refine mi_icmp_ne (tgt := 184) S (by omega) (by omega) dL_mints_154 (by decide) (fun c154_2 => ?_) (fun c154_2 => ?_)
  · refine lv_aload S.1 S.2.1 dL_mints_184 (lv_at hl 12 rfl) ?_
    refine lv_iconst (v := nI 3) S.1 S.2.1 dL_mints_186 (by decide) ?_
    refine mj_ild S E hM 9 (by omega) (by show _ < 4; omega) dL_mints_187 ?_
    refine mi_top (v' := .int (nI (sC T))) (congrArg Value.int g3) ?_
    refine lv_bipush (v := nI 60) S.1 S.2.1 dL_mints_188 (by decide) ?_
    refine mi_icmp_ne (tgt := 210) S (by omega) (by omega) dL_mints_190 (by decide) (fun c190_3 => ?_) (fun c190_3 => ?_)
    · have hxb := oX dq (by omega)
      refine lv_aload S.1 S.2.1 dL_mints_210 (lv_at hl 8 rfl) ?_
      refine lv_iload S.1 S.2.1 dL_mints_212 (lv_at hl 0 rfl) ?_
      refine lv_dup2_11 S.1 S.2.1 dL_mints_214 rfl rfl ?_
      refine mj_ild S E hM 5 (by omega) (by show _ < 8; omega) dL_mints_215 ?_
      refine mi_top (v' := .int (nI (sX T dq))) (congrArg Value.int (hd9 dq (by omega)).2) ?_
      refine lv_iconst (v := nI 1) S.1 S.2.1 dL_mints_216 (by decide) ?_
      refine mi_iadd S dL_mints_217 ?_
      refine mj_ist S E hS hM 5 (by omega) (by show _ < 8; omega) dL_mints_218 (fun H locs hM hS => ?_)
      refine lv_aload S.1 S.2.1 dL_mints_219 (lv_at hl 7 rfl) ?_
      refine lv_aload S.1 S.2.1 dL_mints_221 (lv_at hl 12 rfl) ?_
      refine lv_iconst (v := nI 3) S.1 S.2.1 dL_mints_223 (by decide) ?_
      refine mj_ild S E hM 9 (by omega) (by show _ < 4; omega) dL_mints_224 ?_
      refine mi_top (v' := .int (nI (sC T))) (congrArg Value.int g3) ?_
      refine lv_aload S.1 S.2.1 dL_mints_225 (lv_at hl 6 rfl) ?_
      refine lv_iload S.1 S.2.1 dL_mints_227 (lv_at hl 0 rfl) ?_
      refine mj_lld S E hM 3 (by omega) (by show _ < 8; omega) dL_mints_229 ?_
      refine lv_aload S.1 S.2.1 dL_mints_230 (lv_at hl 8 rfl) ?_
      refine lv_iload S.1 S.2.1 dL_mints_232 (lv_at hl 0 rfl) ?_
      refine mj_ild S E hM 5 (by omega) (by show _ < 8; omega) dL_mints_234 ?_
      refine mi_top (v' := .int (nI ((sX T dq) + 1))) (by first | rfl | exact congrArg Value.int (if_pos rfl)) ?_
      refine mi_cL (mi_runS (P := mj_W D A q T gl ((va_up gi 5 (upd (gi 5) (dq) (nI ((sX T dq) + 1)))))) (As := [.long (gl 3 dq), .int (nI ((sX T dq) + 1))]) (rest := [.int (nI (sC T)), .ref (q 4)]) S E hS hM (c_Lworn l D A (mj_W D A q T gl ((va_up gi 5 (upd (gi 5) (dq) (nI ((sX T dq) + 1)))))) (hd9 dq (by omega)).1 (fun c1 h1 => (oD dq c1 (by omega) h1).1) (by omega) (by omega)) mw_557 mw_555 mw_556 mw_17 ⟨by decide, by decide, by decide +kernel⟩ ⟨rfl, rfl, Nat.le_of_ble_eq_true rfl, Nat.le_of_ble_eq_true rfl⟩ (n := 2) rfl hl.1 rfl (Nat.le_of_ble_eq_true rfl) dL_mints_235 ⟨Nat.le_of_ble_eq_true rfl, Nat.le_of_ble_eq_true rfl⟩) (fun rw9 e9 => ?_)
      have hW9 : lj_hp rw9 (sH T dq) := lj_hp_cong e9 (fun c1 h1 => by rw [(oD dq c1 (by omega) h1).2, Nat.add_sub_cancel])
      refine mj_lst S E hS hM 4 (by omega) (by show _ < 60; omega) dL_mints_238 (fun H locs hM hS => ?_)
      refine lv_aload S.1 S.2.1 dL_mints_239 (lv_at hl 9 rfl) ?_
      refine lv_aload S.1 S.2.1 dL_mints_241 (lv_at hl 12 rfl) ?_
      refine lv_iconst (v := nI 3) S.1 S.2.1 dL_mints_243 (by decide) ?_
      refine mj_ild S E hM 9 (by omega) (by show _ < 4; omega) dL_mints_244 ?_
      refine mi_top (v' := .int (nI (sC T))) (congrArg Value.int g3) ?_
      refine lv_iload S.1 S.2.1 dL_mints_245 (lv_at hl 0 rfl) ?_
      refine lv_bipush (v := nI 8) S.1 S.2.1 dL_mints_247 (by decide) ?_
      refine lv_aload S.1 S.2.1 dL_mints_249 (lv_at hl 8 rfl) ?_
      refine lv_iload S.1 S.2.1 dL_mints_251 (lv_at hl 0 rfl) ?_
      refine mj_ild S E hM 5 (by omega) (by show _ < 8; omega) dL_mints_253 ?_
      refine mi_top (v' := .int (nI ((sX T dq) + 1))) (by first | rfl | exact congrArg Value.int (if_pos rfl)) ?_
      refine mi_imul S dL_mints_254 ?_
      refine mi_iadd S dL_mints_255 ?_
      refine mj_ist S E hS hM 6 (by omega) (by show _ < 60; omega) dL_mints_256 (fun H locs hM hS => ?_)
      refine lv_aload S.1 S.2.1 dL_mints_257 (lv_at hl 12 rfl) ?_
      refine lv_iconst (v := nI 3) S.1 S.2.1 dL_mints_259 (by decide) ?_
      refine lv_dup2_11 S.1 S.2.1 dL_mints_260 rfl rfl ?_
      refine mj_ild S E hM 9 (by omega) (by show _ < 4; omega) dL_mints_261 ?_
      refine mi_top (v' := .int (nI (sC T))) (congrArg Value.int g3) ?_
      refine lv_iconst (v := nI 1) S.1 S.2.1 dL_mints_262 (by decide) ?_
      refine mi_iadd S dL_mints_263 ?_
      refine mj_ist S E hS hM 9 (by omega) (by show _ < 4; omega) dL_mints_264 (fun H locs hM hS => ?_)
      refine lv_aload_n S.1 S.2.1 dL_mints_265 rfl (lv_at hl 1 rfl) ?_
      refine lv_iload S.1 S.2.1 dL_mints_266 (lv_at hl 0 rfl) ?_
      refine mi_cMi (mi_runSH (P := mj_W D A q T ((va_up gl 4 (vp_updL (gl 4) (sC T) (rw9)))) ((va_up ((va_up ((va_up gi 5 (upd (gi 5) (dq) (nI ((sX T dq) + 1))))) 6 (upd (((va_up gi 5 (upd (gi 5) (dq) (nI ((sX T dq) + 1))))) 6) (sC T) (nI (dq + (8 * ((sX T dq) + 1))))))) 9 (upd (((va_up ((va_up gi 5 (upd (gi 5) (dq) (nI ((sX T dq) + 1))))) 6 (upd (((va_up gi 5 (upd (gi 5) (dq) (nI ((sX T dq) + 1))))) 6) (sC T) (nI (dq + (8 * ((sX T dq) + 1))))))) 9) (3) (nI ((sC T) + 1)))))) (As := [.ref (q 0), .int (nI (dq))]) (rest := []) S E hS hM (j_strike l D A hst q hO hAu (by omega) (by omega)) mw_507 mw_505 mw_506 mw_17 ⟨by decide, by decide, by decide +kernel⟩ ⟨rfl, rfl, Nat.le_of_ble_eq_true rfl, Nat.le_of_ble_eq_true rfl⟩ (n := 2) rfl hl.1 rfl (Nat.le_of_ble_eq_true rfl) dL_mints_268 ⟨(by show _ ≤ (12 : Nat); omega), (by show _ ≤ (2100 : Nat); omega)⟩) hS (fun r9 H locs hp9 hS hz9 => ?_)
      obtain ⟨e9, hM⟩ := hp9
      refine mi_top (v' := .int (nI (sC T))) (by rw [e9]) ?_
      refine lv_aload S.1 S.2.1 dL_mints_271 (lv_at hl 12 rfl) ?_
      refine lv_iconst (v := nI 3) S.1 S.2.1 dL_mints_273 (by decide) ?_
      refine mj_ild S E hM 9 (by omega) (by show _ < 4; omega) dL_mints_274 ?_
      refine mi_top (v' := .int (nI ((sC T) + 1))) (by first | rfl | exact congrArg Value.int (if_pos rfl)) ?_
      refine lv_iconst (v := nI 1) S.1 S.2.1 dL_mints_275 (by decide) ?_
      refine mi_isub S (by omega) dL_mints_276 ?_
      refine mi_icmp_ne (tgt := 284) S (by omega) (by omega) dL_mints_277 (by decide) (fun c277_4 => by exfalso; omega) (fun c277_4 => ?_)
      refine lv_iconst (v := nI 1) S.1 S.2.1 dL_mints_280 (by decide) ?_
      refine lv_goto (tgt := 285) S.1 S.2.1 dL_mints_281 (by decide) ?_
      exact mi_retMz S hr hk hS dL_mints_285 rfl (by show _ ≤ (12 : Nat); omega) (by show _ ≤ (2100 : Nat); omega) (⟨rfl, _, _, _, lr_strike hL hW9, hM⟩)
    · refine lv_aload_n S.1 S.2.1 dL_mints_193 rfl (lv_at hl 1 rfl) ?_
      refine lv_iload S.1 S.2.1 dL_mints_194 (lv_at hl 0 rfl) ?_
      refine mi_cMi (mi_runSH (P := mj_W D A q T gl gi) (As := [.ref (q 0), .int (nI (dq))]) (rest := []) S E hS hM (j_strike_x2 l D A hst q hO (by omega) (by omega)) mw_507 mw_505 mw_506 mw_17 ⟨by decide, by decide, by decide +kernel⟩ ⟨rfl, rfl, Nat.le_of_ble_eq_true rfl, Nat.le_of_ble_eq_true rfl⟩ (n := 2) rfl hl.1 rfl (Nat.le_of_ble_eq_true rfl) dL_mints_196 ⟨(by show _ ≤ (12 : Nat); omega), (by show _ ≤ (2100 : Nat); omega)⟩) hS (fun r9 H locs hp9 hS hz9 => ?_)
      obtain ⟨e9, hM⟩ := hp9
      refine mi_top (v' := .int (-73)) (by rw [e9]) ?_
      refine lv_bipush (v := (-73)) S.1 S.2.1 dL_mints_199 (by decide) ?_
      refine lv_icmp_ne (tgt := 208) S.1 S.2.1 dL_mints_201 (by decide) (fun c201_5 => absurd rfl c201_5) (fun _ => ?_)
      refine lv_iconst (v := nI 1) S.1 S.2.1 dL_mints_204 (by decide) ?_
      refine lv_goto (tgt := 209) S.1 S.2.1 dL_mints_205 (by decide) ?_
      exact mi_retMz S hr hk hS dL_mints_209 rfl (by show _ ≤ (12 : Nat); omega) (by show _ ≤ (2100 : Nat); omega) (⟨rfl, T, gl, gi, hL, hM⟩)
  · refine lv_aload_n S.1 S.2.1 dL_mints_157 rfl (lv_at hl 1 rfl) ?_
    refine lv_iload S.1 S.2.1 dL_mints_158 (lv_at hl 0 rfl) ?_
    refine mi_cMi (mi_runSH (P := mj_W D A q T gl gi) (As := [.ref (q 0), .int (nI (dq))]) (rest := []) S E hS hM (j_strike_x1 l D A hst q hO (lj_tn (by omega) (by omega))) mw_507 mw_505 mw_506 mw_17 ⟨by decide, by decide, by decide +kernel⟩ ⟨rfl, rfl, Nat.le_of_ble_eq_true rfl, Nat.le_of_ble_eq_true rfl⟩ (n := 2) rfl hl.1 rfl (Nat.le_of_ble_eq_true rfl) dL_mints_160 ⟨(by show _ ≤ (12 : Nat); omega), (by show _ ≤ (2100 : Nat); omega)⟩) hS (fun r9 H locs hp9 hS hz9 => ?_)
    obtain ⟨e9, hM⟩ := hp9
    refine mi_top (v' := .int (-71)) (by rw [e9]) ?_
    refine lv_bipush (v := (-71)) S.1 S.2.1 dL_mints_163 (by decide) ?_
    refine lv_icmp_ne (tgt := 182) S.1 S.2.1 dL_mints_165 (by decide) (fun c165_6 => absurd rfl c165_6) (fun _ => ?_)
    refine lv_aload_n S.1 S.2.1 dL_mints_168 rfl (lv_at hl 1 rfl) ?_
    refine lv_iconst (v := (-1)) S.1 S.2.1 dL_mints_169 (by decide) ?_
    refine mi_cMi (mi_runSH (P := mj_W D A q T gl gi) (As := [.ref (q 0), .int (-1)]) (rest := []) S E hS hM (j_strike_x1 l D A hst q hO lj_m1) mw_507 mw_505 mw_506 mw_17 ⟨by decide, by decide, by decide +kernel⟩ ⟨rfl, rfl, Nat.le_of_ble_eq_true rfl, Nat.le_of_ble_eq_true rfl⟩ (n := 2) rfl hl.1 rfl (Nat.le_of_ble_eq_true rfl) dL_mints_170 ⟨(by show _ ≤ (12 : Nat); omega), (by show _ ≤ (2100 : Nat); omega)⟩) hS (fun r9 H locs hp9 hS hz9 => ?_)
    obtain ⟨e9, hM⟩ := hp9
    refine mi_top (v' := .int (-71)) (by rw [e9]) ?_
    refine lv_bipush (v := (-71)) S.1 S.2.1 dL_mints_173 (by decide) ?_
    refine lv_icmp_ne (tgt := 182) S.1 S.2.1 dL_mints_175 (by decide) (fun c175_7 => absurd rfl c175_7) (fun _ => ?_)
    refine lv_iconst (v := nI 1) S.1 S.2.1 dL_mints_178 (by decide) ?_
    refine lv_goto (tgt := 183) S.1 S.2.1 dL_mints_179 (by decide) ?_
    exact mi_retMz S hr hk hS dL_mints_183 rfl (by show _ ≤ (12 : Nat); omega) (by show _ ≤ (2100 : Nat); omega) (⟨rfl, T, gl, gi, hL, hM⟩)
set_option maxHeartbeats 4000000 in
set_option maxRecDepth 100000 in
theorem c_Lmi_forge (l : Launch) (D : va_G) (A : Nat → Prop) {q : Nat → Nat} {T : sT} {gl : Nat → Nat → Int64} {gi : Nat → Nat → Int32} (hst : l.stackTraces = false) (hAu : ∀ a b, A a → a ≤ b → A b) (hL : lr T gl gi) {act : Nat} (hact : 5 ≤ act ∧ act < 8) {y z : Int32} : mi_Mi l yL_mints (Cond.code yL_mints cL_mints 15 (some Jvm.ClassFile.FieldType.boolean)) (mi_rq 10 12 2100) D A (mj_W D A q T gl gi) [.ref (q 0), .int (nI (act)), .int (y), .int (z), .ref (q 1), .ref (q 3), .ref (q 4), .ref (q 5), .ref (q 6), .ref (q 7), .ref (q 8), .ref (q 9)] 12 2100 (fun r H => r = nI 1 ∧ mj_I D A q H) := by
  refine mi_start (cc := cL_mints) (nL := 15) (ret := (some Jvm.ClassFile.FieldType.boolean)) rfl (by decide) (Nat.le_of_ble_eq_true rfl) ?_
  intro p e s m below meth c ls S E hM hS hr hk hn hl
  have S : CallFix p m c cL_mints 15 s _ ((Cond.code yL_mints cL_mints 15 (some Jvm.ClassFile.FieldType.boolean)) :: mi_G) RL := S
  have hl : lv_has ls 15 [(0, .ref (q 0)), (1, .int (nI (act))), (2, .int (y)), (3, .int (z)), (4, .ref (q 1)), (5, .ref (q 3)), (6, .ref (q 4)), (7, .ref (q 5)), (8, .ref (q 6)), (9, .ref (q 7)), (10, .ref (q 8)), (11, .ref (q 9))] := hl
  have hO := hM.ok
  obtain ⟨⟨o1, o2, o3, o4, o5⟩, oP, oK, oD, oX, oC, oI⟩ := id hO
  obtain ⟨⟨g0, g1, g2, g3⟩, h16, hp9, hk9, hd9, hc9⟩ := id hL
  refine lv_iload_n S.1 S.2.1 dL_mints_0 rfl (lv_at hl 1 rfl) ?_
  refine mi_if_ne (tgt := 131) S (by omega) dL_mints_1 (by decide) (fun c1_0 => ?_) (fun c1_0 => by exfalso; omega)
  refine lv_iload_n S.1 S.2.1 dL_mints_131 rfl (lv_at hl 2 rfl) ?_
  refine lv_aload S.1 S.2.1 dL_mints_132 (lv_at hl 11 rfl) ?_
  refine lv_iconst (v := nI 2) S.1 S.2.1 dL_mints_134 (by decide) ?_
  refine mj_ild S E hM 9 (by omega) (by show _ < 4; omega) dL_mints_135 ?_
  refine mi_top (v' := .int (nI (sD T))) (congrArg Value.int g2) ?_
  refine lv_iconst (v := nI 1) S.1 S.2.1 dL_mints_136 (by decide) ?_
  refine mi_iadd S dL_mints_137 ?_
  refine mi_cR (mi_runS (P := mj_W D A q T gl gi) (As := [.int (y), .int (nI ((sD T) + 1))]) (rest := []) S E hS hM (c_Llow l D A (mj_W D A q T gl gi) (by omega) (by omega)) mw_186 mw_184 mw_185 mw_17 ⟨by decide, by decide, by decide +kernel⟩ ⟨rfl, rfl, Nat.le_of_ble_eq_true rfl, Nat.le_of_ble_eq_true rfl⟩ (n := 2) rfl hl.1 rfl (Nat.le_of_ble_eq_true rfl) dL_mints_138 ⟨Nat.le_of_ble_eq_true rfl, Nat.le_of_ble_eq_true rfl⟩) (fun r9 e9 => ?_)
  obtain ⟨dq, hdq, rfl⟩ := e9
  refine lv_istore (lv' := [(12, .int (nI (dq))), (0, .ref (q 0)), (1, .int (nI (act))), (2, .int (y)), (3, .int (z)), (4, .ref (q 1)), (5, .ref (q 3)), (6, .ref (q 4)), (7, .ref (q 5)), (8, .ref (q 6)), (9, .ref (q 7)), (10, .ref (q 8)), (11, .ref (q 9))]) S.1 S.2.1 dL_mints_141 hl (by decide) rfl (fun ls hl => ?_)
  refine lv_iload_n S.1 S.2.1 dL_mints_143 rfl (lv_at hl 2 rfl) ?_
  refine lv_iconst (v := nI 5) S.1 S.2.1 dL_mints_144 (by decide) ?_
  refine mi_icmp_ge (tgt := 286) S (by omega) (by omega) dL_mints_145 (by decide) (fun c145_1 => ?_) (fun c145_1 => by exfalso; omega)
  refine lv_iload_n S.1 S.2.1 dL_mints_286 rfl (lv_at hl 4 rfl) ?_
  refine lv_aload S.1 S.2.1 dL_mints_287 (lv_at hl 12 rfl) ?_
  refine lv_iconst (v := nI 3) S.1 S.2.1 dL_mints_289 (by decide) ?_
  refine mj_ild S E hM 9 (by omega) (by show _ < 4; omega) dL_mints_290 ?_
  refine mi_top (v' := .int (nI (sC T))) (congrArg Value.int g3) ?_
  refine lv_iconst (v := nI 1) S.1 S.2.1 dL_mints_291 (by decide) ?_
  refine mi_iadd S dL_mints_292 ?_
  refine mi_cR (mi_runS (P := mj_W D A q T gl gi) (As := [.int (z), .int (nI ((sC T) + 1))]) (rest := []) S E hS hM (c_Llow l D A (mj_W D A q T gl gi) (by omega) (by omega)) mw_186 mw_184 mw_185 mw_17 ⟨by decide, by decide, by decide +kernel⟩ ⟨rfl, rfl, Nat.le_of_ble_eq_true rfl, Nat.le_of_ble_eq_true rfl⟩ (n := 2) rfl hl.1 rfl (Nat.le_of_ble_eq_true rfl) dL_mints_293 ⟨Nat.le_of_ble_eq_true rfl, Nat.le_of_ble_eq_true rfl⟩) (fun r9 e9 => ?_)
  obtain ⟨cq, hcq, rfl⟩ := e9
  refine lv_istore (lv' := [(13, .int (nI (cq))), (12, .int (nI (dq))), (0, .ref (q 0)), (1, .int (nI (act))), (2, .int (y)), (3, .int (z)), (4, .ref (q 1)), (5, .ref (q 3)), (6, .ref (q 4)), (7, .ref (q 5)), (8, .ref (q 6)), (9, .ref (q 7)), (10, .ref (q 8)), (11, .ref (q 9))]) S.1 S.2.1 dL_mints_296 hl (by decide) rfl (fun ls hl => ?_)
  refine lv_iconst (v := nI 1) S.1 S.2.1 dL_mints_298 (by decide) ?_
  refine lv_iload_n S.1 S.2.1 dL_mints_299 rfl (lv_at hl 5 rfl) ?_
  refine lv_bipush (v := nI 6) S.1 S.2.1 dL_mints_300 (by decide) ?_
  refine lv_ishr S.1 S.2.1 dL_mints_302 ?_
  refine lv_bipush (v := nI 6) S.1 S.2.1 dL_mints_303 (by decide) ?_
  refine mi_cR (mi_runS (P := mj_W D A q T gl gi) (As := [.int (z >>> ((nI (6)) &&& 31)), .int (nI (6))]) (rest := [.int (nI (1))]) S E hS hM (c_Llow l D A (mj_W D A q T gl gi) (by omega) (by omega)) mw_186 mw_184 mw_185 mw_17 ⟨by decide, by decide, by decide +kernel⟩ ⟨rfl, rfl, Nat.le_of_ble_eq_true rfl, Nat.le_of_ble_eq_true rfl⟩ (n := 2) rfl hl.1 rfl (Nat.le_of_ble_eq_true rfl) dL_mints_305 ⟨Nat.le_of_ble_eq_true rfl, Nat.le_of_ble_eq_true rfl⟩) (fun r9 e9 => ?_)
  obtain ⟨nq, hnq, rfl⟩ := e9
  refine mi_iadd S dL_mints_308 ?_
  refine lv_istore (lv' := [(14, .int (nI (1 + nq))), (13, .int (nI (cq))), (12, .int (nI (dq))), (0, .ref (q 0)), (1, .int (nI (act))), (2, .int (y)), (3, .int (z)), (4, .ref (q 1)), (5, .ref (q 3)), (6, .ref (q 4)), (7, .ref (q 5)), (8, .ref (q 6)), (9, .ref (q 7)), (10, .ref (q 8)), (11, .ref (q 9))]) S.1 S.2.1 dL_mints_309 hl (by decide) rfl (fun ls hl => ?_)
  refine lv_iload S.1 S.2.1 dL_mints_311 (lv_at hl 1 rfl) ?_
  refine lv_aload S.1 S.2.1 dL_mints_313 (lv_at hl 14 rfl) ?_
  refine lv_iconst (v := nI 3) S.1 S.2.1 dL_mints_315 (by decide) ?_
  refine mj_ild S E hM 9 (by omega) (by show _ < 4; omega) dL_mints_316 ?_
  refine mi_top (v' := .int (nI (sC T))) (congrArg Value.int g3) ?_
  refine mi_icmp_eq (tgt := 329) S (by omega) (by omega) dL_mints_317 (by decide) (fun c317_2 => ?_) (fun c317_2 => ?_)
  · refine lv_aload_n S.1 S.2.1 dL_mints_329 rfl (lv_at hl 3 rfl) ?_
    refine lv_iload S.1 S.2.1 dL_mints_330 (lv_at hl 1 rfl) ?_
    refine lv_iload S.1 S.2.1 dL_mints_332 (lv_at hl 2 rfl) ?_
    refine lv_iconst (v := nI 0) S.1 S.2.1 dL_mints_334 (by decide) ?_
    refine mi_cMi (mi_runSH (P := mj_W D A q T gl gi) (As := [.ref (q 0), .int (nI (cq)), .int (nI (dq)), .int (nI (0))]) (rest := []) S E hS hM (j_forge_xx l D A hst q hO (by omega) (by omega) (by omega)) mw_564 mw_562 mw_563 mw_17 ⟨by decide, by decide, by decide +kernel⟩ ⟨rfl, rfl, Nat.le_of_ble_eq_true rfl, Nat.le_of_ble_eq_true rfl⟩ (n := 4) rfl hl.1 rfl (Nat.le_of_ble_eq_true rfl) dL_mints_335 ⟨(by show _ ≤ (12 : Nat); omega), (by show _ ≤ (2100 : Nat); omega)⟩) hS (fun r9 H locs hp9 hS hz9 => ?_)
    obtain ⟨e9, hM⟩ := hp9
    refine mi_top (v' := .int (-71)) (by rw [e9]) ?_
    refine lv_bipush (v := (-71)) S.1 S.2.1 dL_mints_338 (by decide) ?_
    refine lv_icmp_ne (tgt := 360) S.1 S.2.1 dL_mints_340 (by decide) (fun c340_3 => absurd rfl c340_3) (fun _ => ?_)
    refine lv_aload_n S.1 S.2.1 dL_mints_343 rfl (lv_at hl 3 rfl) ?_
    refine lv_iconst (v := (-1)) S.1 S.2.1 dL_mints_344 (by decide) ?_
    refine lv_iload S.1 S.2.1 dL_mints_345 (lv_at hl 2 rfl) ?_
    refine lv_iconst (v := nI 1) S.1 S.2.1 dL_mints_347 (by decide) ?_
    refine mi_cMi (mi_runSH (P := mj_W D A q T gl gi) (As := [.ref (q 0), .int (-1), .int (nI (dq)), .int (nI (1))]) (rest := []) S E hS hM (j_forge_x1 l D A hst q hO lj_m1) mw_564 mw_562 mw_563 mw_17 ⟨by decide, by decide, by decide +kernel⟩ ⟨rfl, rfl, Nat.le_of_ble_eq_true rfl, Nat.le_of_ble_eq_true rfl⟩ (n := 4) rfl hl.1 rfl (Nat.le_of_ble_eq_true rfl) dL_mints_348 ⟨(by show _ ≤ (12 : Nat); omega), (by show _ ≤ (2100 : Nat); omega)⟩) hS (fun r9 H locs hp9 hS hz9 => ?_)
    obtain ⟨e9, hM⟩ := hp9
    refine mi_top (v' := .int (-71)) (by rw [e9]) ?_
    refine lv_bipush (v := (-71)) S.1 S.2.1 dL_mints_351 (by decide) ?_
    refine lv_icmp_ne (tgt := 360) S.1 S.2.1 dL_mints_353 (by decide) (fun c353_4 => absurd rfl c353_4) (fun _ => ?_)
    refine lv_iconst (v := nI 1) S.1 S.2.1 dL_mints_356 (by decide) ?_
    refine lv_goto (tgt := 361) S.1 S.2.1 dL_mints_357 (by decide) ?_
    exact mi_retMz S hr hk hS dL_mints_361 rfl (by show _ ≤ (12 : Nat); omega) (by show _ ≤ (2100 : Nat); omega) (⟨rfl, T, gl, gi, hL, hM⟩)
  · refine lv_iload S.1 S.2.1 dL_mints_320 (lv_at hl 2 rfl) ?_
    refine lv_aload S.1 S.2.1 dL_mints_322 (lv_at hl 14 rfl) ?_
    refine lv_iconst (v := nI 2) S.1 S.2.1 dL_mints_324 (by decide) ?_
    refine mj_ild S E hM 9 (by omega) (by show _ < 4; omega) dL_mints_325 ?_
    refine mi_top (v' := .int (nI (sD T))) (congrArg Value.int g2) ?_
    refine mi_icmp_ne (tgt := 362) S (by omega) (by omega) dL_mints_326 (by decide) (fun c326_5 => ?_) (fun c326_5 => ?_)
    · refine lv_aload_n S.1 S.2.1 dL_mints_362 rfl (lv_at hl 3 rfl) ?_
      refine lv_iload S.1 S.2.1 dL_mints_363 (lv_at hl 1 rfl) ?_
      refine lv_iload S.1 S.2.1 dL_mints_365 (lv_at hl 2 rfl) ?_
      refine lv_iconst (v := nI 0) S.1 S.2.1 dL_mints_367 (by decide) ?_
      refine mi_cMi (mi_runSH (P := mj_W D A q T gl gi) (As := [.ref (q 0), .int (nI (cq)), .int (nI (dq)), .int (nI (0))]) (rest := []) S E hS hM (j_forge_x3 l D A hst q hO (by omega) (by omega) (by decide)) mw_564 mw_562 mw_563 mw_17 ⟨by decide, by decide, by decide +kernel⟩ ⟨rfl, rfl, Nat.le_of_ble_eq_true rfl, Nat.le_of_ble_eq_true rfl⟩ (n := 4) rfl hl.1 rfl (Nat.le_of_ble_eq_true rfl) dL_mints_368 ⟨(by show _ ≤ (12 : Nat); omega), (by show _ ≤ (2100 : Nat); omega)⟩) hS (fun r9 H locs hp9 hS hz9 => ?_)
      obtain ⟨e9, hM⟩ := hp9
      refine mi_top (v' := .int (-72)) (by rw [e9]) ?_
      refine lv_bipush (v := (-72)) S.1 S.2.1 dL_mints_371 (by decide) ?_
      refine lv_icmp_ne (tgt := 391) S.1 S.2.1 dL_mints_373 (by decide) (fun c373_6 => absurd rfl c373_6) (fun _ => ?_)
      refine lv_aload_n S.1 S.2.1 dL_mints_376 rfl (lv_at hl 3 rfl) ?_
      refine lv_iload S.1 S.2.1 dL_mints_377 (lv_at hl 1 rfl) ?_
      refine lv_iload S.1 S.2.1 dL_mints_379 (lv_at hl 2 rfl) ?_
      refine lv_bipush (v := nI 61) S.1 S.2.1 dL_mints_381 (by decide) ?_
      refine mi_cMi (mi_runSH (P := mj_W D A q T gl gi) (As := [.ref (q 0), .int (nI (cq)), .int (nI (dq)), .int (nI (61))]) (rest := []) S E hS hM (j_forge_x3 l D A hst q hO (by omega) (by omega) (by decide)) mw_564 mw_562 mw_563 mw_17 ⟨by decide, by decide, by decide +kernel⟩ ⟨rfl, rfl, Nat.le_of_ble_eq_true rfl, Nat.le_of_ble_eq_true rfl⟩ (n := 4) rfl hl.1 rfl (Nat.le_of_ble_eq_true rfl) dL_mints_383 ⟨(by show _ ≤ (12 : Nat); omega), (by show _ ≤ (2100 : Nat); omega)⟩) hS (fun r9 H locs hp9 hS hz9 => ?_)
      obtain ⟨e9, hM⟩ := hp9
      refine mi_top (v' := .int (-72)) (by rw [e9]) ?_
      refine lv_bipush (v := (-72)) S.1 S.2.1 dL_mints_386 (by decide) ?_
      refine lv_icmp_eq (tgt := 393) S.1 S.2.1 dL_mints_388 (by decide) (fun _ => ?_) (fun c388_7 => absurd rfl c388_7)
      have hxb := oX dq (by omega)
      refine lv_aload S.1 S.2.1 dL_mints_393 (lv_at hl 14 rfl) ?_
      refine lv_iconst (v := nI 3) S.1 S.2.1 dL_mints_395 (by decide) ?_
      refine mj_ild S E hM 9 (by omega) (by show _ < 4; omega) dL_mints_396 ?_
      refine mi_top (v' := .int (nI (sC T))) (congrArg Value.int g3) ?_
      refine lv_bipush (v := nI 60) S.1 S.2.1 dL_mints_397 (by decide) ?_
      refine mi_icmp_eq (tgt := 412) S (by omega) (by omega) dL_mints_399 (by decide) (fun c399_8 => ?_) (fun c399_8 => ?_)
      · refine lv_aload_n S.1 S.2.1 dL_mints_412 rfl (lv_at hl 3 rfl) ?_
        refine lv_iload S.1 S.2.1 dL_mints_413 (lv_at hl 1 rfl) ?_
        refine lv_iload S.1 S.2.1 dL_mints_415 (lv_at hl 2 rfl) ?_
        refine lv_iload S.1 S.2.1 dL_mints_417 (lv_at hl 0 rfl) ?_
        refine mi_cMi (mi_runSH (P := mj_W D A q T gl gi) (As := [.ref (q 0), .int (nI (cq)), .int (nI (dq)), .int (nI (1 + nq))]) (rest := []) S E hS hM (j_forge_xy l D A hst q hO (by omega) (by omega) (by omega) (by omega) (by omega)) mw_564 mw_562 mw_563 mw_17 ⟨by decide, by decide, by decide +kernel⟩ ⟨rfl, rfl, Nat.le_of_ble_eq_true rfl, Nat.le_of_ble_eq_true rfl⟩ (n := 4) rfl hl.1 rfl (Nat.le_of_ble_eq_true rfl) dL_mints_419 ⟨(by show _ ≤ (12 : Nat); omega), (by show _ ≤ (2100 : Nat); omega)⟩) hS (fun r9 H locs hp9 hS hz9 => ?_)
        obtain ⟨e9, hM⟩ := hp9
        refine mi_top (v' := .int (-73)) (by rw [e9]) ?_
        refine lv_bipush (v := (-73)) S.1 S.2.1 dL_mints_422 (by decide) ?_
        refine lv_icmp_ne (tgt := 431) S.1 S.2.1 dL_mints_424 (by decide) (fun c424_9 => absurd rfl c424_9) (fun _ => ?_)
        refine lv_iconst (v := nI 1) S.1 S.2.1 dL_mints_427 (by decide) ?_
        refine lv_goto (tgt := 432) S.1 S.2.1 dL_mints_428 (by decide) ?_
        exact mi_retMz S hr hk hS dL_mints_432 rfl (by show _ ≤ (12 : Nat); omega) (by show _ ≤ (2100 : Nat); omega) (⟨rfl, T, gl, gi, hL, hM⟩)
      · refine lv_aload S.1 S.2.1 dL_mints_402 (lv_at hl 10 rfl) ?_
        refine lv_iload S.1 S.2.1 dL_mints_404 (lv_at hl 2 rfl) ?_
        refine mj_ild S E hM 5 (by omega) (by show _ < 8; omega) dL_mints_406 ?_
        refine mi_top (v' := .int (nI (sX T dq))) (congrArg Value.int (hd9 dq (by omega)).2) ?_
        refine lv_iload S.1 S.2.1 dL_mints_407 (lv_at hl 0 rfl) ?_
        refine mi_icmp_ge (tgt := 433) S (by omega) (by omega) dL_mints_409 (by decide) (fun c409_10 => ?_) (fun c409_10 => ?_)
        · refine lv_aload S.1 S.2.1 dL_mints_433 (lv_at hl 9 rfl) ?_
          refine lv_aload S.1 S.2.1 dL_mints_435 (lv_at hl 14 rfl) ?_
          refine lv_iconst (v := nI 3) S.1 S.2.1 dL_mints_437 (by decide) ?_
          refine mj_ild S E hM 9 (by omega) (by show _ < 4; omega) dL_mints_438 ?_
          refine mi_top (v' := .int (nI (sC T))) (congrArg Value.int g3) ?_
          refine lv_aload S.1 S.2.1 dL_mints_439 (lv_at hl 9 rfl) ?_
          refine lv_iload S.1 S.2.1 dL_mints_441 (lv_at hl 1 rfl) ?_
          refine mj_lld S E hM 4 (by omega) (by show _ < 60; omega) dL_mints_443 ?_
          refine mj_lst S E hS hM 4 (by omega) (by show _ < 60; omega) dL_mints_444 (fun H locs hM hS => ?_)
          refine lv_aload S.1 S.2.1 dL_mints_445 (lv_at hl 11 rfl) ?_
          refine lv_aload S.1 S.2.1 dL_mints_447 (lv_at hl 14 rfl) ?_
          refine lv_iconst (v := nI 3) S.1 S.2.1 dL_mints_449 (by decide) ?_
          refine mj_ild S E hM 9 (by omega) (by show _ < 4; omega) dL_mints_450 ?_
          refine mi_top (v' := .int (nI (sC T))) (congrArg Value.int g3) ?_
          refine lv_iload S.1 S.2.1 dL_mints_451 (lv_at hl 2 rfl) ?_
          refine lv_bipush (v := nI 8) S.1 S.2.1 dL_mints_453 (by decide) ?_
          refine lv_iload S.1 S.2.1 dL_mints_455 (lv_at hl 0 rfl) ?_
          refine mi_imul S dL_mints_457 ?_
          refine mi_iadd S dL_mints_458 ?_
          refine mj_ist S E hS hM 6 (by omega) (by show _ < 60; omega) dL_mints_459 (fun H locs hM hS => ?_)
          refine lv_aload S.1 S.2.1 dL_mints_460 (lv_at hl 14 rfl) ?_
          refine lv_iconst (v := nI 3) S.1 S.2.1 dL_mints_462 (by decide) ?_
          refine lv_dup2_11 S.1 S.2.1 dL_mints_463 rfl rfl ?_
          refine mj_ild S E hM 9 (by omega) (by show _ < 4; omega) dL_mints_464 ?_
          refine mi_top (v' := .int (nI (sC T))) (congrArg Value.int g3) ?_
          refine lv_iconst (v := nI 1) S.1 S.2.1 dL_mints_465 (by decide) ?_
          refine mi_iadd S dL_mints_466 ?_
          refine mj_ist S E hS hM 9 (by omega) (by show _ < 4; omega) dL_mints_467 (fun H locs hM hS => ?_)
          refine lv_aload_n S.1 S.2.1 dL_mints_468 rfl (lv_at hl 3 rfl) ?_
          refine lv_iload S.1 S.2.1 dL_mints_469 (lv_at hl 1 rfl) ?_
          refine lv_iload S.1 S.2.1 dL_mints_471 (lv_at hl 2 rfl) ?_
          refine lv_iload S.1 S.2.1 dL_mints_473 (lv_at hl 0 rfl) ?_
          refine mi_cMi (mi_runSH (P := mj_W D A q T ((va_up gl 4 (vp_updL (gl 4) (sC T) (gl 4 cq)))) ((va_up ((va_up gi 6 (upd (gi 6) (sC T) (nI (dq + (8 * (1 + nq))))))) 9 (upd (((va_up gi 6 (upd (gi 6) (sC T) (nI (dq + (8 * (1 + nq))))))) 9) (3) (nI ((sC T) + 1)))))) (As := [.ref (q 0), .int (nI (cq)), .int (nI (dq)), .int (nI (1 + nq))]) (rest := []) S E hS hM (j_forge l D A hst q hO hAu (by omega) (by omega) (show 1 ≤ 1 + nq by omega) (by omega) (by omega)) mw_564 mw_562 mw_563 mw_17 ⟨by decide, by decide, by decide +kernel⟩ ⟨rfl, rfl, Nat.le_of_ble_eq_true rfl, Nat.le_of_ble_eq_true rfl⟩ (n := 4) rfl hl.1 rfl (Nat.le_of_ble_eq_true rfl) dL_mints_475 ⟨(by show _ ≤ (12 : Nat); omega), (by show _ ≤ (2100 : Nat); omega)⟩) hS (fun r9 H locs hp9 hS hz9 => ?_)
          obtain ⟨e9, hM⟩ := hp9
          refine mi_top (v' := .int (nI (sC T))) (by rw [e9]) ?_
          refine lv_aload S.1 S.2.1 dL_mints_478 (lv_at hl 14 rfl) ?_
          refine lv_iconst (v := nI 3) S.1 S.2.1 dL_mints_480 (by decide) ?_
          refine mj_ild S E hM 9 (by omega) (by show _ < 4; omega) dL_mints_481 ?_
          refine mi_top (v' := .int (nI ((sC T) + 1))) (by first | rfl | exact congrArg Value.int (if_pos rfl)) ?_
          refine lv_iconst (v := nI 1) S.1 S.2.1 dL_mints_482 (by decide) ?_
          refine mi_isub S (by omega) dL_mints_483 ?_
          refine mi_icmp_ne (tgt := 491) S (by omega) (by omega) dL_mints_484 (by decide) (fun c484_11 => by exfalso; omega) (fun c484_11 => ?_)
          refine lv_iconst (v := nI 1) S.1 S.2.1 dL_mints_487 (by decide) ?_
          refine lv_goto (tgt := 492) S.1 S.2.1 dL_mints_488 (by decide) ?_
          exact mi_retMz S hr hk hS dL_mints_492 rfl (by show _ ≤ (12 : Nat); omega) (by show _ ≤ (2100 : Nat); omega) (⟨rfl, _, _, _, lr_coin hL (hc9 cq (by omega)).1, hM⟩)
        · refine lv_aload_n S.1 S.2.1 dL_mints_412 rfl (lv_at hl 3 rfl) ?_
          refine lv_iload S.1 S.2.1 dL_mints_413 (lv_at hl 1 rfl) ?_
          refine lv_iload S.1 S.2.1 dL_mints_415 (lv_at hl 2 rfl) ?_
          refine lv_iload S.1 S.2.1 dL_mints_417 (lv_at hl 0 rfl) ?_
          refine mi_cMi (mi_runSH (P := mj_W D A q T gl gi) (As := [.ref (q 0), .int (nI (cq)), .int (nI (dq)), .int (nI (1 + nq))]) (rest := []) S E hS hM (j_forge_xy l D A hst q hO (by omega) (by omega) (by omega) (by omega) (by omega)) mw_564 mw_562 mw_563 mw_17 ⟨by decide, by decide, by decide +kernel⟩ ⟨rfl, rfl, Nat.le_of_ble_eq_true rfl, Nat.le_of_ble_eq_true rfl⟩ (n := 4) rfl hl.1 rfl (Nat.le_of_ble_eq_true rfl) dL_mints_419 ⟨(by show _ ≤ (12 : Nat); omega), (by show _ ≤ (2100 : Nat); omega)⟩) hS (fun r9 H locs hp9 hS hz9 => ?_)
          obtain ⟨e9, hM⟩ := hp9
          refine mi_top (v' := .int (-73)) (by rw [e9]) ?_
          refine lv_bipush (v := (-73)) S.1 S.2.1 dL_mints_422 (by decide) ?_
          refine lv_icmp_ne (tgt := 431) S.1 S.2.1 dL_mints_424 (by decide) (fun c424_12 => absurd rfl c424_12) (fun _ => ?_)
          refine lv_iconst (v := nI 1) S.1 S.2.1 dL_mints_427 (by decide) ?_
          refine lv_goto (tgt := 432) S.1 S.2.1 dL_mints_428 (by decide) ?_
          exact mi_retMz S hr hk hS dL_mints_432 rfl (by show _ ≤ (12 : Nat); omega) (by show _ ≤ (2100 : Nat); omega) (⟨rfl, T, gl, gi, hL, hM⟩)
    · refine lv_aload_n S.1 S.2.1 dL_mints_329 rfl (lv_at hl 3 rfl) ?_
      refine lv_iload S.1 S.2.1 dL_mints_330 (lv_at hl 1 rfl) ?_
      refine lv_iload S.1 S.2.1 dL_mints_332 (lv_at hl 2 rfl) ?_
      refine lv_iconst (v := nI 0) S.1 S.2.1 dL_mints_334 (by decide) ?_
      refine mi_cMi (mi_runSH (P := mj_W D A q T gl gi) (As := [.ref (q 0), .int (nI (cq)), .int (nI (dq)), .int (nI (0))]) (rest := []) S E hS hM (j_forge_xx l D A hst q hO (by omega) (by omega) (by omega)) mw_564 mw_562 mw_563 mw_17 ⟨by decide, by decide, by decide +kernel⟩ ⟨rfl, rfl, Nat.le_of_ble_eq_true rfl, Nat.le_of_ble_eq_true rfl⟩ (n := 4) rfl hl.1 rfl (Nat.le_of_ble_eq_true rfl) dL_mints_335 ⟨(by show _ ≤ (12 : Nat); omega), (by show _ ≤ (2100 : Nat); omega)⟩) hS (fun r9 H locs hp9 hS hz9 => ?_)
      obtain ⟨e9, hM⟩ := hp9
      refine mi_top (v' := .int (-71)) (by rw [e9]) ?_
      refine lv_bipush (v := (-71)) S.1 S.2.1 dL_mints_338 (by decide) ?_
      refine lv_icmp_ne (tgt := 360) S.1 S.2.1 dL_mints_340 (by decide) (fun c340_13 => absurd rfl c340_13) (fun _ => ?_)
      refine lv_aload_n S.1 S.2.1 dL_mints_343 rfl (lv_at hl 3 rfl) ?_
      refine lv_iconst (v := (-1)) S.1 S.2.1 dL_mints_344 (by decide) ?_
      refine lv_iload S.1 S.2.1 dL_mints_345 (lv_at hl 2 rfl) ?_
      refine lv_iconst (v := nI 1) S.1 S.2.1 dL_mints_347 (by decide) ?_
      refine mi_cMi (mi_runSH (P := mj_W D A q T gl gi) (As := [.ref (q 0), .int (-1), .int (nI (dq)), .int (nI (1))]) (rest := []) S E hS hM (j_forge_x1 l D A hst q hO lj_m1) mw_564 mw_562 mw_563 mw_17 ⟨by decide, by decide, by decide +kernel⟩ ⟨rfl, rfl, Nat.le_of_ble_eq_true rfl, Nat.le_of_ble_eq_true rfl⟩ (n := 4) rfl hl.1 rfl (Nat.le_of_ble_eq_true rfl) dL_mints_348 ⟨(by show _ ≤ (12 : Nat); omega), (by show _ ≤ (2100 : Nat); omega)⟩) hS (fun r9 H locs hp9 hS hz9 => ?_)
      obtain ⟨e9, hM⟩ := hp9
      refine mi_top (v' := .int (-71)) (by rw [e9]) ?_
      refine lv_bipush (v := (-71)) S.1 S.2.1 dL_mints_351 (by decide) ?_
      refine lv_icmp_ne (tgt := 360) S.1 S.2.1 dL_mints_353 (by decide) (fun c353_14 => absurd rfl c353_14) (fun _ => ?_)
      refine lv_iconst (v := nI 1) S.1 S.2.1 dL_mints_356 (by decide) ?_
      refine lv_goto (tgt := 361) S.1 S.2.1 dL_mints_357 (by decide) ?_
      exact mi_retMz S hr hk hS dL_mints_361 rfl (by show _ ≤ (12 : Nat); omega) (by show _ ≤ (2100 : Nat); omega) (⟨rfl, T, gl, gi, hL, hM⟩)
