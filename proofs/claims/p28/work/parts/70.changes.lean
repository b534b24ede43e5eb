/-! the law's changes -/
theorem upd_upd (f : Nat → Int32) (i : Nat) (x y : Int32) : upd (upd f i x) i y = upd f i y := by
  funext j
  show (if j = i then y else if j = i then x else f j) = if j = i then y else f j
  by_cases h : j = i
  · rw [if_pos h, if_pos h]
  · rw [if_neg h, if_neg h, if_neg h]
theorem upd_id (f : Nat → Int32) (i : Nat) : upd f i (f i) = f := by
  funext j
  show (if j = i then f i else f j) = f j
  by_cases h : j = i
  · rw [if_pos h, h]
  · rw [if_neg h]
theorem lr_same {T : sT} {gl : Nat → Nat → Int64} {gi : Nat → Nat → Int32} (h : lr T gl gi) : lr T gl (va_up gi 9 (upd (gi 9) 0 (nI (sW T)))) := ⟨⟨rfl, h.1.2⟩, h.2⟩
theorem sp_fd_none {S : sT} {w b : Nat} : ∀ {n : Nat}, sp_br S w n ≤ b → sp_fd S w b n = w
  | 0, _ => rfl
  | n + 1, h => by
    have h2 := sp_br_mono S w (m := n) (n := n + 1) (by omega)
    by_cases z : sp_pn S n = w + 1
    · rw [sp_br_1 z] at h
      rw [sp_fd_0 (by omega)]
      exact sp_fd_none (by omega)
    · rw [sp_fd_0 (by omega)]
      exact sp_fd_none (by omega)
theorem lj_m1 {N : Nat} : ¬ (0 ≤ (-1 : Int32).toInt ∧ (-1 : Int32).toInt < N) := fun h => absurd h.1 (by decide)
theorem lj_tn {n N : Nat} (h : N ≤ n) (hn : n < 2 ^ 31) : ¬ (0 ≤ (nI n).toInt ∧ (nI n).toInt < N) := by
  rw [nI_toInt hn]
  omega
set_option maxHeartbeats 4000000 in
set_option maxRecDepth 100000 in
theorem c_Lch_set (l : Launch) (D : va_G) (A : Nat → Prop) {q : Nat → Nat} {T : sT} {gl : Nat → Nat → Int64} {gi : Nat → Nat → Int32} (hst : l.stackTraces = false) (hAu : ∀ a b, A a → a ≤ b → A b) (hL : lr T gl gi) {act : Nat} (hact : act < 6) {y z : Int32} : mi_Mi l yL_changes (Cond.code yL_changes cL_changes 14 (some Jvm.ClassFile.FieldType.boolean)) (mi_rq 10 12 2100) D A (mj_W D A q T gl gi) [.ref (q 0), .int (nI (act)), .int (y), .int (z), .ref (q 1), .ref (q 2), .ref (q 9)] 12 2100 (fun r H => r = nI 1 ∧ mj_I D A q H) := by
  refine mi_start (cc := cL_changes) (nL := 14) (ret := (some Jvm.ClassFile.FieldType.boolean)) rfl (by decide) (Nat.le_of_ble_eq_true rfl) ?_
  intro p e s m below meth c ls S E hM hS hr hk hn hl
  have S : CallFix p m c cL_changes 14 s _ ((Cond.code yL_changes cL_changes 14 (some Jvm.ClassFile.FieldType.boolean)) :: mi_G) RL := S
  have hl : lv_has ls 14 [(0, .ref (q 0)), (1, .int (nI (act))), (2, .int (y)), (3, .int (z)), (4, .ref (q 1)), (5, .ref (q 2)), (6, .ref (q 9))] := hl
  have hO := hM.ok
  obtain ⟨⟨o1, o2, o3, o4, o5⟩, oP, oK, oD, oX, oC, oI⟩ := id hO
  obtain ⟨⟨g0, g1, g2, g3⟩, h16, hp9, hk9, hd9, hc9⟩ := id hL
  have mg36_1 : ∀ (a : Nat) (ls : Array Slot), a < 16 → lv_has ls 14 [(1, .int (nI (act))), (2, .int (y)), (3, .int (z)), (0, .ref (q 0)), (4, .ref (q 1)), (5, .ref (q 2)), (6, .ref (q 9))] → W p l e (mi_rq 10 12 2100) s m ([.ref (q 0), .int (nI (act)), .int (y), .int (z), .ref (q 1), .ref (q 2), .ref (q 9)] : List Value).toArray below meth c s.heap [] 0 0 (MQ below (mi_Qi A (fun r H => r = nI 1 ∧ mj_I D A q H)) ([.ref (q 0), .int (nI (act)), .int (y), .int (z), .ref (q 1), .ref (q 2), .ref (q 9)] : List Value).toArray s 12 2100 A) (F0 m 36 ls [.int (nI (a))]) := by
    intro a ls ha  hl
    refine lv_istore (lv' := [(7, .int (nI (a))), (1, .int (nI (act))), (2, .int (y)), (3, .int (z)), (0, .ref (q 0)), (4, .ref (q 1)), (5, .ref (q 2)), (6, .ref (q 9))]) S.1 S.2.1 dL_changes_36 hl (by decide) rfl (fun ls hl => ?_)
    have mg52_2 : ∀ (n8 : Nat) (ls : Array Slot), (n8 = 3 ∨ n8 = 8) → lv_has ls 14 [(7, .int (nI (a))), (1, .int (nI (act))), (2, .int (y)), (3, .int (z)), (0, .ref (q 0)), (4, .ref (q 1)), (5, .ref (q 2)), (6, .ref (q 9))] → W p l e (mi_rq 10 12 2100) s m ([.ref (q 0), .int (nI (act)), .int (y), .int (z), .ref (q 1), .ref (q 2), .ref (q 9)] : List Value).toArray below meth c s.heap [] 0 0 (MQ below (mi_Qi A (fun r H => r = nI 1 ∧ mj_I D A q H)) ([.ref (q 0), .int (nI (act)), .int (y), .int (z), .ref (q 1), .ref (q 2), .ref (q 9)] : List Value).toArray s 12 2100 A) (F0 m 52 ls [.int (nI (n8)), .int (z)]) := by
      intro n8 ls hn8  hl
      refine mi_cR (mi_runS (P := mj_W D A q T gl gi) (As := [.int (z), .int (nI (n8))]) (rest := []) S E hS hM (c_Llow l D A (mj_W D A q T gl gi) (by omega) (by omega)) mw_186 mw_184 mw_185 mw_17 ⟨by decide, by decide, by decide +kernel⟩ ⟨rfl, rfl, Nat.le_of_ble_eq_true rfl, Nat.le_of_ble_eq_true rfl⟩ (n := 2) rfl hl.1 rfl (Nat.le_of_ble_eq_true rfl) dL_changes_52 ⟨Nat.le_of_ble_eq_true rfl, Nat.le_of_ble_eq_true rfl⟩) (fun r9 e9 => ?_)
      obtain ⟨b, hb, rfl⟩ := e9
      refine lv_istore (lv' := [(8, .int (nI (b))), (7, .int (nI (a))), (1, .int (nI (act))), (2, .int (y)), (3, .int (z)), (0, .ref (q 0)), (4, .ref (q 1)), (5, .ref (q 2)), (6, .ref (q 9))]) S.1 S.2.1 dL_changes_55 hl (by decide) rfl (fun ls hl => ?_)
      have hb8 : b < 8 := by omega
      refine lv_iload_n S.1 S.2.1 dL_changes_57 rfl (lv_at hl 4 rfl) ?_
      refine lv_bipush (v := nI 7) S.1 S.2.1 dL_changes_58 (by decide) ?_
      refine lv_ishr S.1 S.2.1 dL_changes_60 ?_
      refine lv_iconst (v := nI 4) S.1 S.2.1 dL_changes_61 (by decide) ?_
      refine mi_cR (mi_runS (P := mj_W D A q T gl gi) (As := [.int (z >>> ((nI (7)) &&& 31)), .int (nI (4))]) (rest := []) S E hS hM (c_Llow l D A (mj_W D A q T gl gi) (by omega) (by omega)) mw_186 mw_184 mw_185 mw_17 ⟨by decide, by decide, by decide +kernel⟩ ⟨rfl, rfl, Nat.le_of_ble_eq_true rfl, Nat.le_of_ble_eq_true rfl⟩ (n := 2) rfl hl.1 rfl (Nat.le_of_ble_eq_true rfl) dL_changes_62 ⟨Nat.le_of_ble_eq_true rfl, Nat.le_of_ble_eq_true rfl⟩) (fun r9 e9 => ?_)
      obtain ⟨kq, hkq, rfl⟩ := e9
      refine lv_istore (lv' := [(9, .int (nI (kq))), (8, .int (nI (b))), (7, .int (nI (a))), (1, .int (nI (act))), (2, .int (y)), (3, .int (z)), (0, .ref (q 0)), (4, .ref (q 1)), (5, .ref (q 2)), (6, .ref (q 9))]) S.1 S.2.1 dL_changes_65 hl (by decide) rfl (fun ls hl => ?_)
      refine lv_iload_n S.1 S.2.1 dL_changes_67 rfl (lv_at hl 3 rfl) ?_
      refine lv_bipush (v := nI 6) S.1 S.2.1 dL_changes_68 (by decide) ?_
      refine mi_icmp_ge (tgt := 242) S (by omega) (by omega) dL_changes_70 (by decide) (fun c70_2 => by exfalso; omega) (fun c70_2 => ?_)
      refine lv_aload_n S.1 S.2.1 dL_changes_73 rfl (lv_at hl 6 rfl) ?_
      refine lv_bipush (v := nI 16) S.1 S.2.1 dL_changes_74 (by decide) ?_
      refine lv_iload S.1 S.2.1 dL_changes_76 (lv_at hl 1 rfl) ?_
      refine lv_bipush (v := nI 9) S.1 S.2.1 dL_changes_78 (by decide) ?_
      refine mi_cMi (mi_runSH (P := mj_W D A q T gl gi) (As := [.ref (q 0), .int (nI (16)), .int (nI (b)), .int (nI (9))]) (rest := []) S E hS hM (j_set_x1 l D A hst q hO (by decide)) mw_192 mw_190 mw_191 mw_17 ⟨by decide, by decide, by decide +kernel⟩ ⟨rfl, rfl, Nat.le_of_ble_eq_true rfl, Nat.le_of_ble_eq_true rfl⟩ (n := 4) rfl hl.1 rfl (Nat.le_of_ble_eq_true rfl) dL_changes_80 ⟨(by show _ ≤ (12 : Nat); omega), (by show _ ≤ (2100 : Nat); omega)⟩) hS (fun r9 H locs hp9 hS hz9 => ?_)
      obtain ⟨e9, hM⟩ := hp9
      refine mi_top (v' := .int (-71)) (by rw [e9]) ?_
      refine lv_bipush (v := (-71)) S.1 S.2.1 dL_changes_83 (by decide) ?_
      refine lv_icmp_ne (tgt := 145) S.1 S.2.1 dL_changes_85 (by decide) (fun c85_3 => absurd rfl c85_3) (fun _ => ?_)
      refine lv_aload_n S.1 S.2.1 dL_changes_88 rfl (lv_at hl 6 rfl) ?_
      refine lv_iload S.1 S.2.1 dL_changes_89 (lv_at hl 2 rfl) ?_
      refine lv_bipush (v := nI 8) S.1 S.2.1 dL_changes_91 (by decide) ?_
      refine lv_iload S.1 S.2.1 dL_changes_93 (lv_at hl 0 rfl) ?_
      refine mi_cMi (mi_runSH (P := mj_W D A q T gl gi) (As := [.ref (q 0), .int (nI (a)), .int (nI (8)), .int (nI (kq))]) (rest := []) S E hS hM (j_set_x2 l D A hst q hO ha (by decide)) mw_192 mw_190 mw_191 mw_17 ⟨by decide, by decide, by decide +kernel⟩ ⟨rfl, rfl, Nat.le_of_ble_eq_true rfl, Nat.le_of_ble_eq_true rfl⟩ (n := 4) rfl hl.1 rfl (Nat.le_of_ble_eq_true rfl) dL_changes_95 ⟨(by show _ ≤ (12 : Nat); omega), (by show _ ≤ (2100 : Nat); omega)⟩) hS (fun r9 H locs hp9 hS hz9 => ?_)
      obtain ⟨e9, hM⟩ := hp9
      refine mi_top (v' := .int (-71)) (by rw [e9]) ?_
      refine lv_bipush (v := (-71)) S.1 S.2.1 dL_changes_98 (by decide) ?_
      refine lv_icmp_ne (tgt := 145) S.1 S.2.1 dL_changes_100 (by decide) (fun c100_4 => absurd rfl c100_4) (fun _ => ?_)
      refine lv_aload_n S.1 S.2.1 dL_changes_103 rfl (lv_at hl 6 rfl) ?_
      refine lv_iconst (v := (-1)) S.1 S.2.1 dL_changes_104 (by decide) ?_
      refine lv_iload S.1 S.2.1 dL_changes_105 (lv_at hl 1 rfl) ?_
      refine lv_iload S.1 S.2.1 dL_changes_107 (lv_at hl 0 rfl) ?_
      refine mi_cMi (mi_runSH (P := mj_W D A q T gl gi) (As := [.ref (q 0), .int (-1), .int (nI (b)), .int (nI (kq))]) (rest := []) S E hS hM (j_set_x1 l D A hst q hO (by decide)) mw_192 mw_190 mw_191 mw_17 ⟨by decide, by decide, by decide +kernel⟩ ⟨rfl, rfl, Nat.le_of_ble_eq_true rfl, Nat.le_of_ble_eq_true rfl⟩ (n := 4) rfl hl.1 rfl (Nat.le_of_ble_eq_true rfl) dL_changes_109 ⟨(by show _ ≤ (12 : Nat); omega), (by show _ ≤ (2100 : Nat); omega)⟩) hS (fun r9 H locs hp9 hS hz9 => ?_)
      obtain ⟨e9, hM⟩ := hp9
      refine mi_top (v' := .int (-71)) (by rw [e9]) ?_
      refine lv_bipush (v := (-71)) S.1 S.2.1 dL_changes_112 (by decide) ?_
      refine lv_icmp_ne (tgt := 145) S.1 S.2.1 dL_changes_114 (by decide) (fun c114_5 => absurd rfl c114_5) (fun _ => ?_)
      refine lv_aload_n S.1 S.2.1 dL_changes_117 rfl (lv_at hl 6 rfl) ?_
      refine lv_iload S.1 S.2.1 dL_changes_118 (lv_at hl 2 rfl) ?_
      refine lv_iload S.1 S.2.1 dL_changes_120 (lv_at hl 1 rfl) ?_
      refine lv_iconst (v := nI 4) S.1 S.2.1 dL_changes_122 (by decide) ?_
      refine mi_cMi (mi_runSH (P := mj_W D A q T gl gi) (As := [.ref (q 0), .int (nI (a)), .int (nI (b)), .int (nI (4))]) (rest := []) S E hS hM (j_set_x3 l D A hst q hO ha hb8 (by decide)) mw_192 mw_190 mw_191 mw_17 ⟨by decide, by decide, by decide +kernel⟩ ⟨rfl, rfl, Nat.le_of_ble_eq_true rfl, Nat.le_of_ble_eq_true rfl⟩ (n := 4) rfl hl.1 rfl (Nat.le_of_ble_eq_true rfl) dL_changes_123 ⟨(by show _ ≤ (12 : Nat); omega), (by show _ ≤ (2100 : Nat); omega)⟩) hS (fun r9 H locs hp9 hS hz9 => ?_)
      obtain ⟨e9, hM⟩ := hp9
      refine mi_top (v' := .int (-72)) (by rw [e9]) ?_
      refine lv_bipush (v := (-72)) S.1 S.2.1 dL_changes_126 (by decide) ?_
      refine lv_icmp_ne (tgt := 145) S.1 S.2.1 dL_changes_128 (by decide) (fun c128_6 => absurd rfl c128_6) (fun _ => ?_)
      refine lv_aload_n S.1 S.2.1 dL_changes_131 rfl (lv_at hl 6 rfl) ?_
      refine lv_iload S.1 S.2.1 dL_changes_132 (lv_at hl 2 rfl) ?_
      refine lv_iload S.1 S.2.1 dL_changes_134 (lv_at hl 1 rfl) ?_
      refine lv_iconst (v := (-1)) S.1 S.2.1 dL_changes_136 (by decide) ?_
      refine mi_cMi (mi_runSH (P := mj_W D A q T gl gi) (As := [.ref (q 0), .int (nI (a)), .int (nI (b)), .int (-1)]) (rest := []) S E hS hM (j_set_x3 l D A hst q hO ha hb8 (by decide)) mw_192 mw_190 mw_191 mw_17 ⟨by decide, by decide, by decide +kernel⟩ ⟨rfl, rfl, Nat.le_of_ble_eq_true rfl, Nat.le_of_ble_eq_true rfl⟩ (n := 4) rfl hl.1 rfl (Nat.le_of_ble_eq_true rfl) dL_changes_137 ⟨(by show _ ≤ (12 : Nat); omega), (by show _ ≤ (2100 : Nat); omega)⟩) hS (fun r9 H locs hp9 hS hz9 => ?_)
      obtain ⟨e9, hM⟩ := hp9
      refine mi_top (v' := .int (-72)) (by rw [e9]) ?_
      refine lv_bipush (v := (-72)) S.1 S.2.1 dL_changes_140 (by decide) ?_
      refine lv_icmp_eq (tgt := 147) S.1 S.2.1 dL_changes_142 (by decide) (fun _ => ?_) (fun c142_7 => absurd rfl c142_7)
      refine lv_aload S.1 S.2.1 dL_changes_147 (lv_at hl 9 rfl) ?_
      refine lv_iconst (v := nI 1) S.1 S.2.1 dL_changes_149 (by decide) ?_
      refine mj_ild S E hM 9 (by omega) (by show _ < 4; omega) dL_changes_150 ?_
      refine mi_top (v' := .int (nI (sN T))) (congrArg Value.int g1) ?_
      refine lv_bipush (v := nI 16) S.1 S.2.1 dL_changes_151 (by decide) ?_
      refine mi_icmp_ne (tgt := 171) S (by omega) (by omega) dL_changes_153 (by decide) (fun c153_8 => ?_) (fun c153_8 => ?_)
      · refine lv_aload S.1 S.2.1 dL_changes_171 (lv_at hl 7 rfl) ?_
        refine lv_aload S.1 S.2.1 dL_changes_173 (lv_at hl 8 rfl) ?_
        refine lv_aload S.1 S.2.1 dL_changes_175 (lv_at hl 9 rfl) ?_
        refine mi_cMv (mi_runS (P := mj_W D A q T gl gi) (As := [.ref (q 1), .ref (q 2), .ref (q 9)]) (rest := []) S E hS hM (c_Lgrow l D A hO g0 g1 (by omega)) mw_347 mw_345 mw_346 mw_17 ⟨by decide, by decide, by decide +kernel⟩ ⟨rfl, rfl, Nat.le_of_ble_eq_true rfl, Nat.le_of_ble_eq_true rfl⟩ (n := 3) rfl hl.1 rfl (Nat.le_of_ble_eq_true rfl) dL_changes_177 ⟨Nat.le_of_ble_eq_true rfl, Nat.le_of_ble_eq_true rfl⟩) hS (fun H locs hM hS hz9 => ?_)
        have hL1 := lr_grow hL hO (by omega)
        refine lv_aload S.1 S.2.1 dL_changes_180 (lv_at hl 7 rfl) ?_
        refine lv_aload S.1 S.2.1 dL_changes_182 (lv_at hl 9 rfl) ?_
        refine lv_iconst (v := nI 0) S.1 S.2.1 dL_changes_184 (by decide) ?_
        refine mj_ild S E hM 9 (by omega) (by show _ < 4; omega) dL_changes_185 ?_
        refine mi_top (v' := .int (nI (sN T))) (rfl) ?_
        refine lv_iload S.1 S.2.1 dL_changes_186 (lv_at hl 2 rfl) ?_
        refine lv_aload S.1 S.2.1 dL_changes_188 (lv_at hl 7 rfl) ?_
        refine lv_aload S.1 S.2.1 dL_changes_190 (lv_at hl 9 rfl) ?_
        refine lv_iconst (v := nI 0) S.1 S.2.1 dL_changes_192 (by decide) ?_
        refine mj_ild S E hM 9 (by omega) (by show _ < 4; omega) dL_changes_193 ?_
        refine mi_top (v' := .int (nI (sN T))) (rfl) ?_
        refine lv_iload S.1 S.2.1 dL_changes_194 (lv_at hl 2 rfl) ?_
        refine mi_cR (mi_runS (P := mj_W D A q T ((va_up gl 1 (lj_gr (gl 1) (sN T) (sW T) 4))) ((va_up (va_up gi 2 (upd (gi 2) (sN T) (nI (sW T)))) 9 (upd (upd (gi 9) 0 (nI (sN T))) 1 (nI (sN T + 1)))))) (As := [.ref (q 1), .int (nI (sN T)), .int (nI (a))]) (rest := [.int (nI (a)), .int (nI (sN T)), .ref (q 1)]) S E hS hM (c_Lcolumn l D A (by omega) (by omega)) mw_350 mw_348 mw_349 mw_17 ⟨by decide, by decide, by decide +kernel⟩ ⟨rfl, rfl, Nat.le_of_ble_eq_true rfl, Nat.le_of_ble_eq_true rfl⟩ (n := 3) rfl hl.1 rfl (Nat.le_of_ble_eq_true rfl) dL_changes_196 ⟨Nat.le_of_ble_eq_true rfl, Nat.le_of_ble_eq_true rfl⟩) (fun r9 e9 => ?_)
        subst e9
        have hxc := hL1.2.2.2.1 (sN T) (a) (Nat.lt_succ_self _) (by omega)
        rw [st_new_K, if_pos rfl] at hxc
        obtain ⟨xc, hxe⟩ : ∃ z, z = lj_col (((va_up gl 1 (lj_gr (gl 1) (sN T) (sW T) 4))) 1) (sN T) (a) := ⟨_, rfl⟩
        refine mi_top (v' := .int xc) (by rw [hxe]) ?_
        rw [← hxe] at hxc
        refine lv_iconst (v := nI 3) S.1 S.2.1 dL_changes_199 (by decide) ?_
        refine lv_iconst (v := nI 2) S.1 S.2.1 dL_changes_200 (by decide) ?_
        refine lv_iload S.1 S.2.1 dL_changes_201 (lv_at hl 1 rfl) ?_
        refine mi_imul S dL_changes_203 ?_
        refine lv_ishl S.1 S.2.1 dL_changes_204 ?_
        refine lv_iconst (v := (-1)) S.1 S.2.1 dL_changes_205 (by decide) ?_
        refine lv_ixor S.1 S.2.1 dL_changes_206 ?_
        refine lv_iand S.1 S.2.1 dL_changes_207 ?_
        refine lv_iload S.1 S.2.1 dL_changes_208 (lv_at hl 0 rfl) ?_
        refine lv_iconst (v := nI 2) S.1 S.2.1 dL_changes_210 (by decide) ?_
        refine lv_iload S.1 S.2.1 dL_changes_211 (lv_at hl 1 rfl) ?_
        refine mi_imul S dL_changes_213 ?_
        refine lv_ishl S.1 S.2.1 dL_changes_214 ?_
        refine lv_ior S.1 S.2.1 dL_changes_215 ?_
        refine mi_top (v' := .int (mo_pt xc b kq)) (rfl) ?_
        refine mi_cMv (mi_runS (P := mj_W D A q T ((va_up gl 1 (lj_gr (gl 1) (sN T) (sW T) 4))) ((va_up (va_up gi 2 (upd (gi 2) (sN T) (nI (sW T)))) 9 (upd (upd (gi 9) 0 (nI (sN T))) 1 (nI (sN T + 1)))))) (As := [.ref (q 1), .int (nI (sN T)), .int (nI (a)), .int (mo_pt xc b kq)]) (rest := []) S E hS hM (c_Llay l D A (by omega) (by omega)) mw_354 mw_352 mw_353 mw_17 ⟨by decide, by decide, by decide +kernel⟩ ⟨rfl, rfl, Nat.le_of_ble_eq_true rfl, Nat.le_of_ble_eq_true rfl⟩ (n := 4) rfl hl.1 rfl (Nat.le_of_ble_eq_true rfl) dL_changes_216 ⟨Nat.le_of_ble_eq_true rfl, Nat.le_of_ble_eq_true rfl⟩) hS (fun H locs hM hS hz9 => ?_)
        have hL2 := lr_lay hL1 ha (mo_pk_put hxc hb8 hkq) (fun c1 _ hne l1 hl1 => mi_un_n (by omega))
        refine lv_aload_n S.1 S.2.1 dL_changes_219 rfl (lv_at hl 6 rfl) ?_
        refine lv_iload S.1 S.2.1 dL_changes_220 (lv_at hl 2 rfl) ?_
        refine lv_iload S.1 S.2.1 dL_changes_222 (lv_at hl 1 rfl) ?_
        refine lv_iload S.1 S.2.1 dL_changes_224 (lv_at hl 0 rfl) ?_
        refine mi_cMi (mi_runSH (P := mj_W D A q T ((va_up ((va_up gl 1 (lj_gr (gl 1) (sN T) (sW T) 4))) 1 (lj_lay (((va_up gl 1 (lj_gr (gl 1) (sN T) (sW T) 4))) 1) (sN T) (a) (mo_pt xc b kq)))) ((va_up (va_up gi 2 (upd (gi 2) (sN T) (nI (sW T)))) 9 (upd (upd (gi 9) 0 (nI (sN T))) 1 (nI (sN T + 1)))))) (As := [.ref (q 0), .int (nI (a)), .int (nI (b)), .int (nI (kq))]) (rest := []) S E hS hM (j_set l D A hst q hO hAu ha hb8 hkq (by omega)) mw_192 mw_190 mw_191 mw_17 ⟨by decide, by decide, by decide +kernel⟩ ⟨rfl, rfl, Nat.le_of_ble_eq_true rfl, Nat.le_of_ble_eq_true rfl⟩ (n := 4) rfl hl.1 rfl (Nat.le_of_ble_eq_true rfl) dL_changes_226 ⟨(by show _ ≤ (12 : Nat); omega), (by show _ ≤ (2100 : Nat); omega)⟩) hS (fun r9 H locs hp9 hS hz9 => ?_)
        obtain ⟨e9, hM⟩ := hp9
        refine mi_top (v' := .int (nI (sN T))) (by rw [e9]) ?_
        refine lv_aload S.1 S.2.1 dL_changes_229 (lv_at hl 9 rfl) ?_
        refine lv_iconst (v := nI 0) S.1 S.2.1 dL_changes_231 (by decide) ?_
        refine mj_ild S E hM 9 (by omega) (by show _ < 4; omega) dL_changes_232 ?_
        refine mi_top (v' := .int (nI (sN T))) (rfl) ?_
        refine mi_icmp_ne (tgt := 240) S (by omega) (by omega) dL_changes_233 (by decide) (fun c233_9 => by exfalso; omega) (fun c233_9 => ?_)
        refine lv_iconst (v := nI 1) S.1 S.2.1 dL_changes_236 (by decide) ?_
        refine lv_goto (tgt := 241) S.1 S.2.1 dL_changes_237 (by decide) ?_
        exact mi_retMz S hr hk hS dL_changes_241 rfl (by show _ ≤ (12 : Nat); omega) (by show _ ≤ (2100 : Nat); omega) (⟨rfl, _, _, _, hL2, hM⟩)
      · refine lv_aload_n S.1 S.2.1 dL_changes_156 rfl (lv_at hl 6 rfl) ?_
        refine mi_cR (mi_runV (P := mj_W D A q T gl gi) (As := []) (rest := []) S E hS hM (q 0) (j_states l D A hst q hO) (hM.recv E) mw_344 mw_341 mw_342 mw_343 mw_18 ⟨by decide, by decide, by decide +kernel⟩ ⟨rfl, rfl, Nat.le_of_ble_eq_true rfl, Nat.le_of_ble_eq_true rfl⟩ (n := 0) rfl hl.1 rfl (Nat.le_of_ble_eq_true rfl) dL_changes_157 ⟨by show _ ≤ (12 : Nat); omega, by show _ ≤ (2100 : Nat); omega⟩) (fun r9 e9 => ?_)
        subst e9
        refine lv_bipush (v := nI 16) S.1 S.2.1 dL_changes_160 (by decide) ?_
        refine mi_icmp_ne (tgt := 169) S (by omega) (by omega) dL_changes_162 (by decide) (fun c162_10 => by exfalso; omega) (fun c162_10 => ?_)
        refine lv_iconst (v := nI 1) S.1 S.2.1 dL_changes_165 (by decide) ?_
        refine lv_goto (tgt := 170) S.1 S.2.1 dL_changes_166 (by decide) ?_
        exact mi_retMz S hr hk hS dL_changes_170 rfl (by show _ ≤ (12 : Nat); omega) (by show _ ≤ (2100 : Nat); omega) (⟨rfl, T, gl, gi, hL, hM⟩)
    refine lv_iload_n S.1 S.2.1 dL_changes_38 rfl (lv_at hl 3 rfl) ?_
    refine lv_iload_n S.1 S.2.1 dL_changes_39 rfl (lv_at hl 3 rfl) ?_
    refine lv_bipush (v := nI 96) S.1 S.2.1 dL_changes_40 (by decide) ?_
    refine lv_iand S.1 S.2.1 dL_changes_42 ?_
    refine mi_xif_ne (tgt := 51) S (rfl : (z &&& (nI (96))).toInt = _) dL_changes_43 (by decide) (fun c43_11 => ?_) (fun c43_11 => ?_)
    · refine lv_iconst (v := nI 3) S.1 S.2.1 dL_changes_51 (by decide) ?_
      exact mg52_2 3  _ (by omega)  (lv_sub hl [0, 1, 2, 3, 4, 5, 6, 7] rfl)
    · refine lv_bipush (v := nI 8) S.1 S.2.1 dL_changes_46 (by decide) ?_
      refine lv_goto (tgt := 52) S.1 S.2.1 dL_changes_48 (by decide) ?_
      exact mg52_2 8  _ (by omega)  (lv_sub hl [0, 1, 2, 3, 4, 5, 6, 7] rfl)
  refine lv_iload_n S.1 S.2.1 dL_changes_0 rfl (lv_at hl 2 rfl) ?_
  refine lv_bipush (v := nI 6) S.1 S.2.1 dL_changes_1 (by decide) ?_
  refine lv_iand S.1 S.2.1 dL_changes_3 ?_
  refine mi_xif_ne (tgt := 18) S (rfl : (y &&& (nI (6))).toInt = _) dL_changes_4 (by decide) (fun c4_12 => ?_) (fun c4_12 => ?_)
  · refine lv_iload_n S.1 S.2.1 dL_changes_18 rfl (lv_at hl 2 rfl) ?_
    refine lv_iconst (v := nI 3) S.1 S.2.1 dL_changes_19 (by decide) ?_
    refine lv_ishr S.1 S.2.1 dL_changes_20 ?_
    refine lv_iconst (v := nI 3) S.1 S.2.1 dL_changes_21 (by decide) ?_
    refine mi_cR (mi_runS (P := mj_W D A q T gl gi) (As := [.int (y >>> ((nI (3)) &&& 31)), .int (nI (3))]) (rest := []) S E hS hM (c_Llow l D A (mj_W D A q T gl gi) (by omega) (by omega)) mw_186 mw_184 mw_185 mw_17 ⟨by decide, by decide, by decide +kernel⟩ ⟨rfl, rfl, Nat.le_of_ble_eq_true rfl, Nat.le_of_ble_eq_true rfl⟩ (n := 2) rfl hl.1 rfl (Nat.le_of_ble_eq_true rfl) dL_changes_22 ⟨Nat.le_of_ble_eq_true rfl, Nat.le_of_ble_eq_true rfl⟩) (fun r9 e9 => ?_)
    obtain ⟨t1, ht1, rfl⟩ := e9
    refine lv_iconst (v := nI 4) S.1 S.2.1 dL_changes_25 (by decide) ?_
    refine mi_imul S dL_changes_26 ?_
    refine lv_iload_n S.1 S.2.1 dL_changes_27 rfl (lv_at hl 2 rfl) ?_
    refine lv_bipush (v := nI 6) S.1 S.2.1 dL_changes_28 (by decide) ?_
    refine lv_ishr S.1 S.2.1 dL_changes_30 ?_
    refine lv_iconst (v := nI 2) S.1 S.2.1 dL_changes_31 (by decide) ?_
    refine mi_cR (mi_runS (P := mj_W D A q T gl gi) (As := [.int (y >>> ((nI (6)) &&& 31)), .int (nI (2))]) (rest := [.int (nI (t1 * 4))]) S E hS hM (c_Llow l D A (mj_W D A q T gl gi) (by omega) (by omega)) mw_186 mw_184 mw_185 mw_17 ⟨by decide, by decide, by decide +kernel⟩ ⟨rfl, rfl, Nat.le_of_ble_eq_true rfl, Nat.le_of_ble_eq_true rfl⟩ (n := 2) rfl hl.1 rfl (Nat.le_of_ble_eq_true rfl) dL_changes_32 ⟨Nat.le_of_ble_eq_true rfl, Nat.le_of_ble_eq_true rfl⟩) (fun r9 e9 => ?_)
    obtain ⟨t2, ht2, rfl⟩ := e9
    refine mi_iadd S dL_changes_35 ?_
    exact mg36_1 ((t1 * 4) + t2)  _ (by omega)  (lv_sub hl [1, 2, 3, 0, 4, 5, 6] rfl)
  · refine lv_iload_n S.1 S.2.1 dL_changes_7 rfl (lv_at hl 2 rfl) ?_
    refine lv_iconst (v := nI 3) S.1 S.2.1 dL_changes_8 (by decide) ?_
    refine lv_ishr S.1 S.2.1 dL_changes_9 ?_
    refine lv_bipush (v := nI 16) S.1 S.2.1 dL_changes_10 (by decide) ?_
    refine mi_cR (mi_runS (P := mj_W D A q T gl gi) (As := [.int (y >>> ((nI (3)) &&& 31)), .int (nI (16))]) (rest := []) S E hS hM (c_Llow l D A (mj_W D A q T gl gi) (by omega) (by omega)) mw_186 mw_184 mw_185 mw_17 ⟨by decide, by decide, by decide +kernel⟩ ⟨rfl, rfl, Nat.le_of_ble_eq_true rfl, Nat.le_of_ble_eq_true rfl⟩ (n := 2) rfl hl.1 rfl (Nat.le_of_ble_eq_true rfl) dL_changes_12 ⟨Nat.le_of_ble_eq_true rfl, Nat.le_of_ble_eq_true rfl⟩) (fun r9 e9 => ?_)
    obtain ⟨t16, ht16, rfl⟩ := e9
    refine lv_goto (tgt := 36) S.1 S.2.1 dL_changes_15 (by decide) ?_
    exact mg36_1 t16  _ (by omega)  (lv_sub hl [1, 2, 3, 0, 4, 5, 6] rfl)
set_option maxHeartbeats 4000000 in
set_option maxRecDepth 100000 in
theorem c_Lch_raise (l : Launch) (D : va_G) (A : Nat → Prop) {q : Nat → Nat} {T : sT} {gl : Nat → Nat → Int64} {gi : Nat → Nat → Int32} (hst : l.stackTraces = false) (hAu : ∀ a b, A a → a ≤ b → A b) (hL : lr T gl gi) {act : Nat} (hact : 6 ≤ act ∧ act < 9) {y z : Int32} : mi_Mi l yL_changes (Cond.code yL_changes cL_changes 14 (some Jvm.ClassFile.FieldType.boolean)) (mi_rq 10 12 2100) D A (mj_W D A q T gl gi) [.ref (q 0), .int (nI (act)), .int (y), .int (z), .ref (q 1), .ref (q 2), .ref (q 9)] 12 2100 (fun r H => r = nI 1 ∧ mj_I D A q H) := by
  refine mi_start (cc := cL_changes) (nL := 14) (ret := (some Jvm.ClassFile.FieldType.boolean)) rfl (by decide) (Nat.le_of_ble_eq_true rfl) ?_
  intro p e s m below meth c ls S E hM hS hr hk hn hl
  have S : CallFix p m c cL_changes 14 s _ ((Cond.code yL_changes cL_changes 14 (some Jvm.ClassFile.FieldType.boolean)) :: mi_G) RL := S
  have hl : lv_has ls 14 [(0, .ref (q 0)), (1, .int (nI (act))), (2, .int (y)), (3, .int (z)), (4, .ref (q 1)), (5, .ref (q 2)), (6, .ref (q 9))] := hl
  have hO := hM.ok
  obtain ⟨⟨o1, o2, o3, o4, o5⟩, oP, oK, oD, oX, oC, oI⟩ := id hO
  obtain ⟨⟨g0, g1, g2, g3⟩, h16, hp9, hk9, hd9, hc9⟩ := id hL
  have mg36_1 : ∀ (a : Nat) (ls : Array Slot), a < 16 → lv_has ls 14 [(1, .int (nI (act))), (2, .int (y)), (3, .int (z)), (0, .ref (q 0)), (4, .ref (q 1)), (5, .ref (q 2)), (6, .ref (q 9))] → W p l e (mi_rq 10 12 2100) s m ([.ref (q 0), .int (nI (act)), .int (y), .int (z), .ref (q 1), .ref (q 2), .ref (q 9)] : List Value).toArray below meth c s.heap [] 0 0 (MQ below (mi_Qi A (fun r H => r = nI 1 ∧ mj_I D A q H)) ([.ref (q 0), .int (nI (act)), .int (y), .int (z), .ref (q 1), .ref (q 2), .ref (q 9)] : List Value).toArray s 12 2100 A) (F0 m 36 ls [.int (nI (a))]) := by
    intro a ls ha  hl
    refine lv_istore (lv' := [(7, .int (nI (a))), (1, .int (nI (act))), (2, .int (y)), (3, .int (z)), (0, .ref (q 0)), (4, .ref (q 1)), (5, .ref (q 2)), (6, .ref (q 9))]) S.1 S.2.1 dL_changes_36 hl (by decide) rfl (fun ls hl => ?_)
    have mg52_2 : ∀ (n8 : Nat) (ls : Array Slot), (n8 = 3 ∨ n8 = 8) → lv_has ls 14 [(7, .int (nI (a))), (1, .int (nI (act))), (2, .int (y)), (3, .int (z)), (0, .ref (q 0)), (4, .ref (q 1)), (5, .ref (q 2)), (6, .ref (q 9))] → W p l e (mi_rq 10 12 2100) s m ([.ref (q 0), .int (nI (act)), .int (y), .int (z), .ref (q 1), .ref (q 2), .ref (q 9)] : List Value).toArray below meth c s.heap [] 0 0 (MQ below (mi_Qi A (fun r H => r = nI 1 ∧ mj_I D A q H)) ([.ref (q 0), .int (nI (act)), .int (y), .int (z), .ref (q 1), .ref (q 2), .ref (q 9)] : List Value).toArray s 12 2100 A) (F0 m 52 ls [.int (nI (n8)), .int (z)]) := by
      intro n8 ls hn8  hl
      refine mi_cR (mi_runS (P := mj_W D A q T gl gi) (As := [.int (z), .int (nI (n8))]) (rest := []) S E hS hM (c_Llow l D A (mj_W D A q T gl gi) (by omega) (by omega)) mw_186 mw_184 mw_185 mw_17 ⟨by decide, by decide, by decide +kernel⟩ ⟨rfl, rfl, Nat.le_of_ble_eq_true rfl, Nat.le_of_ble_eq_true rfl⟩ (n := 2) rfl hl.1 rfl (Nat.le_of_ble_eq_true rfl) dL_changes_52 ⟨Nat.le_of_ble_eq_true rfl, Nat.le_of_ble_eq_true rfl⟩) (fun r9 e9 => ?_)
      obtain ⟨b, hb, rfl⟩ := e9
      refine lv_istore (lv' := [(8, .int (nI (b))), (7, .int (nI (a))), (1, .int (nI (act))), (2, .int (y)), (3, .int (z)), (0, .ref (q 0)), (4, .ref (q 1)), (5, .ref (q 2)), (6, .ref (q 9))]) S.1 S.2.1 dL_changes_55 hl (by decide) rfl (fun ls hl => ?_)
      have hb8 : b < 8 := by omega
      refine lv_iload_n S.1 S.2.1 dL_changes_57 rfl (lv_at hl 4 rfl) ?_
      refine lv_bipush (v := nI 7) S.1 S.2.1 dL_changes_58 (by decide) ?_
      refine lv_ishr S.1 S.2.1 dL_changes_60 ?_
      refine lv_iconst (v := nI 4) S.1 S.2.1 dL_changes_61 (by decide) ?_
      refine mi_cR (mi_runS (P := mj_W D A q T gl gi) (As := [.int (z >>> ((nI (7)) &&& 31)), .int (nI (4))]) (rest := []) S E hS hM (c_Llow l D A (mj_W D A q T gl gi) (by omega) (by omega)) mw_186 mw_184 mw_185 mw_17 ⟨by decide, by decide, by decide +kernel⟩ ⟨rfl, rfl, Nat.le_of_ble_eq_true rfl, Nat.le_of_ble_eq_true rfl⟩ (n := 2) rfl hl.1 rfl (Nat.le_of_ble_eq_true rfl) dL_changes_62 ⟨Nat.le_of_ble_eq_true rfl, Nat.le_of_ble_eq_true rfl⟩) (fun r9 e9 => ?_)
      obtain ⟨kq, hkq, rfl⟩ := e9
      refine lv_istore (lv' := [(9, .int (nI (kq))), (8, .int (nI (b))), (7, .int (nI (a))), (1, .int (nI (act))), (2, .int (y)), (3, .int (z)), (0, .ref (q 0)), (4, .ref (q 1)), (5, .ref (q 2)), (6, .ref (q 9))]) S.1 S.2.1 dL_changes_65 hl (by decide) rfl (fun ls hl => ?_)
      refine lv_iload_n S.1 S.2.1 dL_changes_67 rfl (lv_at hl 3 rfl) ?_
      refine lv_bipush (v := nI 6) S.1 S.2.1 dL_changes_68 (by decide) ?_
      refine mi_icmp_ge (tgt := 242) S (by omega) (by omega) dL_changes_70 (by decide) (fun c70_2 => ?_) (fun c70_2 => by exfalso; omega)
      refine lv_iload_n S.1 S.2.1 dL_changes_242 rfl (lv_at hl 3 rfl) ?_
      refine lv_bipush (v := nI 9) S.1 S.2.1 dL_changes_243 (by decide) ?_
      refine mi_icmp_ge (tgt := 426) S (by omega) (by omega) dL_changes_245 (by decide) (fun c245_3 => by exfalso; omega) (fun c245_3 => ?_)
      refine lv_iload_n S.1 S.2.1 dL_changes_248 rfl (lv_at hl 5 rfl) ?_
      refine lv_bipush (v := nI 10) S.1 S.2.1 dL_changes_249 (by decide) ?_
      refine lv_ishr S.1 S.2.1 dL_changes_251 ?_
      refine lv_bipush (v := nI 9) S.1 S.2.1 dL_changes_252 (by decide) ?_
      refine mi_cR (mi_runS (P := mj_W D A q T gl gi) (As := [.int (z >>> ((nI (10)) &&& 31)), .int (nI (9))]) (rest := []) S E hS hM (c_Llow l D A (mj_W D A q T gl gi) (by omega) (by omega)) mw_186 mw_184 mw_185 mw_17 ⟨by decide, by decide, by decide +kernel⟩ ⟨rfl, rfl, Nat.le_of_ble_eq_true rfl, Nat.le_of_ble_eq_true rfl⟩ (n := 2) rfl hl.1 rfl (Nat.le_of_ble_eq_true rfl) dL_changes_254 ⟨Nat.le_of_ble_eq_true rfl, Nat.le_of_ble_eq_true rfl⟩) (fun r9 e9 => ?_)
      obtain ⟨b2, hb2, rfl⟩ := e9
      refine lv_istore (lv' := [(10, .int (nI (b2))), (9, .int (nI (kq))), (8, .int (nI (b))), (7, .int (nI (a))), (1, .int (nI (act))), (2, .int (y)), (3, .int (z)), (0, .ref (q 0)), (4, .ref (q 1)), (5, .ref (q 2)), (6, .ref (q 9))]) S.1 S.2.1 dL_changes_257 hl (by decide) rfl (fun ls hl => ?_)
      refine lv_iconst (v := nI 1) S.1 S.2.1 dL_changes_259 (by decide) ?_
      refine lv_iload_n S.1 S.2.1 dL_changes_260 rfl (lv_at hl 6 rfl) ?_
      refine lv_bipush (v := nI 14) S.1 S.2.1 dL_changes_261 (by decide) ?_
      refine lv_ishr S.1 S.2.1 dL_changes_263 ?_
      refine lv_iconst (v := nI 3) S.1 S.2.1 dL_changes_264 (by decide) ?_
      refine mi_cR (mi_runS (P := mj_W D A q T gl gi) (As := [.int (z >>> ((nI (14)) &&& 31)), .int (nI (3))]) (rest := [.int (nI (1))]) S E hS hM (c_Llow l D A (mj_W D A q T gl gi) (by omega) (by omega)) mw_186 mw_184 mw_185 mw_17 ⟨by decide, by decide, by decide +kernel⟩ ⟨rfl, rfl, Nat.le_of_ble_eq_true rfl, Nat.le_of_ble_eq_true rfl⟩ (n := 2) rfl hl.1 rfl (Nat.le_of_ble_eq_true rfl) dL_changes_265 ⟨Nat.le_of_ble_eq_true rfl, Nat.le_of_ble_eq_true rfl⟩) (fun r9 e9 => ?_)
      obtain ⟨t3, ht3, rfl⟩ := e9
      refine mi_iadd S dL_changes_268 ?_
      refine lv_istore (lv' := [(11, .int (nI (1 + t3))), (10, .int (nI (b2))), (9, .int (nI (kq))), (8, .int (nI (b))), (7, .int (nI (a))), (1, .int (nI (act))), (2, .int (y)), (3, .int (z)), (0, .ref (q 0)), (4, .ref (q 1)), (5, .ref (q 2)), (6, .ref (q 9))]) S.1 S.2.1 dL_changes_269 hl (by decide) rfl (fun ls hl => ?_)
      refine lv_aload_n S.1 S.2.1 dL_changes_271 rfl (lv_at hl 8 rfl) ?_
      refine lv_bipush (v := nI 16) S.1 S.2.1 dL_changes_272 (by decide) ?_
      refine lv_iload S.1 S.2.1 dL_changes_274 (lv_at hl 1 rfl) ?_
      refine lv_iconst (v := nI 0) S.1 S.2.1 dL_changes_276 (by decide) ?_
      refine mi_cMi (mi_runSH (P := mj_W D A q T gl gi) (As := [.ref (q 0), .int (nI (16)), .int (nI (b2)), .int (nI (0))]) (rest := []) S E hS hM (j_raise_x1 l D A hst q hO (by decide)) mw_358 mw_356 mw_357 mw_17 ⟨by decide, by decide, by decide +kernel⟩ ⟨rfl, rfl, Nat.le_of_ble_eq_true rfl, Nat.le_of_ble_eq_true rfl⟩ (n := 4) rfl hl.1 rfl (Nat.le_of_ble_eq_true rfl) dL_changes_277 ⟨(by show _ ≤ (12 : Nat); omega), (by show _ ≤ (2100 : Nat); omega)⟩) hS (fun r9 H locs hp9 hS hz9 => ?_)
      obtain ⟨e9, hM⟩ := hp9
      refine mi_top (v' := .int (-71)) (by rw [e9]) ?_
      refine lv_bipush (v := (-71)) S.1 S.2.1 dL_changes_280 (by decide) ?_
      refine lv_icmp_ne (tgt := 342) S.1 S.2.1 dL_changes_282 (by decide) (fun c282_4 => absurd rfl c282_4) (fun _ => ?_)
      refine lv_aload_n S.1 S.2.1 dL_changes_285 rfl (lv_at hl 8 rfl) ?_
      refine lv_iload S.1 S.2.1 dL_changes_286 (lv_at hl 4 rfl) ?_
      refine lv_bipush (v := nI 9) S.1 S.2.1 dL_changes_288 (by decide) ?_
      refine lv_iload S.1 S.2.1 dL_changes_290 (lv_at hl 0 rfl) ?_
      refine mi_cMi (mi_runSH (P := mj_W D A q T gl gi) (As := [.ref (q 0), .int (nI (a)), .int (nI (9)), .int (nI (1 + t3))]) (rest := []) S E hS hM (j_raise_x2 l D A hst q hO ha (by decide)) mw_358 mw_356 mw_357 mw_17 ⟨by decide, by decide, by decide +kernel⟩ ⟨rfl, rfl, Nat.le_of_ble_eq_true rfl, Nat.le_of_ble_eq_true rfl⟩ (n := 4) rfl hl.1 rfl (Nat.le_of_ble_eq_true rfl) dL_changes_292 ⟨(by show _ ≤ (12 : Nat); omega), (by show _ ≤ (2100 : Nat); omega)⟩) hS (fun r9 H locs hp9 hS hz9 => ?_)
      obtain ⟨e9, hM⟩ := hp9
      refine mi_top (v' := .int (-72)) (by rw [e9]) ?_
      refine lv_bipush (v := (-72)) S.1 S.2.1 dL_changes_295 (by decide) ?_
      refine lv_icmp_ne (tgt := 342) S.1 S.2.1 dL_changes_297 (by decide) (fun c297_5 => absurd rfl c297_5) (fun _ => ?_)
      refine lv_aload_n S.1 S.2.1 dL_changes_300 rfl (lv_at hl 8 rfl) ?_
      refine lv_iload S.1 S.2.1 dL_changes_301 (lv_at hl 4 rfl) ?_
      refine lv_iconst (v := (-1)) S.1 S.2.1 dL_changes_303 (by decide) ?_
      refine lv_iload S.1 S.2.1 dL_changes_304 (lv_at hl 0 rfl) ?_
      refine mi_cMi (mi_runSH (P := mj_W D A q T gl gi) (As := [.ref (q 0), .int (nI (a)), .int (-1), .int (nI (1 + t3))]) (rest := []) S E hS hM (j_raise_x2 l D A hst q hO ha (by decide)) mw_358 mw_356 mw_357 mw_17 ⟨by decide, by decide, by decide +kernel⟩ ⟨rfl, rfl, Nat.le_of_ble_eq_true rfl, Nat.le_of_ble_eq_true rfl⟩ (n := 4) rfl hl.1 rfl (Nat.le_of_ble_eq_true rfl) dL_changes_306 ⟨(by show _ ≤ (12 : Nat); omega), (by show _ ≤ (2100 : Nat); omega)⟩) hS (fun r9 H locs hp9 hS hz9 => ?_)
      obtain ⟨e9, hM⟩ := hp9
      refine mi_top (v' := .int (-72)) (by rw [e9]) ?_
      refine lv_bipush (v := (-72)) S.1 S.2.1 dL_changes_309 (by decide) ?_
      refine lv_icmp_ne (tgt := 342) S.1 S.2.1 dL_changes_311 (by decide) (fun c311_6 => absurd rfl c311_6) (fun _ => ?_)
      refine lv_aload_n S.1 S.2.1 dL_changes_314 rfl (lv_at hl 8 rfl) ?_
      refine lv_iload S.1 S.2.1 dL_changes_315 (lv_at hl 4 rfl) ?_
      refine lv_iload S.1 S.2.1 dL_changes_317 (lv_at hl 1 rfl) ?_
      refine lv_iconst (v := nI 0) S.1 S.2.1 dL_changes_319 (by decide) ?_
      refine mi_cMi (mi_runSH (P := mj_W D A q T gl gi) (As := [.ref (q 0), .int (nI (a)), .int (nI (b2)), .int (nI (0))]) (rest := []) S E hS hM (j_raise_x3 l D A hst q hO ha (show b2 ≤ 8 by omega) (by decide)) mw_358 mw_356 mw_357 mw_17 ⟨by decide, by decide, by decide +kernel⟩ ⟨rfl, rfl, Nat.le_of_ble_eq_true rfl, Nat.le_of_ble_eq_true rfl⟩ (n := 4) rfl hl.1 rfl (Nat.le_of_ble_eq_true rfl) dL_changes_320 ⟨(by show _ ≤ (12 : Nat); omega), (by show _ ≤ (2100 : Nat); omega)⟩) hS (fun r9 H locs hp9 hS hz9 => ?_)
      obtain ⟨e9, hM⟩ := hp9
      refine mi_top (v' := .int (-72)) (by rw [e9]) ?_
      refine lv_bipush (v := (-72)) S.1 S.2.1 dL_changes_323 (by decide) ?_
      refine lv_icmp_ne (tgt := 342) S.1 S.2.1 dL_changes_325 (by decide) (fun c325_7 => absurd rfl c325_7) (fun _ => ?_)
      refine lv_aload_n S.1 S.2.1 dL_changes_328 rfl (lv_at hl 8 rfl) ?_
      refine lv_iload S.1 S.2.1 dL_changes_329 (lv_at hl 4 rfl) ?_
      refine lv_iload S.1 S.2.1 dL_changes_331 (lv_at hl 1 rfl) ?_
      refine lv_iconst (v := nI 4) S.1 S.2.1 dL_changes_333 (by decide) ?_
      refine mi_cMi (mi_runSH (P := mj_W D A q T gl gi) (As := [.ref (q 0), .int (nI (a)), .int (nI (b2)), .int (nI (4))]) (rest := []) S E hS hM (j_raise_x3 l D A hst q hO ha (show b2 ≤ 8 by omega) (by decide)) mw_358 mw_356 mw_357 mw_17 ⟨by decide, by decide, by decide +kernel⟩ ⟨rfl, rfl, Nat.le_of_ble_eq_true rfl, Nat.le_of_ble_eq_true rfl⟩ (n := 4) rfl hl.1 rfl (Nat.le_of_ble_eq_true rfl) dL_changes_334 ⟨(by show _ ≤ (12 : Nat); omega), (by show _ ≤ (2100 : Nat); omega)⟩) hS (fun r9 H locs hp9 hS hz9 => ?_)
      obtain ⟨e9, hM⟩ := hp9
      refine mi_top (v' := .int (-72)) (by rw [e9]) ?_
      refine lv_bipush (v := (-72)) S.1 S.2.1 dL_changes_337 (by decide) ?_
      refine lv_icmp_eq (tgt := 344) S.1 S.2.1 dL_changes_339 (by decide) (fun _ => ?_) (fun c339_8 => absurd rfl c339_8)
      refine lv_aload S.1 S.2.1 dL_changes_344 (lv_at hl 11 rfl) ?_
      refine lv_iconst (v := nI 1) S.1 S.2.1 dL_changes_346 (by decide) ?_
      refine mj_ild S E hM 9 (by omega) (by show _ < 4; omega) dL_changes_347 ?_
      refine mi_top (v' := .int (nI (sN T))) (congrArg Value.int g1) ?_
      refine lv_bipush (v := nI 16) S.1 S.2.1 dL_changes_348 (by decide) ?_
      refine mi_icmp_ne (tgt := 368) S (by omega) (by omega) dL_changes_350 (by decide) (fun c350_9 => ?_) (fun c350_9 => ?_)
      · refine lv_aload S.1 S.2.1 dL_changes_368 (lv_at hl 9 rfl) ?_
        refine lv_aload S.1 S.2.1 dL_changes_370 (lv_at hl 10 rfl) ?_
        refine lv_aload S.1 S.2.1 dL_changes_372 (lv_at hl 11 rfl) ?_
        refine mi_cMv (mi_runS (P := mj_W D A q T gl gi) (As := [.ref (q 1), .ref (q 2), .ref (q 9)]) (rest := []) S E hS hM (c_Lgrow l D A hO g0 g1 (by omega)) mw_347 mw_345 mw_346 mw_17 ⟨by decide, by decide, by decide +kernel⟩ ⟨rfl, rfl, Nat.le_of_ble_eq_true rfl, Nat.le_of_ble_eq_true rfl⟩ (n := 3) rfl hl.1 rfl (Nat.le_of_ble_eq_true rfl) dL_changes_374 ⟨Nat.le_of_ble_eq_true rfl, Nat.le_of_ble_eq_true rfl⟩) hS (fun H locs hM hS hz9 => ?_)
        have hL1 := lr_grow hL hO (by omega)
        refine lv_aload S.1 S.2.1 dL_changes_377 (lv_at hl 9 rfl) ?_
        refine lv_aload S.1 S.2.1 dL_changes_379 (lv_at hl 11 rfl) ?_
        refine lv_iconst (v := nI 0) S.1 S.2.1 dL_changes_381 (by decide) ?_
        refine mj_ild S E hM 9 (by omega) (by show _ < 4; omega) dL_changes_382 ?_
        refine mi_top (v' := .int (nI (sN T))) (rfl) ?_
        refine lv_iload S.1 S.2.1 dL_changes_383 (lv_at hl 4 rfl) ?_
        refine lv_iload S.1 S.2.1 dL_changes_385 (lv_at hl 0 rfl) ?_
        refine lv_sipush (v := nI 21845) S.1 S.2.1 dL_changes_387 (by decide) ?_
        refine mi_imul S dL_changes_390 ?_
        refine lv_iconst (v := nI 1) S.1 S.2.1 dL_changes_391 (by decide) ?_
        refine lv_iconst (v := nI 2) S.1 S.2.1 dL_changes_392 (by decide) ?_
        refine lv_iload S.1 S.2.1 dL_changes_393 (lv_at hl 1 rfl) ?_
        refine mi_imul S dL_changes_395 ?_
        refine lv_ishl S.1 S.2.1 dL_changes_396 ?_
        refine lv_iconst (v := nI 1) S.1 S.2.1 dL_changes_397 (by decide) ?_
        refine lv_isub S.1 S.2.1 dL_changes_398 ?_
        refine lv_iand S.1 S.2.1 dL_changes_399 ?_
        refine mi_top (v' := .int (lj_ra (1 + t3) b2)) (by unfold lj_ra; rw [pk_mul]; rfl) ?_
        refine mi_cMv (mi_runS (P := mj_W D A q T ((va_up gl 1 (lj_gr (gl 1) (sN T) (sW T) 4))) ((va_up (va_up gi 2 (upd (gi 2) (sN T) (nI (sW T)))) 9 (upd (upd (gi 9) 0 (nI (sN T))) 1 (nI (sN T + 1)))))) (As := [.ref (q 1), .int (nI (sN T)), .int (nI (a)), .int (lj_ra (1 + t3) b2)]) (rest := []) S E hS hM (c_Llay l D A (by omega) (by omega)) mw_354 mw_352 mw_353 mw_17 ⟨by decide, by decide, by decide +kernel⟩ ⟨rfl, rfl, Nat.le_of_ble_eq_true rfl, Nat.le_of_ble_eq_true rfl⟩ (n := 4) rfl hl.1 rfl (Nat.le_of_ble_eq_true rfl) dL_changes_400 ⟨Nat.le_of_ble_eq_true rfl, Nat.le_of_ble_eq_true rfl⟩) hS (fun H locs hM hS hz9 => ?_)
        have hL2 := lr_lay hL1 ha (lj_ra_pk (K := (sK T (sW T))) (a := a) (show b2 ≤ 8 by omega) (show 1 + t3 < 4 by omega)) (fun c1 _ hne l1 hl1 => if_neg (by omega))
        refine lv_aload_n S.1 S.2.1 dL_changes_403 rfl (lv_at hl 8 rfl) ?_
        refine lv_iload S.1 S.2.1 dL_changes_404 (lv_at hl 4 rfl) ?_
        refine lv_iload S.1 S.2.1 dL_changes_406 (lv_at hl 1 rfl) ?_
        refine lv_iload S.1 S.2.1 dL_changes_408 (lv_at hl 0 rfl) ?_
        refine mi_cMi (mi_runSH (P := mj_W D A q T ((va_up ((va_up gl 1 (lj_gr (gl 1) (sN T) (sW T) 4))) 1 (lj_lay (((va_up gl 1 (lj_gr (gl 1) (sN T) (sW T) 4))) 1) (sN T) (a) (lj_ra (1 + t3) b2)))) ((va_up (va_up gi 2 (upd (gi 2) (sN T) (nI (sW T)))) 9 (upd (upd (gi 9) 0 (nI (sN T))) 1 (nI (sN T + 1)))))) (As := [.ref (q 0), .int (nI (a)), .int (nI (b2)), .int (nI (1 + t3))]) (rest := []) S E hS hM (j_raise l D A hst q hO hAu ha (show b2 ≤ 8 by omega) (show 1 ≤ 1 + t3 by omega) (show 1 + t3 < 4 by omega) (by omega)) mw_358 mw_356 mw_357 mw_17 ⟨by decide, by decide, by decide +kernel⟩ ⟨rfl, rfl, Nat.le_of_ble_eq_true rfl, Nat.le_of_ble_eq_true rfl⟩ (n := 4) rfl hl.1 rfl (Nat.le_of_ble_eq_true rfl) dL_changes_410 ⟨(by show _ ≤ (12 : Nat); omega), (by show _ ≤ (2100 : Nat); omega)⟩) hS (fun r9 H locs hp9 hS hz9 => ?_)
        obtain ⟨e9, hM⟩ := hp9
        refine mi_top (v' := .int (nI (sN T))) (by rw [e9]) ?_
        refine lv_aload S.1 S.2.1 dL_changes_413 (lv_at hl 11 rfl) ?_
        refine lv_iconst (v := nI 0) S.1 S.2.1 dL_changes_415 (by decide) ?_
        refine mj_ild S E hM 9 (by omega) (by show _ < 4; omega) dL_changes_416 ?_
        refine mi_top (v' := .int (nI (sN T))) (rfl) ?_
        refine mi_icmp_ne (tgt := 424) S (by omega) (by omega) dL_changes_417 (by decide) (fun c417_10 => by exfalso; omega) (fun c417_10 => ?_)
        refine lv_iconst (v := nI 1) S.1 S.2.1 dL_changes_420 (by decide) ?_
        refine lv_goto (tgt := 425) S.1 S.2.1 dL_changes_421 (by decide) ?_
        exact mi_retMz S hr hk hS dL_changes_425 rfl (by show _ ≤ (12 : Nat); omega) (by show _ ≤ (2100 : Nat); omega) (⟨rfl, _, _, _, hL2, hM⟩)
      · refine lv_aload_n S.1 S.2.1 dL_changes_353 rfl (lv_at hl 8 rfl) ?_
        refine mi_cR (mi_runV (P := mj_W D A q T gl gi) (As := []) (rest := []) S E hS hM (q 0) (j_states l D A hst q hO) (hM.recv E) mw_344 mw_341 mw_342 mw_343 mw_18 ⟨by decide, by decide, by decide +kernel⟩ ⟨rfl, rfl, Nat.le_of_ble_eq_true rfl, Nat.le_of_ble_eq_true rfl⟩ (n := 0) rfl hl.1 rfl (Nat.le_of_ble_eq_true rfl) dL_changes_354 ⟨by show _ ≤ (12 : Nat); omega, by show _ ≤ (2100 : Nat); omega⟩) (fun r9 e9 => ?_)
        subst e9
        refine lv_bipush (v := nI 16) S.1 S.2.1 dL_changes_357 (by decide) ?_
        refine mi_icmp_ne (tgt := 366) S (by omega) (by omega) dL_changes_359 (by decide) (fun c359_11 => by exfalso; omega) (fun c359_11 => ?_)
        refine lv_iconst (v := nI 1) S.1 S.2.1 dL_changes_362 (by decide) ?_
        refine lv_goto (tgt := 367) S.1 S.2.1 dL_changes_363 (by decide) ?_
        exact mi_retMz S hr hk hS dL_changes_367 rfl (by show _ ≤ (12 : Nat); omega) (by show _ ≤ (2100 : Nat); omega) (⟨rfl, T, gl, gi, hL, hM⟩)
    refine lv_iload_n S.1 S.2.1 dL_changes_38 rfl (lv_at hl 3 rfl) ?_
    refine lv_iload_n S.1 S.2.1 dL_changes_39 rfl (lv_at hl 3 rfl) ?_
    refine lv_bipush (v := nI 96) S.1 S.2.1 dL_changes_40 (by decide) ?_
    refine lv_iand S.1 S.2.1 dL_changes_42 ?_
    refine mi_xif_ne (tgt := 51) S (rfl : (z &&& (nI (96))).toInt = _) dL_changes_43 (by decide) (fun c43_12 => ?_) (fun c43_12 => ?_)
    · refine lv_iconst (v := nI 3) S.1 S.2.1 dL_changes_51 (by decide) ?_
      exact mg52_2 3  _ (by omega)  (lv_sub hl [0, 1, 2, 3, 4, 5, 6, 7] rfl)
    · refine lv_bipush (v := nI 8) S.1 S.2.1 dL_changes_46 (by decide) ?_
      refine lv_goto (tgt := 52) S.1 S.2.1 dL_changes_48 (by decide) ?_
      exact mg52_2 8  _ (by omega)  (lv_sub hl [0, 1, 2, 3, 4, 5, 6, 7] rfl)
  refine lv_iload_n S.1 S.2.1 dL_changes_0 rfl (lv_at hl 2 rfl) ?_
  refine lv_bipush (v := nI 6) S.1 S.2.1 dL_changes_1 (by decide) ?_
  refine lv_iand S.1 S.2.1 dL_changes_3 ?_
  refine mi_xif_ne (tgt := 18) S (rfl : (y &&& (nI (6))).toInt = _) dL_changes_4 (by decide) (fun c4_13 => ?_) (fun c4_13 => ?_)
  · refine lv_iload_n S.1 S.2.1 dL_changes_18 rfl (lv_at hl 2 rfl) ?_
    refine lv_iconst (v := nI 3) S.1 S.2.1 dL_changes_19 (by decide) ?_
    refine lv_ishr S.1 S.2.1 dL_changes_20 ?_
    refine lv_iconst (v := nI 3) S.1 S.2.1 dL_changes_21 (by decide) ?_
    refine mi_cR (mi_runS (P := mj_W D A q T gl gi) (As := [.int (y >>> ((nI (3)) &&& 31)), .int (nI (3))]) (rest := []) S E hS hM (c_Llow l D A (mj_W D A q T gl gi) (by omega) (by omega)) mw_186 mw_184 mw_185 mw_17 ⟨by decide, by decide, by decide +kernel⟩ ⟨rfl, rfl, Nat.le_of_ble_eq_true rfl, Nat.le_of_ble_eq_true rfl⟩ (n := 2) rfl hl.1 rfl (Nat.le_of_ble_eq_true rfl) dL_changes_22 ⟨Nat.le_of_ble_eq_true rfl, Nat.le_of_ble_eq_true rfl⟩) (fun r9 e9 => ?_)
    obtain ⟨t1, ht1, rfl⟩ := e9
    refine lv_iconst (v := nI 4) S.1 S.2.1 dL_changes_25 (by decide) ?_
    refine mi_imul S dL_changes_26 ?_
    refine lv_iload_n S.1 S.2.1 dL_changes_27 rfl (lv_at hl 2 rfl) ?_
    refine lv_bipush (v := nI 6) S.1 S.2.1 dL_changes_28 (by decide) ?_
    refine lv_ishr S.1 S.2.1 dL_changes_30 ?_
    refine lv_iconst (v := nI 2) S.1 S.2.1 dL_changes_31 (by decide) ?_
    refine mi_cR (mi_runS (P := mj_W D A q T gl gi) (As := [.int (y >>> ((nI (6)) &&& 31)), .int (nI (2))]) (rest := [.int (nI (t1 * 4))]) S E hS hM (c_Llow l D A (mj_W D A q T gl gi) (by omega) (by omega)) mw_186 mw_184 mw_185 mw_17 ⟨by decide, by decide, by decide +kernel⟩ ⟨rfl, rfl, Nat.le_of_ble_eq_true rfl, Nat.le_of_ble_eq_true rfl⟩ (n := 2) rfl hl.1 rfl (Nat.le_of_ble_eq_true rfl) dL_changes_32 ⟨Nat.le_of_ble_eq_true rfl, Nat.le_of_ble_eq_true rfl⟩) (fun r9 e9 => ?_)
    obtain ⟨t2, ht2, rfl⟩ := e9
    refine mi_iadd S dL_changes_35 ?_
    exact mg36_1 ((t1 * 4) + t2)  _ (by omega)  (lv_sub hl [1, 2, 3, 0, 4, 5, 6] rfl)
  · refine lv_iload_n S.1 S.2.1 dL_changes_7 rfl (lv_at hl 2 rfl) ?_
    refine lv_iconst (v := nI 3) S.1 S.2.1 dL_changes_8 (by decide) ?_
    refine lv_ishr S.1 S.2.1 dL_changes_9 ?_
    refine lv_bipush (v := nI 16) S.1 S.2.1 dL_changes_10 (by decide) ?_
    refine mi_cR (mi_runS (P := mj_W D A q T gl gi) (As := [.int (y >>> ((nI (3)) &&& 31)), .int (nI (16))]) (rest := []) S E hS hM (c_Llow l D A (mj_W D A q T gl gi) (by omega) (by omega)) mw_186 mw_184 mw_185 mw_17 ⟨by decide, by decide, by decide +kernel⟩ ⟨rfl, rfl, Nat.le_of_ble_eq_true rfl, Nat.le_of_ble_eq_true rfl⟩ (n := 2) rfl hl.1 rfl (Nat.le_of_ble_eq_true rfl) dL_changes_12 ⟨Nat.le_of_ble_eq_true rfl, Nat.le_of_ble_eq_true rfl⟩) (fun r9 e9 => ?_)
    obtain ⟨t16, ht16, rfl⟩ := e9
    refine lv_goto (tgt := 36) S.1 S.2.1 dL_changes_15 (by decide) ?_
    exact mg36_1 t16  _ (by omega)  (lv_sub hl [1, 2, 3, 0, 4, 5, 6] rfl)
set_option maxHeartbeats 4000000 in
set_option maxRecDepth 100000 in
theorem c_Lch_layer (l : Launch) (D : va_G) (A : Nat → Prop) {q : Nat → Nat} {T : sT} {gl : Nat → Nat → Int64} {gi : Nat → Nat → Int32} (hst : l.stackTraces = false) (hAu : ∀ a b, A a → a ≤ b → A b) (hL : lr T gl gi) {act : Nat} (hact : act = 9) {y z : Int32} : mi_Mi l yL_changes (Cond.code yL_changes cL_changes 14 (some Jvm.ClassFile.FieldType.boolean)) (mi_rq 10 12 2100) D A (mj_W D A q T gl gi) [.ref (q 0), .int (nI (act)), .int (y), .int (z), .ref (q 1), .ref (q 2), .ref (q 9)] 12 2100 (fun r H => r = nI 1 ∧ mj_I D A q H) := by
  refine mi_start (cc := cL_changes) (nL := 14) (ret := (some Jvm.ClassFile.FieldType.boolean)) rfl (by decide) (Nat.le_of_ble_eq_true rfl) ?_
  intro p e s m below meth c ls S E hM hS hr hk hn hl
  have S : CallFix p m c cL_changes 14 s _ ((Cond.code yL_changes cL_changes 14 (some Jvm.ClassFile.FieldType.boolean)) :: mi_G) RL := S
  have hl : lv_has ls 14 [(0, .ref (q 0)), (1, .int (nI (act))), (2, .int (y)), (3, .int (z)), (4, .ref (q 1)), (5, .ref (q 2)), (6, .ref (q 9))] := hl
  have hO := hM.ok
  obtain ⟨⟨o1, o2, o3, o4, o5⟩, oP, oK, oD, oX, oC, oI⟩ := id hO
  obtain ⟨⟨g0, g1, g2, g3⟩, h16, hp9, hk9, hd9, hc9⟩ := id hL
  have mg36_1 : ∀ (a : Nat) (ls : Array Slot), a < 16 → lv_has ls 14 [(1, .int (nI (act))), (2, .int (y)), (3, .int (z)), (0, .ref (q 0)), (4, .ref (q 1)), (5, .ref (q 2)), (6, .ref (q 9))] → W p l e (mi_rq 10 12 2100) s m ([.ref (q 0), .int (nI (act)), .int (y), .int (z), .ref (q 1), .ref (q 2), .ref (q 9)] : List Value).toArray below meth c s.heap [] 0 0 (MQ below (mi_Qi A (fun r H => r = nI 1 ∧ mj_I D A q H)) ([.ref (q 0), .int (nI (act)), .int (y), .int (z), .ref (q 1), .ref (q 2), .ref (q 9)] : List Value).toArray s 12 2100 A) (F0 m 36 ls [.int (nI (a))]) := by
    intro a ls ha  hl
    refine lv_istore (lv' := [(7, .int (nI (a))), (1, .int (nI (act))), (2, .int (y)), (3, .int (z)), (0, .ref (q 0)), (4, .ref (q 1)), (5, .ref (q 2)), (6, .ref (q 9))]) S.1 S.2.1 dL_changes_36 hl (by decide) rfl (fun ls hl => ?_)
    have mg52_2 : ∀ (n8 : Nat) (ls : Array Slot), (n8 = 3 ∨ n8 = 8) → lv_has ls 14 [(7, .int (nI (a))), (1, .int (nI (act))), (2, .int (y)), (3, .int (z)), (0, .ref (q 0)), (4, .ref (q 1)), (5, .ref (q 2)), (6, .ref (q 9))] → W p l e (mi_rq 10 12 2100) s m ([.ref (q 0), .int (nI (act)), .int (y), .int (z), .ref (q 1), .ref (q 2), .ref (q 9)] : List Value).toArray below meth c s.heap [] 0 0 (MQ below (mi_Qi A (fun r H => r = nI 1 ∧ mj_I D A q H)) ([.ref (q 0), .int (nI (act)), .int (y), .int (z), .ref (q 1), .ref (q 2), .ref (q 9)] : List Value).toArray s 12 2100 A) (F0 m 52 ls [.int (nI (n8)), .int (z)]) := by
      intro n8 ls hn8  hl
      refine mi_cR (mi_runS (P := mj_W D A q T gl gi) (As := [.int (z), .int (nI (n8))]) (rest := []) S E hS hM (c_Llow l D A (mj_W D A q T gl gi) (by omega) (by omega)) mw_186 mw_184 mw_185 mw_17 ⟨by decide, by decide, by decide +kernel⟩ ⟨rfl, rfl, Nat.le_of_ble_eq_true rfl, Nat.le_of_ble_eq_true rfl⟩ (n := 2) rfl hl.1 rfl (Nat.le_of_ble_eq_true rfl) dL_changes_52 ⟨Nat.le_of_ble_eq_true rfl, Nat.le_of_ble_eq_true rfl⟩) (fun r9 e9 => ?_)
      obtain ⟨b, hb, rfl⟩ := e9
      refine lv_istore (lv' := [(8, .int (nI (b))), (7, .int (nI (a))), (1, .int (nI (act))), (2, .int (y)), (3, .int (z)), (0, .ref (q 0)), (4, .ref (q 1)), (5, .ref (q 2)), (6, .ref (q 9))]) S.1 S.2.1 dL_changes_55 hl (by decide) rfl (fun ls hl => ?_)
      have hb8 : b < 8 := by omega
      refine lv_iload_n S.1 S.2.1 dL_changes_57 rfl (lv_at hl 4 rfl) ?_
      refine lv_bipush (v := nI 7) S.1 S.2.1 dL_changes_58 (by decide) ?_
      refine lv_ishr S.1 S.2.1 dL_changes_60 ?_
      refine lv_iconst (v := nI 4) S.1 S.2.1 dL_changes_61 (by decide) ?_
      refine mi_cR (mi_runS (P := mj_W D A q T gl gi) (As := [.int (z >>> ((nI (7)) &&& 31)), .int (nI (4))]) (rest := []) S E hS hM (c_Llow l D A (mj_W D A q T gl gi) (by omega) (by omega)) mw_186 mw_184 mw_185 mw_17 ⟨by decide, by decide, by decide +kernel⟩ ⟨rfl, rfl, Nat.le_of_ble_eq_true rfl, Nat.le_of_ble_eq_true rfl⟩ (n := 2) rfl hl.1 rfl (Nat.le_of_ble_eq_true rfl) dL_changes_62 ⟨Nat.le_of_ble_eq_true rfl, Nat.le_of_ble_eq_true rfl⟩) (fun r9 e9 => ?_)
      obtain ⟨kq, hkq, rfl⟩ := e9
      refine lv_istore (lv' := [(9, .int (nI (kq))), (8, .int (nI (b))), (7, .int (nI (a))), (1, .int (nI (act))), (2, .int (y)), (3, .int (z)), (0, .ref (q 0)), (4, .ref (q 1)), (5, .ref (q 2)), (6, .ref (q 9))]) S.1 S.2.1 dL_changes_65 hl (by decide) rfl (fun ls hl => ?_)
      refine lv_iload_n S.1 S.2.1 dL_changes_67 rfl (lv_at hl 3 rfl) ?_
      refine lv_bipush (v := nI 6) S.1 S.2.1 dL_changes_68 (by decide) ?_
      refine mi_icmp_ge (tgt := 242) S (by omega) (by omega) dL_changes_70 (by decide) (fun c70_2 => ?_) (fun c70_2 => by exfalso; omega)
      refine lv_iload_n S.1 S.2.1 dL_changes_242 rfl (lv_at hl 3 rfl) ?_
      refine lv_bipush (v := nI 9) S.1 S.2.1 dL_changes_243 (by decide) ?_
      refine mi_icmp_ge (tgt := 426) S (by omega) (by omega) dL_changes_245 (by decide) (fun c245_3 => ?_) (fun c245_3 => by exfalso; omega)
      refine lv_iload_n S.1 S.2.1 dL_changes_426 rfl (lv_at hl 3 rfl) ?_
      refine lv_bipush (v := nI 9) S.1 S.2.1 dL_changes_427 (by decide) ?_
      refine mi_icmp_ne (tgt := 578) S (by omega) (by omega) dL_changes_429 (by decide) (fun c429_4 => by exfalso; omega) (fun c429_4 => ?_)
      refine lv_aload_n S.1 S.2.1 dL_changes_432 rfl (lv_at hl 6 rfl) ?_
      refine lv_bipush (v := nI 8) S.1 S.2.1 dL_changes_433 (by decide) ?_
      refine lv_iconst (v := nI 5) S.1 S.2.1 dL_changes_435 (by decide) ?_
      refine mi_cMi (mi_runSH (P := mj_W D A q T gl gi) (As := [.ref (q 0), .int (nI (8)), .int (nI (5))]) (rest := []) S E hS hM (j_layer_x1 l D A hst q hO (by decide)) mw_372 mw_370 mw_371 mw_17 ⟨by decide, by decide, by decide +kernel⟩ ⟨rfl, rfl, Nat.le_of_ble_eq_true rfl, Nat.le_of_ble_eq_true rfl⟩ (n := 3) rfl hl.1 rfl (Nat.le_of_ble_eq_true rfl) dL_changes_436 ⟨(by show _ ≤ (12 : Nat); omega), (by show _ ≤ (2100 : Nat); omega)⟩) hS (fun r9 H locs hp9 hS hz9 => ?_)
      obtain ⟨e9, hM⟩ := hp9
      refine mi_top (v' := .int (-71)) (by rw [e9]) ?_
      refine lv_bipush (v := (-71)) S.1 S.2.1 dL_changes_439 (by decide) ?_
      refine lv_icmp_ne (tgt := 467) S.1 S.2.1 dL_changes_441 (by decide) (fun c441_5 => absurd rfl c441_5) (fun _ => ?_)
      refine lv_aload_n S.1 S.2.1 dL_changes_444 rfl (lv_at hl 6 rfl) ?_
      refine lv_iconst (v := (-1)) S.1 S.2.1 dL_changes_445 (by decide) ?_
      refine lv_iconst (v := nI 0) S.1 S.2.1 dL_changes_446 (by decide) ?_
      refine mi_cMi (mi_runSH (P := mj_W D A q T gl gi) (As := [.ref (q 0), .int (-1), .int (nI (0))]) (rest := []) S E hS hM (j_layer_x1 l D A hst q hO (by decide)) mw_372 mw_370 mw_371 mw_17 ⟨by decide, by decide, by decide +kernel⟩ ⟨rfl, rfl, Nat.le_of_ble_eq_true rfl, Nat.le_of_ble_eq_true rfl⟩ (n := 3) rfl hl.1 rfl (Nat.le_of_ble_eq_true rfl) dL_changes_447 ⟨(by show _ ≤ (12 : Nat); omega), (by show _ ≤ (2100 : Nat); omega)⟩) hS (fun r9 H locs hp9 hS hz9 => ?_)
      obtain ⟨e9, hM⟩ := hp9
      refine mi_top (v' := .int (-71)) (by rw [e9]) ?_
      refine lv_bipush (v := (-71)) S.1 S.2.1 dL_changes_450 (by decide) ?_
      refine lv_icmp_ne (tgt := 467) S.1 S.2.1 dL_changes_452 (by decide) (fun c452_6 => absurd rfl c452_6) (fun _ => ?_)
      refine lv_aload_n S.1 S.2.1 dL_changes_455 rfl (lv_at hl 6 rfl) ?_
      refine lv_iload S.1 S.2.1 dL_changes_456 (lv_at hl 1 rfl) ?_
      refine lv_iconst (v := nI 4) S.1 S.2.1 dL_changes_458 (by decide) ?_
      refine mi_cMi (mi_runSH (P := mj_W D A q T gl gi) (As := [.ref (q 0), .int (nI (b)), .int (nI (4))]) (rest := []) S E hS hM (j_layer_x2 l D A hst q hO hb8 (by decide)) mw_372 mw_370 mw_371 mw_17 ⟨by decide, by decide, by decide +kernel⟩ ⟨rfl, rfl, Nat.le_of_ble_eq_true rfl, Nat.le_of_ble_eq_true rfl⟩ (n := 3) rfl hl.1 rfl (Nat.le_of_ble_eq_true rfl) dL_changes_459 ⟨(by show _ ≤ (12 : Nat); omega), (by show _ ≤ (2100 : Nat); omega)⟩) hS (fun r9 H locs hp9 hS hz9 => ?_)
      obtain ⟨e9, hM⟩ := hp9
      refine mi_top (v' := .int (-72)) (by rw [e9]) ?_
      refine lv_bipush (v := (-72)) S.1 S.2.1 dL_changes_462 (by decide) ?_
      refine lv_icmp_eq (tgt := 469) S.1 S.2.1 dL_changes_464 (by decide) (fun _ => ?_) (fun c464_7 => absurd rfl c464_7)
      refine lv_aload S.1 S.2.1 dL_changes_469 (lv_at hl 9 rfl) ?_
      refine lv_iconst (v := nI 1) S.1 S.2.1 dL_changes_471 (by decide) ?_
      refine mj_ild S E hM 9 (by omega) (by show _ < 4; omega) dL_changes_472 ?_
      refine mi_top (v' := .int (nI (sN T))) (congrArg Value.int g1) ?_
      refine lv_bipush (v := nI 16) S.1 S.2.1 dL_changes_473 (by decide) ?_
      refine mi_icmp_ne (tgt := 493) S (by omega) (by omega) dL_changes_475 (by decide) (fun c475_8 => ?_) (fun c475_8 => ?_)
      · refine lv_aload S.1 S.2.1 dL_changes_493 (lv_at hl 7 rfl) ?_
        refine lv_aload S.1 S.2.1 dL_changes_495 (lv_at hl 8 rfl) ?_
        refine lv_aload S.1 S.2.1 dL_changes_497 (lv_at hl 9 rfl) ?_
        refine mi_cMv (mi_runS (P := mj_W D A q T gl gi) (As := [.ref (q 1), .ref (q 2), .ref (q 9)]) (rest := []) S E hS hM (c_Lgrow l D A hO g0 g1 (by omega)) mw_347 mw_345 mw_346 mw_17 ⟨by decide, by decide, by decide +kernel⟩ ⟨rfl, rfl, Nat.le_of_ble_eq_true rfl, Nat.le_of_ble_eq_true rfl⟩ (n := 3) rfl hl.1 rfl (Nat.le_of_ble_eq_true rfl) dL_changes_499 ⟨Nat.le_of_ble_eq_true rfl, Nat.le_of_ble_eq_true rfl⟩) hS (fun H locs hM hS hz9 => ?_)
        have hL1 := lr_grow hL hO (by omega)
        refine lv_iconst (v := nI 0) S.1 S.2.1 dL_changes_502 (by decide) ?_
        refine lv_istore (lv' := [(10, .int (nI (0))), (9, .int (nI (kq))), (8, .int (nI (b))), (7, .int (nI (a))), (1, .int (nI (act))), (2, .int (y)), (3, .int (z)), (0, .ref (q 0)), (4, .ref (q 1)), (5, .ref (q 2)), (6, .ref (q 9))]) S.1 S.2.1 dL_changes_503 hl (by decide) rfl (fun ls hl => ?_)
        have lp505 : ∀ (n505 : Nat) (gx : Nat → Nat → Int64) (j : Nat) (H : Heap) (locs : List Loc) (ls : Array Slot), 16 - j < n505 → j ≤ 16 → lr (st_new T (sp_la (sK T (sW T)) b kq j)) gx (va_up (va_up gi 2 (upd (gi 2) (sN T) (nI (sW T)))) 9 (upd (upd (gi 9) 0 (nI (sN T))) 1 (nI (sN T + 1)))) → mj_W D A q T gx (va_up (va_up gi 2 (upd (gi 2) (sN T) (nI (sW T)))) 9 (upd (upd (gi 9) 0 (nI (sN T))) 1 (nI (sN T + 1)))) H → va_S A s.heap H locs → lv_has ls 14 [(10, .int (nI (j))), (8, .int (nI (b))), (9, .int (nI (kq))), (0, .ref (q 0)), (4, .ref (q 1)), (6, .ref (q 9))] → W p l e (mi_rq 10 12 2100) s m ([.ref (q 0), .int (nI (act)), .int (y), .int (z), .ref (q 1), .ref (q 2), .ref (q 9)] : List Value).toArray below meth c H locs (((0 + 1) + 1) + 1) (((0 + 6) + 6) + 6) (MQ below (mi_Qi A (fun r H => r = nI 1 ∧ mj_I D A q H)) ([.ref (q 0), .int (nI (act)), .int (y), .int (z), .ref (q 1), .ref (q 2), .ref (q 9)] : List Value).toArray s 12 2100 A) (F0 m 505 ls []) := by
          intro n505
          induction n505 with
          | zero => intro gx j H locs ls hm hj hL2 hM hS hl; exact absurd hm (Nat.not_lt_zero _)
          | succ n505 ih505 =>
            intro gx j H locs ls hm hj hL2 hM hS hl
            refine lv_iload S.1 S.2.1 dL_changes_505 (lv_at hl 0 rfl) ?_
            refine lv_bipush (v := nI 16) S.1 S.2.1 dL_changes_507 (by decide) ?_
            refine mi_icmp_ge (tgt := 557) S (by omega) (by omega) dL_changes_509 (by decide) (fun c509_9 => ?_) (fun c509_9 => ?_)
            · have hj2 : j = 16 := by omega
              rw [hj2] at hL2
              refine lv_aload_n S.1 S.2.1 dL_changes_557 rfl (lv_at hl 3 rfl) ?_
              refine lv_iload S.1 S.2.1 dL_changes_558 (lv_at hl 1 rfl) ?_
              refine lv_iload S.1 S.2.1 dL_changes_560 (lv_at hl 2 rfl) ?_
              refine mi_cMi (mi_runSH (P := mj_W D A q T gx ((va_up (va_up gi 2 (upd (gi 2) (sN T) (nI (sW T)))) 9 (upd (upd (gi 9) 0 (nI (sN T))) 1 (nI (sN T + 1)))))) (As := [.ref (q 0), .int (nI (b)), .int (nI (kq))]) (rest := []) S E hS hM (j_layer l D A hst q hO hAu hb8 hkq (by omega)) mw_372 mw_370 mw_371 mw_17 ⟨by decide, by decide, by decide +kernel⟩ ⟨rfl, rfl, Nat.le_of_ble_eq_true rfl, Nat.le_of_ble_eq_true rfl⟩ (n := 3) rfl hl.1 rfl (Nat.le_of_ble_eq_true rfl) dL_changes_562 ⟨(by show _ ≤ (12 : Nat); omega), (by show _ ≤ (2100 : Nat); omega)⟩) hS (fun r9 H locs hp9 hS hz9 => ?_)
              obtain ⟨e9, hM⟩ := hp9
              refine mi_top (v' := .int (nI (sN T))) (by rw [e9]) ?_
              refine lv_aload S.1 S.2.1 dL_changes_565 (lv_at hl 5 rfl) ?_
              refine lv_iconst (v := nI 0) S.1 S.2.1 dL_changes_567 (by decide) ?_
              refine mj_ild S E hM 9 (by omega) (by show _ < 4; omega) dL_changes_568 ?_
              refine mi_top (v' := .int (nI (sN T))) (rfl) ?_
              refine mi_icmp_ne (tgt := 576) S (by omega) (by omega) dL_changes_569 (by decide) (fun c569_10 => by exfalso; omega) (fun c569_10 => ?_)
              refine lv_iconst (v := nI 1) S.1 S.2.1 dL_changes_572 (by decide) ?_
              refine lv_goto (tgt := 577) S.1 S.2.1 dL_changes_573 (by decide) ?_
              exact mi_retMz S hr hk hS dL_changes_577 rfl (by show _ ≤ (12 : Nat); omega) (by show _ ≤ (2100 : Nat); omega) (⟨rfl, _, _, _, hL2, hM⟩)
            · refine lv_aload S.1 S.2.1 dL_changes_512 (lv_at hl 4 rfl) ?_
              refine lv_aload S.1 S.2.1 dL_changes_514 (lv_at hl 5 rfl) ?_
              refine lv_iconst (v := nI 0) S.1 S.2.1 dL_changes_516 (by decide) ?_
              refine mj_ild S E hM 9 (by omega) (by show _ < 4; omega) dL_changes_517 ?_
              refine mi_top (v' := .int (nI (sN T))) (rfl) ?_
              refine lv_iload S.1 S.2.1 dL_changes_518 (lv_at hl 0 rfl) ?_
              refine lv_aload S.1 S.2.1 dL_changes_520 (lv_at hl 4 rfl) ?_
              refine lv_aload S.1 S.2.1 dL_changes_522 (lv_at hl 5 rfl) ?_
              refine lv_iconst (v := nI 0) S.1 S.2.1 dL_changes_524 (by decide) ?_
              refine mj_ild S E hM 9 (by omega) (by show _ < 4; omega) dL_changes_525 ?_
              refine mi_top (v' := .int (nI (sN T))) (rfl) ?_
              refine lv_iload S.1 S.2.1 dL_changes_526 (lv_at hl 0 rfl) ?_
              refine mi_cR (mi_runS (P := mj_W D A q T gx ((va_up (va_up gi 2 (upd (gi 2) (sN T) (nI (sW T)))) 9 (upd (upd (gi 9) 0 (nI (sN T))) 1 (nI (sN T + 1)))))) (As := [.ref (q 1), .int (nI (sN T)), .int (nI (j))]) (rest := [.int (nI (j)), .int (nI (sN T)), .ref (q 1)]) S E hS hM (c_Lcolumn l D A (by omega) (by omega)) mw_350 mw_348 mw_349 mw_17 ⟨by decide, by decide, by decide +kernel⟩ ⟨rfl, rfl, Nat.le_of_ble_eq_true rfl, Nat.le_of_ble_eq_true rfl⟩ (n := 3) rfl hl.1 rfl (Nat.le_of_ble_eq_true rfl) dL_changes_528 ⟨Nat.le_of_ble_eq_true rfl, Nat.le_of_ble_eq_true rfl⟩) (fun r9 e9 => ?_)
              subst e9
              have hxc := hL2.2.2.2.1 (sN T) (j) (Nat.lt_succ_self _) (by omega)
              rw [st_new_K, if_pos rfl] at hxc
              obtain ⟨xc, hxe⟩ : ∃ z, z = lj_col (gx 1) (sN T) (j) := ⟨_, rfl⟩
              refine mi_top (v' := .int xc) (by rw [hxe]) ?_
              rw [← hxe] at hxc
              refine lv_iconst (v := nI 3) S.1 S.2.1 dL_changes_531 (by decide) ?_
              refine lv_iconst (v := nI 2) S.1 S.2.1 dL_changes_532 (by decide) ?_
              refine lv_iload S.1 S.2.1 dL_changes_533 (lv_at hl 1 rfl) ?_
              refine mi_imul S dL_changes_535 ?_
              refine lv_ishl S.1 S.2.1 dL_changes_536 ?_
              refine lv_iconst (v := (-1)) S.1 S.2.1 dL_changes_537 (by decide) ?_
              refine lv_ixor S.1 S.2.1 dL_changes_538 ?_
              refine lv_iand S.1 S.2.1 dL_changes_539 ?_
              refine lv_iload S.1 S.2.1 dL_changes_540 (lv_at hl 2 rfl) ?_
              refine lv_iconst (v := nI 2) S.1 S.2.1 dL_changes_542 (by decide) ?_
              refine lv_iload S.1 S.2.1 dL_changes_543 (lv_at hl 1 rfl) ?_
              refine mi_imul S dL_changes_545 ?_
              refine lv_ishl S.1 S.2.1 dL_changes_546 ?_
              refine lv_ior S.1 S.2.1 dL_changes_547 ?_
              refine mi_top (v' := .int (mo_pt xc b kq)) (rfl) ?_
              refine mi_cMv (mi_runS (P := mj_W D A q T gx ((va_up (va_up gi 2 (upd (gi 2) (sN T) (nI (sW T)))) 9 (upd (upd (gi 9) 0 (nI (sN T))) 1 (nI (sN T + 1)))))) (As := [.ref (q 1), .int (nI (sN T)), .int (nI (j)), .int (mo_pt xc b kq)]) (rest := []) S E hS hM (c_Llay l D A (by omega) (by omega)) mw_354 mw_352 mw_353 mw_17 ⟨by decide, by decide, by decide +kernel⟩ ⟨rfl, rfl, Nat.le_of_ble_eq_true rfl, Nat.le_of_ble_eq_true rfl⟩ (n := 4) rfl hl.1 rfl (Nat.le_of_ble_eq_true rfl) dL_changes_548 ⟨Nat.le_of_ble_eq_true rfl, Nat.le_of_ble_eq_true rfl⟩) hS (fun H locs hM hS hz9 => ?_)
              have hL3 := lr_lay hL2 (c := j) (by omega) (mo_pk_put hxc hb8 hkq) (fun c1 _ hne l1 hl1 => mi_un_n (by omega))
              rw [sp_la_1 hb8] at hL3
              refine lv_iinc (v := nI (j + 1)) (lv' := [(10, .int (nI (j + 1))), (8, .int (nI (b))), (9, .int (nI (kq))), (0, .ref (q 0)), (4, .ref (q 1)), (6, .ref (q 9))]) S.1 S.2.1 dL_changes_551 hl (k := 0) rfl (mi_inc _) (by decide) rfl (fun ls hl => ?_)
              refine lv_goto (tgt := 505) S.1 S.2.1 dL_changes_554 (by decide) ?_
              exact ih505 ((va_up gx 1 (lj_lay (gx 1) (sN T) (j) (mo_pt xc b kq)))) (j + 1) _ _ _ (by omega) (by omega) (hL3) hM hS (lv_sub hl [0, 1, 2, 3, 4, 5] rfl)
        exact lp505 _ ((va_up gl 1 (lj_gr (gl 1) (sN T) (sW T) 4))) 0 _ _ _ (Nat.lt_succ_self _) (by omega) (by rw [sp_la_0]; exact hL1) hM hS (lv_sub hl [0, 2, 1, 7, 8, 10] rfl)
      · refine lv_aload_n S.1 S.2.1 dL_changes_478 rfl (lv_at hl 6 rfl) ?_
        refine mi_cR (mi_runV (P := mj_W D A q T gl gi) (As := []) (rest := []) S E hS hM (q 0) (j_states l D A hst q hO) (hM.recv E) mw_344 mw_341 mw_342 mw_343 mw_18 ⟨by decide, by decide, by decide +kernel⟩ ⟨rfl, rfl, Nat.le_of_ble_eq_true rfl, Nat.le_of_ble_eq_true rfl⟩ (n := 0) rfl hl.1 rfl (Nat.le_of_ble_eq_true rfl) dL_changes_479 ⟨by show _ ≤ (12 : Nat); omega, by show _ ≤ (2100 : Nat); omega⟩) (fun r9 e9 => ?_)
        subst e9
        refine lv_bipush (v := nI 16) S.1 S.2.1 dL_changes_482 (by decide) ?_
        refine mi_icmp_ne (tgt := 491) S (by omega) (by omega) dL_changes_484 (by decide) (fun c484_11 => by exfalso; omega) (fun c484_11 => ?_)
        refine lv_iconst (v := nI 1) S.1 S.2.1 dL_changes_487 (by decide) ?_
        refine lv_goto (tgt := 492) S.1 S.2.1 dL_changes_488 (by decide) ?_
        exact mi_retMz S hr hk hS dL_changes_492 rfl (by show _ ≤ (12 : Nat); omega) (by show _ ≤ (2100 : Nat); omega) (⟨rfl, T, gl, gi, hL, hM⟩)
    refine lv_iload_n S.1 S.2.1 dL_changes_38 rfl (lv_at hl 3 rfl) ?_
    refine lv_iload_n S.1 S.2.1 dL_changes_39 rfl (lv_at hl 3 rfl) ?_
    refine lv_bipush (v := nI 96) S.1 S.2.1 dL_changes_40 (by decide) ?_
    refine lv_iand S.1 S.2.1 dL_changes_42 ?_
    refine mi_xif_ne (tgt := 51) S (rfl : (z &&& (nI (96))).toInt = _) dL_changes_43 (by decide) (fun c43_12 => ?_) (fun c43_12 => ?_)
    · refine lv_iconst (v := nI 3) S.1 S.2.1 dL_changes_51 (by decide) ?_
      exact mg52_2 3  _ (by omega)  (lv_sub hl [0, 1, 2, 3, 4, 5, 6, 7] rfl)
    · refine lv_bipush (v := nI 8) S.1 S.2.1 dL_changes_46 (by decide) ?_
      refine lv_goto (tgt := 52) S.1 S.2.1 dL_changes_48 (by decide) ?_
      exact mg52_2 8  _ (by omega)  (lv_sub hl [0, 1, 2, 3, 4, 5, 6, 7] rfl)
  refine lv_iload_n S.1 S.2.1 dL_changes_0 rfl (lv_at hl 2 rfl) ?_
  refine lv_bipush (v := nI 6) S.1 S.2.1 dL_changes_1 (by decide) ?_
  refine lv_iand S.1 S.2.1 dL_changes_3 ?_
  refine mi_xif_ne (tgt := 18) S (rfl : (y &&& (nI (6))).toInt = _) dL_changes_4 (by decide) (fun c4_13 => ?_) (fun c4_13 => ?_)
  · refine lv_iload_n S.1 S.2.1 dL_changes_18 rfl (lv_at hl 2 rfl) ?_
    refine lv_iconst (v := nI 3) S.1 S.2.1 dL_changes_19 (by decide) ?_
    refine lv_ishr S.1 S.2.1 dL_changes_20 ?_
    refine lv_iconst (v := nI 3) S.1 S.2.1 dL_changes_21 (by decide) ?_
    refine mi_cR (mi_runS (P := mj_W D A q T gl gi) (As := [.int (y >>> ((nI (3)) &&& 31)), .int (nI (3))]) (rest := []) S E hS hM (c_Llow l D A (mj_W D A q T gl gi) (by omega) (by omega)) mw_186 mw_184 mw_185 mw_17 ⟨by decide, by decide, by decide +kernel⟩ ⟨rfl, rfl, Nat.le_of_ble_eq_true rfl, Nat.le_of_ble_eq_true rfl⟩ (n := 2) rfl hl.1 rfl (Nat.le_of_ble_eq_true rfl) dL_changes_22 ⟨Nat.le_of_ble_eq_true rfl, Nat.le_of_ble_eq_true rfl⟩) (fun r9 e9 => ?_)
    obtain ⟨t1, ht1, rfl⟩ := e9
    refine lv_iconst (v := nI 4) S.1 S.2.1 dL_changes_25 (by decide) ?_
    refine mi_imul S dL_changes_26 ?_
    refine lv_iload_n S.1 S.2.1 dL_changes_27 rfl (lv_at hl 2 rfl) ?_
    refine lv_bipush (v := nI 6) S.1 S.2.1 dL_changes_28 (by decide) ?_
    refine lv_ishr S.1 S.2.1 dL_changes_30 ?_
    refine lv_iconst (v := nI 2) S.1 S.2.1 dL_changes_31 (by decide) ?_
    refine mi_cR (mi_runS (P := mj_W D A q T gl gi) (As := [.int (y >>> ((nI (6)) &&& 31)), .int (nI (2))]) (rest := [.int (nI (t1 * 4))]) S E hS hM (c_Llow l D A (mj_W D A q T gl gi) (by omega) (by omega)) mw_186 mw_184 mw_185 mw_17 ⟨by decide, by decide, by decide +kernel⟩ ⟨rfl, rfl, Nat.le_of_ble_eq_true rfl, Nat.le_of_ble_eq_true rfl⟩ (n := 2) rfl hl.1 rfl (Nat.le_of_ble_eq_true rfl) dL_changes_32 ⟨Nat.le_of_ble_eq_true rfl, Nat.le_of_ble_eq_true rfl⟩) (fun r9 e9 => ?_)
    obtain ⟨t2, ht2, rfl⟩ := e9
    refine mi_iadd S dL_changes_35 ?_
    exact mg36_1 ((t1 * 4) + t2)  _ (by omega)  (lv_sub hl [1, 2, 3, 0, 4, 5, 6] rfl)
  · refine lv_iload_n S.1 S.2.1 dL_changes_7 rfl (lv_at hl 2 rfl) ?_
    refine lv_iconst (v := nI 3) S.1 S.2.1 dL_changes_8 (by decide) ?_
    refine lv_ishr S.1 S.2.1 dL_changes_9 ?_
    refine lv_bipush (v := nI 16) S.1 S.2.1 dL_changes_10 (by decide) ?_
    refine mi_cR (mi_runS (P := mj_W D A q T gl gi) (As := [.int (y >>> ((nI (3)) &&& 31)), .int (nI (16))]) (rest := []) S E hS hM (c_Llow l D A (mj_W D A q T gl gi) (by omega) (by omega)) mw_186 mw_184 mw_185 mw_17 ⟨by decide, by decide, by decide +kernel⟩ ⟨rfl, rfl, Nat.le_of_ble_eq_true rfl, Nat.le_of_ble_eq_true rfl⟩ (n := 2) rfl hl.1 rfl (Nat.le_of_ble_eq_true rfl) dL_changes_12 ⟨Nat.le_of_ble_eq_true rfl, Nat.le_of_ble_eq_true rfl⟩) (fun r9 e9 => ?_)
    obtain ⟨t16, ht16, rfl⟩ := e9
    refine lv_goto (tgt := 36) S.1 S.2.1 dL_changes_15 (by decide) ?_
    exact mg36_1 t16  _ (by omega)  (lv_sub hl [1, 2, 3, 0, 4, 5, 6] rfl)
set_option maxHeartbeats 4000000 in
set_option maxRecDepth 100000 in
theorem c_Lch_visit (l : Launch) (D : va_G) (A : Nat → Prop) {q : Nat → Nat} {T : sT} {gl : Nat → Nat → Int64} {gi : Nat → Nat → Int32} (hst : l.stackTraces = false) (hAu : ∀ a b, A a → a ≤ b → A b) (hL : lr T gl gi) {act : Nat} (hact : act = 10) {y z : Int32} : mi_Mi l yL_changes (Cond.code yL_changes cL_changes 14 (some Jvm.ClassFile.FieldType.boolean)) (mi_rq 10 12 2100) D A (mj_W D A q T gl gi) [.ref (q 0), .int (nI (act)), .int (y), .int (z), .ref (q 1), .ref (q 2), .ref (q 9)] 12 2100 (fun r H => r = nI 1 ∧ mj_I D A q H) := by
  refine mi_start (cc := cL_changes) (nL := 14) (ret := (some Jvm.ClassFile.FieldType.boolean)) rfl (by decide) (Nat.le_of_ble_eq_true rfl) ?_
  intro p e s m below meth c ls S E hM hS hr hk hn hl
  have S : CallFix p m c cL_changes 14 s _ ((Cond.code yL_changes cL_changes 14 (some Jvm.ClassFile.FieldType.boolean)) :: mi_G) RL := S
  have hl : lv_has ls 14 [(0, .ref (q 0)), (1, .int (nI (act))), (2, .int (y)), (3, .int (z)), (4, .ref (q 1)), (5, .ref (q 2)), (6, .ref (q 9))] := hl
  have hO := hM.ok
  obtain ⟨⟨o1, o2, o3, o4, o5⟩, oP, oK, oD, oX, oC, oI⟩ := id hO
  obtain ⟨⟨g0, g1, g2, g3⟩, h16, hp9, hk9, hd9, hc9⟩ := id hL
  have mg36_1 : ∀ (a : Nat) (ls : Array Slot), a < 16 → lv_has ls 14 [(1, .int (nI (act))), (2, .int (y)), (3, .int (z)), (0, .ref (q 0)), (4, .ref (q 1)), (5, .ref (q 2)), (6, .ref (q 9))] → W p l e (mi_rq 10 12 2100) s m ([.ref (q 0), .int (nI (act)), .int (y), .int (z), .ref (q 1), .ref (q 2), .ref (q 9)] : List Value).toArray below meth c s.heap [] 0 0 (MQ below (mi_Qi A (fun r H => r = nI 1 ∧ mj_I D A q H)) ([.ref (q 0), .int (nI (act)), .int (y), .int (z), .ref (q 1), .ref (q 2), .ref (q 9)] : List Value).toArray s 12 2100 A) (F0 m 36 ls [.int (nI (a))]) := by
    intro a ls ha  hl
    refine lv_istore (lv' := [(7, .int (nI (a))), (1, .int (nI (act))), (2, .int (y)), (3, .int (z)), (0, .ref (q 0)), (4, .ref (q 1)), (5, .ref (q 2)), (6, .ref (q 9))]) S.1 S.2.1 dL_changes_36 hl (by decide) rfl (fun ls hl => ?_)
    have mg52_2 : ∀ (n8 : Nat) (ls : Array Slot), (n8 = 3 ∨ n8 = 8) → lv_has ls 14 [(7, .int (nI (a))), (1, .int (nI (act))), (2, .int (y)), (3, .int (z)), (0, .ref (q 0)), (4, .ref (q 1)), (5, .ref (q 2)), (6, .ref (q 9))] → W p l e (mi_rq 10 12 2100) s m ([.ref (q 0), .int (nI (act)), .int (y), .int (z), .ref (q 1), .ref (q 2), .ref (q 9)] : List Value).toArray below meth c s.heap [] 0 0 (MQ below (mi_Qi A (fun r H => r = nI 1 ∧ mj_I D A q H)) ([.ref (q 0), .int (nI (act)), .int (y), .int (z), .ref (q 1), .ref (q 2), .ref (q 9)] : List Value).toArray s 12 2100 A) (F0 m 52 ls [.int (nI (n8)), .int (z)]) := by
      intro n8 ls hn8  hl
      refine mi_cR (mi_runS (P := mj_W D A q T gl gi) (As := [.int (z), .int (nI (n8))]) (rest := []) S E hS hM (c_Llow l D A (mj_W D A q T gl gi) (by omega) (by omega)) mw_186 mw_184 mw_185 mw_17 ⟨by decide, by decide, by decide +kernel⟩ ⟨rfl, rfl, Nat.le_of_ble_eq_true rfl, Nat.le_of_ble_eq_true rfl⟩ (n := 2) rfl hl.1 rfl (Nat.le_of_ble_eq_true rfl) dL_changes_52 ⟨Nat.le_of_ble_eq_true rfl, Nat.le_of_ble_eq_true rfl⟩) (fun r9 e9 => ?_)
      obtain ⟨b, hb, rfl⟩ := e9
      refine lv_istore (lv' := [(8, .int (nI (b))), (7, .int (nI (a))), (1, .int (nI (act))), (2, .int (y)), (3, .int (z)), (0, .ref (q 0)), (4, .ref (q 1)), (5, .ref (q 2)), (6, .ref (q 9))]) S.1 S.2.1 dL_changes_55 hl (by decide) rfl (fun ls hl => ?_)
      have hb8 : b < 8 := by omega
      refine lv_iload_n S.1 S.2.1 dL_changes_57 rfl (lv_at hl 4 rfl) ?_
      refine lv_bipush (v := nI 7) S.1 S.2.1 dL_changes_58 (by decide) ?_
      refine lv_ishr S.1 S.2.1 dL_changes_60 ?_
      refine lv_iconst (v := nI 4) S.1 S.2.1 dL_changes_61 (by decide) ?_
      refine mi_cR (mi_runS (P := mj_W D A q T gl gi) (As := [.int (z >>> ((nI (7)) &&& 31)), .int (nI (4))]) (rest := []) S E hS hM (c_Llow l D A (mj_W D A q T gl gi) (by omega) (by omega)) mw_186 mw_184 mw_185 mw_17 ⟨by decide, by decide, by decide +kernel⟩ ⟨rfl, rfl, Nat.le_of_ble_eq_true rfl, Nat.le_of_ble_eq_true rfl⟩ (n := 2) rfl hl.1 rfl (Nat.le_of_ble_eq_true rfl) dL_changes_62 ⟨Nat.le_of_ble_eq_true rfl, Nat.le_of_ble_eq_true rfl⟩) (fun r9 e9 => ?_)
      obtain ⟨kq, hkq, rfl⟩ := e9
      refine lv_istore (lv' := [(9, .int (nI (kq))), (8, .int (nI (b))), (7, .int (nI (a))), (1, .int (nI (act))), (2, .int (y)), (3, .int (z)), (0, .ref (q 0)), (4, .ref (q 1)), (5, .ref (q 2)), (6, .ref (q 9))]) S.1 S.2.1 dL_changes_65 hl (by decide) rfl (fun ls hl => ?_)
      refine lv_iload_n S.1 S.2.1 dL_changes_67 rfl (lv_at hl 3 rfl) ?_
      refine lv_bipush (v := nI 6) S.1 S.2.1 dL_changes_68 (by decide) ?_
      refine mi_icmp_ge (tgt := 242) S (by omega) (by omega) dL_changes_70 (by decide) (fun c70_2 => ?_) (fun c70_2 => by exfalso; omega)
      refine lv_iload_n S.1 S.2.1 dL_changes_242 rfl (lv_at hl 3 rfl) ?_
      refine lv_bipush (v := nI 9) S.1 S.2.1 dL_changes_243 (by decide) ?_
      refine mi_icmp_ge (tgt := 426) S (by omega) (by omega) dL_changes_245 (by decide) (fun c245_3 => ?_) (fun c245_3 => by exfalso; omega)
      refine lv_iload_n S.1 S.2.1 dL_changes_426 rfl (lv_at hl 3 rfl) ?_
      refine lv_bipush (v := nI 9) S.1 S.2.1 dL_changes_427 (by decide) ?_
      refine mi_icmp_ne (tgt := 578) S (by omega) (by omega) dL_changes_429 (by decide) (fun c429_4 => ?_) (fun c429_4 => by exfalso; omega)
      refine lv_aload S.1 S.2.1 dL_changes_578 (lv_at hl 9 rfl) ?_
      refine lv_iconst (v := nI 0) S.1 S.2.1 dL_changes_580 (by decide) ?_
      refine mj_ild S E hM 9 (by omega) (by show _ < 4; omega) dL_changes_581 ?_
      refine mi_top (v' := .int (nI (sW T))) (congrArg Value.int g0) ?_
      refine lv_istore (lv' := [(10, .int (nI (sW T))), (9, .int (nI (kq))), (8, .int (nI (b))), (7, .int (nI (a))), (1, .int (nI (act))), (2, .int (y)), (3, .int (z)), (0, .ref (q 0)), (4, .ref (q 1)), (5, .ref (q 2)), (6, .ref (q 9))]) S.1 S.2.1 dL_changes_582 hl (by decide) rfl (fun ls hl => ?_)
      refine lv_iload_n S.1 S.2.1 dL_changes_584 rfl (lv_at hl 4 rfl) ?_
      refine lv_bipush (v := nI 10) S.1 S.2.1 dL_changes_585 (by decide) ?_
      refine mi_icmp_ne (tgt := 661) S (by omega) (by omega) dL_changes_587 (by decide) (fun c587_5 => by exfalso; omega) (fun c587_5 => ?_)
      refine lv_iload_n S.1 S.2.1 dL_changes_590 rfl (lv_at hl 5 rfl) ?_
      refine lv_aload S.1 S.2.1 dL_changes_591 (lv_at hl 10 rfl) ?_
      refine lv_iconst (v := nI 1) S.1 S.2.1 dL_changes_593 (by decide) ?_
      refine mj_ild S E hM 9 (by omega) (by show _ < 4; omega) dL_changes_594 ?_
      refine mi_top (v' := .int (nI (sN T))) (congrArg Value.int g1) ?_
      refine lv_iconst (v := nI 1) S.1 S.2.1 dL_changes_595 (by decide) ?_
      refine mi_iadd S dL_changes_596 ?_
      refine mi_cR (mi_runS (P := mj_W D A q T gl gi) (As := [.int (y), .int (nI ((sN T) + 1))]) (rest := []) S E hS hM (c_Llow l D A (mj_W D A q T gl gi) (by omega) (by omega)) mw_186 mw_184 mw_185 mw_17 ⟨by decide, by decide, by decide +kernel⟩ ⟨rfl, rfl, Nat.le_of_ble_eq_true rfl, Nat.le_of_ble_eq_true rfl⟩ (n := 2) rfl hl.1 rfl (Nat.le_of_ble_eq_true rfl) dL_changes_597 ⟨Nat.le_of_ble_eq_true rfl, Nat.le_of_ble_eq_true rfl⟩) (fun r9 e9 => ?_)
      obtain ⟨t, ht, rfl⟩ := e9
      refine lv_istore (lv' := [(11, .int (nI (t))), (10, .int (nI (sW T))), (9, .int (nI (kq))), (8, .int (nI (b))), (7, .int (nI (a))), (1, .int (nI (act))), (2, .int (y)), (3, .int (z)), (0, .ref (q 0)), (4, .ref (q 1)), (5, .ref (q 2)), (6, .ref (q 9))]) S.1 S.2.1 dL_changes_600 hl (by decide) rfl (fun ls hl => ?_)
      refine lv_iload S.1 S.2.1 dL_changes_602 (lv_at hl 0 rfl) ?_
      refine lv_aload S.1 S.2.1 dL_changes_604 (lv_at hl 11 rfl) ?_
      refine lv_iconst (v := nI 1) S.1 S.2.1 dL_changes_606 (by decide) ?_
      refine mj_ild S E hM 9 (by omega) (by show _ < 4; omega) dL_changes_607 ?_
      refine mi_top (v' := .int (nI (sN T))) (congrArg Value.int g1) ?_
      refine mi_icmp_ne (tgt := 638) S (by omega) (by omega) dL_changes_608 (by decide) (fun c608_6 => ?_) (fun c608_6 => ?_)
      · refine lv_aload S.1 S.2.1 dL_changes_638 (lv_at hl 11 rfl) ?_
        refine lv_iconst (v := nI 0) S.1 S.2.1 dL_changes_640 (by decide) ?_
        refine lv_iload S.1 S.2.1 dL_changes_641 (lv_at hl 0 rfl) ?_
        refine mj_ist S E hS hM 9 (by omega) (by show _ < 4; omega) dL_changes_643 (fun H locs hM hS => ?_)
        refine lv_aload_n S.1 S.2.1 dL_changes_644 rfl (lv_at hl 8 rfl) ?_
        refine lv_iload S.1 S.2.1 dL_changes_645 (lv_at hl 0 rfl) ?_
        refine mi_cMi (mi_runSH (P := mj_W D A q T gl ((va_up gi 9 (upd (gi 9) (0) (nI (t)))))) (As := [.ref (q 0), .int (nI (t))]) (rest := []) S E hS hM (j_visit l D A hst q hO (show t < sN T by omega)) mw_379 mw_377 mw_378 mw_17 ⟨by decide, by decide, by decide +kernel⟩ ⟨rfl, rfl, Nat.le_of_ble_eq_true rfl, Nat.le_of_ble_eq_true rfl⟩ (n := 2) rfl hl.1 rfl (Nat.le_of_ble_eq_true rfl) dL_changes_647 ⟨(by show _ ≤ (12 : Nat); omega), (by show _ ≤ (2100 : Nat); omega)⟩) hS (fun r9 H locs hp9 hS hz9 => ?_)
        obtain ⟨e9, hM⟩ := hp9
        refine mi_top (v' := .int (nI (sW T))) (by rw [e9]) ?_
        refine lv_iload S.1 S.2.1 dL_changes_650 (lv_at hl 1 rfl) ?_
        refine mi_icmp_ne (tgt := 659) S (by omega) (by omega) dL_changes_652 (by decide) (fun c652_7 => by exfalso; omega) (fun c652_7 => ?_)
        refine lv_iconst (v := nI 1) S.1 S.2.1 dL_changes_655 (by decide) ?_
        refine lv_goto (tgt := 660) S.1 S.2.1 dL_changes_656 (by decide) ?_
        exact mi_retMz S hr hk hS dL_changes_660 rfl (by show _ ≤ (12 : Nat); omega) (by show _ ≤ (2100 : Nat); omega) (⟨rfl, _, _, _, lr_now hL t, hM⟩)
      · refine lv_aload_n S.1 S.2.1 dL_changes_611 rfl (lv_at hl 8 rfl) ?_
        refine lv_iload S.1 S.2.1 dL_changes_612 (lv_at hl 0 rfl) ?_
        refine mi_cMi (mi_runSH (P := mj_W D A q T gl gi) (As := [.ref (q 0), .int (nI (t))]) (rest := []) S E hS hM (j_visit_x1 l D A hst q hO (lj_tn (by omega) (by omega))) mw_379 mw_377 mw_378 mw_17 ⟨by decide, by decide, by decide +kernel⟩ ⟨rfl, rfl, Nat.le_of_ble_eq_true rfl, Nat.le_of_ble_eq_true rfl⟩ (n := 2) rfl hl.1 rfl (Nat.le_of_ble_eq_true rfl) dL_changes_614 ⟨(by show _ ≤ (12 : Nat); omega), (by show _ ≤ (2100 : Nat); omega)⟩) hS (fun r9 H locs hp9 hS hz9 => ?_)
        obtain ⟨e9, hM⟩ := hp9
        refine mi_top (v' := .int (-71)) (by rw [e9]) ?_
        refine lv_bipush (v := (-71)) S.1 S.2.1 dL_changes_617 (by decide) ?_
        refine lv_icmp_ne (tgt := 636) S.1 S.2.1 dL_changes_619 (by decide) (fun c619_8 => absurd rfl c619_8) (fun _ => ?_)
        refine lv_aload_n S.1 S.2.1 dL_changes_622 rfl (lv_at hl 8 rfl) ?_
        refine lv_iconst (v := (-1)) S.1 S.2.1 dL_changes_623 (by decide) ?_
        refine mi_cMi (mi_runSH (P := mj_W D A q T gl gi) (As := [.ref (q 0), .int (-1)]) (rest := []) S E hS hM (j_visit_x1 l D A hst q hO lj_m1) mw_379 mw_377 mw_378 mw_17 ⟨by decide, by decide, by decide +kernel⟩ ⟨rfl, rfl, Nat.le_of_ble_eq_true rfl, Nat.le_of_ble_eq_true rfl⟩ (n := 2) rfl hl.1 rfl (Nat.le_of_ble_eq_true rfl) dL_changes_624 ⟨(by show _ ≤ (12 : Nat); omega), (by show _ ≤ (2100 : Nat); omega)⟩) hS (fun r9 H locs hp9 hS hz9 => ?_)
        obtain ⟨e9, hM⟩ := hp9
        refine mi_top (v' := .int (-71)) (by rw [e9]) ?_
        refine lv_bipush (v := (-71)) S.1 S.2.1 dL_changes_627 (by decide) ?_
        refine lv_icmp_ne (tgt := 636) S.1 S.2.1 dL_changes_629 (by decide) (fun c629_9 => absurd rfl c629_9) (fun _ => ?_)
        refine lv_iconst (v := nI 1) S.1 S.2.1 dL_changes_632 (by decide) ?_
        refine lv_goto (tgt := 637) S.1 S.2.1 dL_changes_633 (by decide) ?_
        exact mi_retMz S hr hk hS dL_changes_637 rfl (by show _ ≤ (12 : Nat); omega) (by show _ ≤ (2100 : Nat); omega) (⟨rfl, T, gl, gi, hL, hM⟩)
    refine lv_iload_n S.1 S.2.1 dL_changes_38 rfl (lv_at hl 3 rfl) ?_
    refine lv_iload_n S.1 S.2.1 dL_changes_39 rfl (lv_at hl 3 rfl) ?_
    refine lv_bipush (v := nI 96) S.1 S.2.1 dL_changes_40 (by decide) ?_
    refine lv_iand S.1 S.2.1 dL_changes_42 ?_
    refine mi_xif_ne (tgt := 51) S (rfl : (z &&& (nI (96))).toInt = _) dL_changes_43 (by decide) (fun c43_10 => ?_) (fun c43_10 => ?_)
    · refine lv_iconst (v := nI 3) S.1 S.2.1 dL_changes_51 (by decide) ?_
      exact mg52_2 3  _ (by omega)  (lv_sub hl [0, 1, 2, 3, 4, 5, 6, 7] rfl)
    · refine lv_bipush (v := nI 8) S.1 S.2.1 dL_changes_46 (by decide) ?_
      refine lv_goto (tgt := 52) S.1 S.2.1 dL_changes_48 (by decide) ?_
      exact mg52_2 8  _ (by omega)  (lv_sub hl [0, 1, 2, 3, 4, 5, 6, 7] rfl)
  refine lv_iload_n S.1 S.2.1 dL_changes_0 rfl (lv_at hl 2 rfl) ?_
  refine lv_bipush (v := nI 6) S.1 S.2.1 dL_changes_1 (by decide) ?_
  refine lv_iand S.1 S.2.1 dL_changes_3 ?_
  refine mi_xif_ne (tgt := 18) S (rfl : (y &&& (nI (6))).toInt = _) dL_changes_4 (by decide) (fun c4_11 => ?_) (fun c4_11 => ?_)
  · refine lv_iload_n S.1 S.2.1 dL_changes_18 rfl (lv_at hl 2 rfl) ?_
    refine lv_iconst (v := nI 3) S.1 S.2.1 dL_changes_19 (by decide) ?_
    refine lv_ishr S.1 S.2.1 dL_changes_20 ?_
    refine lv_iconst (v := nI 3) S.1 S.2.1 dL_changes_21 (by decide) ?_
    refine mi_cR (mi_runS (P := mj_W D A q T gl gi) (As := [.int (y >>> ((nI (3)) &&& 31)), .int (nI (3))]) (rest := []) S E hS hM (c_Llow l D A (mj_W D A q T gl gi) (by omega) (by omega)) mw_186 mw_184 mw_185 mw_17 ⟨by decide, by decide, by decide +kernel⟩ ⟨rfl, rfl, Nat.le_of_ble_eq_true rfl, Nat.le_of_ble_eq_true rfl⟩ (n := 2) rfl hl.1 rfl (Nat.le_of_ble_eq_true rfl) dL_changes_22 ⟨Nat.le_of_ble_eq_true rfl, Nat.le_of_ble_eq_true rfl⟩) (fun r9 e9 => ?_)
    obtain ⟨t1, ht1, rfl⟩ := e9
    refine lv_iconst (v := nI 4) S.1 S.2.1 dL_changes_25 (by decide) ?_
    refine mi_imul S dL_changes_26 ?_
    refine lv_iload_n S.1 S.2.1 dL_changes_27 rfl (lv_at hl 2 rfl) ?_
    refine lv_bipush (v := nI 6) S.1 S.2.1 dL_changes_28 (by decide) ?_
    refine lv_ishr S.1 S.2.1 dL_changes_30 ?_
    refine lv_iconst (v := nI 2) S.1 S.2.1 dL_changes_31 (by decide) ?_
    refine mi_cR (mi_runS (P := mj_W D A q T gl gi) (As := [.int (y >>> ((nI (6)) &&& 31)), .int (nI (2))]) (rest := [.int (nI (t1 * 4))]) S E hS hM (c_Llow l D A (mj_W D A q T gl gi) (by omega) (by omega)) mw_186 mw_184 mw_185 mw_17 ⟨by decide, by decide, by decide +kernel⟩ ⟨rfl, rfl, Nat.le_of_ble_eq_true rfl, Nat.le_of_ble_eq_true rfl⟩ (n := 2) rfl hl.1 rfl (Nat.le_of_ble_eq_true rfl) dL_changes_32 ⟨Nat.le_of_ble_eq_true rfl, Nat.le_of_ble_eq_true rfl⟩) (fun r9 e9 => ?_)
    obtain ⟨t2, ht2, rfl⟩ := e9
    refine mi_iadd S dL_changes_35 ?_
    exact mg36_1 ((t1 * 4) + t2)  _ (by omega)  (lv_sub hl [1, 2, 3, 0, 4, 5, 6] rfl)
  · refine lv_iload_n S.1 S.2.1 dL_changes_7 rfl (lv_at hl 2 rfl) ?_
    refine lv_iconst (v := nI 3) S.1 S.2.1 dL_changes_8 (by decide) ?_
    refine lv_ishr S.1 S.2.1 dL_changes_9 ?_
    refine lv_bipush (v := nI 16) S.1 S.2.1 dL_changes_10 (by decide) ?_
    refine mi_cR (mi_runS (P := mj_W D A q T gl gi) (As := [.int (y >>> ((nI (3)) &&& 31)), .int (nI (16))]) (rest := []) S E hS hM (c_Llow l D A (mj_W D A q T gl gi) (by omega) (by omega)) mw_186 mw_184 mw_185 mw_17 ⟨by decide, by decide, by decide +kernel⟩ ⟨rfl, rfl, Nat.le_of_ble_eq_true rfl, Nat.le_of_ble_eq_true rfl⟩ (n := 2) rfl hl.1 rfl (Nat.le_of_ble_eq_true rfl) dL_changes_12 ⟨Nat.le_of_ble_eq_true rfl, Nat.le_of_ble_eq_true rfl⟩) (fun r9 e9 => ?_)
    obtain ⟨t16, ht16, rfl⟩ := e9
    refine lv_goto (tgt := 36) S.1 S.2.1 dL_changes_15 (by decide) ?_
    exact mg36_1 t16  _ (by omega)  (lv_sub hl [1, 2, 3, 0, 4, 5, 6] rfl)
set_option maxHeartbeats 4000000 in
set_option maxRecDepth 100000 in
theorem c_Lch_undo (l : Launch) (D : va_G) (A : Nat → Prop) {q : Nat → Nat} {T : sT} {gl : Nat → Nat → Int64} {gi : Nat → Nat → Int32} (hst : l.stackTraces = false) (hAu : ∀ a b, A a → a ≤ b → A b) (hL : lr T gl gi) {act : Nat} (hact : act = 11) {y z : Int32} : mi_Mi l yL_changes (Cond.code yL_changes cL_changes 14 (some Jvm.ClassFile.FieldType.boolean)) (mi_rq 10 12 2100) D A (mj_W D A q T gl gi) [.ref (q 0), .int (nI (act)), .int (y), .int (z), .ref (q 1), .ref (q 2), .ref (q 9)] 12 2100 (fun r H => r = nI 1 ∧ mj_I D A q H) := by
  refine mi_start (cc := cL_changes) (nL := 14) (ret := (some Jvm.ClassFile.FieldType.boolean)) rfl (by decide) (Nat.le_of_ble_eq_true rfl) ?_
  intro p e s m below meth c ls S E hM hS hr hk hn hl
  have S : CallFix p m c cL_changes 14 s _ ((Cond.code yL_changes cL_changes 14 (some Jvm.ClassFile.FieldType.boolean)) :: mi_G) RL := S
  have hl : lv_has ls 14 [(0, .ref (q 0)), (1, .int (nI (act))), (2, .int (y)), (3, .int (z)), (4, .ref (q 1)), (5, .ref (q 2)), (6, .ref (q 9))] := hl
  have hO := hM.ok
  obtain ⟨⟨o1, o2, o3, o4, o5⟩, oP, oK, oD, oX, oC, oI⟩ := id hO
  obtain ⟨⟨g0, g1, g2, g3⟩, h16, hp9, hk9, hd9, hc9⟩ := id hL
  have mg36_1 : ∀ (a : Nat) (ls : Array Slot), a < 16 → lv_has ls 14 [(1, .int (nI (act))), (2, .int (y)), (3, .int (z)), (0, .ref (q 0)), (4, .ref (q 1)), (5, .ref (q 2)), (6, .ref (q 9))] → W p l e (mi_rq 10 12 2100) s m ([.ref (q 0), .int (nI (act)), .int (y), .int (z), .ref (q 1), .ref (q 2), .ref (q 9)] : List Value).toArray below meth c s.heap [] 0 0 (MQ below (mi_Qi A (fun r H => r = nI 1 ∧ mj_I D A q H)) ([.ref (q 0), .int (nI (act)), .int (y), .int (z), .ref (q 1), .ref (q 2), .ref (q 9)] : List Value).toArray s 12 2100 A) (F0 m 36 ls [.int (nI (a))]) := by
    intro a ls ha  hl
    refine lv_istore (lv' := [(7, .int (nI (a))), (1, .int (nI (act))), (2, .int (y)), (3, .int (z)), (0, .ref (q 0)), (4, .ref (q 1)), (5, .ref (q 2)), (6, .ref (q 9))]) S.1 S.2.1 dL_changes_36 hl (by decide) rfl (fun ls hl => ?_)
    have mg52_2 : ∀ (n8 : Nat) (ls : Array Slot), (n8 = 3 ∨ n8 = 8) → lv_has ls 14 [(7, .int (nI (a))), (1, .int (nI (act))), (2, .int (y)), (3, .int (z)), (0, .ref (q 0)), (4, .ref (q 1)), (5, .ref (q 2)), (6, .ref (q 9))] → W p l e (mi_rq 10 12 2100) s m ([.ref (q 0), .int (nI (act)), .int (y), .int (z), .ref (q 1), .ref (q 2), .ref (q 9)] : List Value).toArray below meth c s.heap [] 0 0 (MQ below (mi_Qi A (fun r H => r = nI 1 ∧ mj_I D A q H)) ([.ref (q 0), .int (nI (act)), .int (y), .int (z), .ref (q 1), .ref (q 2), .ref (q 9)] : List Value).toArray s 12 2100 A) (F0 m 52 ls [.int (nI (n8)), .int (z)]) := by
      intro n8 ls hn8  hl
      refine mi_cR (mi_runS (P := mj_W D A q T gl gi) (As := [.int (z), .int (nI (n8))]) (rest := []) S E hS hM (c_Llow l D A (mj_W D A q T gl gi) (by omega) (by omega)) mw_186 mw_184 mw_185 mw_17 ⟨by decide, by decide, by decide +kernel⟩ ⟨rfl, rfl, Nat.le_of_ble_eq_true rfl, Nat.le_of_ble_eq_true rfl⟩ (n := 2) rfl hl.1 rfl (Nat.le_of_ble_eq_true rfl) dL_changes_52 ⟨Nat.le_of_ble_eq_true rfl, Nat.le_of_ble_eq_true rfl⟩) (fun r9 e9 => ?_)
      obtain ⟨b, hb, rfl⟩ := e9
      refine lv_istore (lv' := [(8, .int (nI (b))), (7, .int (nI (a))), (1, .int (nI (act))), (2, .int (y)), (3, .int (z)), (0, .ref (q 0)), (4, .ref (q 1)), (5, .ref (q 2)), (6, .ref (q 9))]) S.1 S.2.1 dL_changes_55 hl (by decide) rfl (fun ls hl => ?_)
      have hb8 : b < 8 := by omega
      refine lv_iload_n S.1 S.2.1 dL_changes_57 rfl (lv_at hl 4 rfl) ?_
      refine lv_bipush (v := nI 7) S.1 S.2.1 dL_changes_58 (by decide) ?_
      refine lv_ishr S.1 S.2.1 dL_changes_60 ?_
      refine lv_iconst (v := nI 4) S.1 S.2.1 dL_changes_61 (by decide) ?_
      refine mi_cR (mi_runS (P := mj_W D A q T gl gi) (As := [.int (z >>> ((nI (7)) &&& 31)), .int (nI (4))]) (rest := []) S E hS hM (c_Llow l D A (mj_W D A q T gl gi) (by omega) (by omega)) mw_186 mw_184 mw_185 mw_17 ⟨by decide, by decide, by decide +kernel⟩ ⟨rfl, rfl, Nat.le_of_ble_eq_true rfl, Nat.le_of_ble_eq_true rfl⟩ (n := 2) rfl hl.1 rfl (Nat.le_of_ble_eq_true rfl) dL_changes_62 ⟨Nat.le_of_ble_eq_true rfl, Nat.le_of_ble_eq_true rfl⟩) (fun r9 e9 => ?_)
      obtain ⟨kq, hkq, rfl⟩ := e9
      refine lv_istore (lv' := [(9, .int (nI (kq))), (8, .int (nI (b))), (7, .int (nI (a))), (1, .int (nI (act))), (2, .int (y)), (3, .int (z)), (0, .ref (q 0)), (4, .ref (q 1)), (5, .ref (q 2)), (6, .ref (q 9))]) S.1 S.2.1 dL_changes_65 hl (by decide) rfl (fun ls hl => ?_)
      refine lv_iload_n S.1 S.2.1 dL_changes_67 rfl (lv_at hl 3 rfl) ?_
      refine lv_bipush (v := nI 6) S.1 S.2.1 dL_changes_68 (by decide) ?_
      refine mi_icmp_ge (tgt := 242) S (by omega) (by omega) dL_changes_70 (by decide) (fun c70_2 => ?_) (fun c70_2 => by exfalso; omega)
      refine lv_iload_n S.1 S.2.1 dL_changes_242 rfl (lv_at hl 3 rfl) ?_
      refine lv_bipush (v := nI 9) S.1 S.2.1 dL_changes_243 (by decide) ?_
      refine mi_icmp_ge (tgt := 426) S (by omega) (by omega) dL_changes_245 (by decide) (fun c245_3 => ?_) (fun c245_3 => by exfalso; omega)
      refine lv_iload_n S.1 S.2.1 dL_changes_426 rfl (lv_at hl 3 rfl) ?_
      refine lv_bipush (v := nI 9) S.1 S.2.1 dL_changes_427 (by decide) ?_
      refine mi_icmp_ne (tgt := 578) S (by omega) (by omega) dL_changes_429 (by decide) (fun c429_4 => ?_) (fun c429_4 => by exfalso; omega)
      refine lv_aload S.1 S.2.1 dL_changes_578 (lv_at hl 9 rfl) ?_
      refine lv_iconst (v := nI 0) S.1 S.2.1 dL_changes_580 (by decide) ?_
      refine mj_ild S E hM 9 (by omega) (by show _ < 4; omega) dL_changes_581 ?_
      refine mi_top (v' := .int (nI (sW T))) (congrArg Value.int g0) ?_
      refine lv_istore (lv' := [(10, .int (nI (sW T))), (9, .int (nI (kq))), (8, .int (nI (b))), (7, .int (nI (a))), (1, .int (nI (act))), (2, .int (y)), (3, .int (z)), (0, .ref (q 0)), (4, .ref (q 1)), (5, .ref (q 2)), (6, .ref (q 9))]) S.1 S.2.1 dL_changes_582 hl (by decide) rfl (fun ls hl => ?_)
      refine lv_iload_n S.1 S.2.1 dL_changes_584 rfl (lv_at hl 4 rfl) ?_
      refine lv_bipush (v := nI 10) S.1 S.2.1 dL_changes_585 (by decide) ?_
      refine mi_icmp_ne (tgt := 661) S (by omega) (by omega) dL_changes_587 (by decide) (fun c587_5 => ?_) (fun c587_5 => by exfalso; omega)
      refine lv_iload_n S.1 S.2.1 dL_changes_661 rfl (lv_at hl 4 rfl) ?_
      refine lv_bipush (v := nI 11) S.1 S.2.1 dL_changes_662 (by decide) ?_
      refine mi_icmp_ne (tgt := 714) S (by omega) (by omega) dL_changes_664 (by decide) (fun c664_6 => by exfalso; omega) (fun c664_6 => ?_)
      refine lv_iload S.1 S.2.1 dL_changes_667 (lv_at hl 0 rfl) ?_
      refine mi_if_ne (tgt := 687) S (by omega) dL_changes_669 (by decide) (fun c669_7 => ?_) (fun c669_7 => ?_)
      · have hpl := oP (sW T) (by omega) o3
        refine lv_aload S.1 S.2.1 dL_changes_687 (lv_at hl 10 rfl) ?_
        refine lv_iconst (v := nI 0) S.1 S.2.1 dL_changes_689 (by decide) ?_
        refine lv_aload S.1 S.2.1 dL_changes_690 (lv_at hl 9 rfl) ?_
        refine lv_iload S.1 S.2.1 dL_changes_692 (lv_at hl 0 rfl) ?_
        refine mj_ild S E hM 2 (by omega) (by show _ < 16; omega) dL_changes_694 ?_
        refine mi_top (v' := .int (nI (sP T (sW T)))) (congrArg Value.int (hp9 (sW T) (by omega) (by omega))) ?_
        refine mj_ist S E hS hM 9 (by omega) (by show _ < 4; omega) dL_changes_695 (fun H locs hM hS => ?_)
        refine lv_aload_n S.1 S.2.1 dL_changes_696 rfl (lv_at hl 7 rfl) ?_
        refine mi_cMi (mi_runSH (P := mj_W D A q T gl ((va_up gi 9 (upd (gi 9) (0) (nI (sP T (sW T))))))) (As := [.ref (q 0)]) (rest := []) S E hS hM (j_undo l D A hst q hO (by omega)) mw_405 mw_403 mw_404 mw_17 ⟨by decide, by decide, by decide +kernel⟩ ⟨rfl, rfl, Nat.le_of_ble_eq_true rfl, Nat.le_of_ble_eq_true rfl⟩ (n := 1) rfl hl.1 rfl (Nat.le_of_ble_eq_true rfl) dL_changes_697 ⟨(by show _ ≤ (12 : Nat); omega), (by show _ ≤ (2100 : Nat); omega)⟩) hS (fun r9 H locs hp9 hS hz9 => ?_)
        obtain ⟨e9, hM⟩ := hp9
        refine mi_top (v' := .int (nI (sP T (sW T)))) (by rw [e9]) ?_
        refine lv_aload S.1 S.2.1 dL_changes_700 (lv_at hl 9 rfl) ?_
        refine lv_iload S.1 S.2.1 dL_changes_702 (lv_at hl 0 rfl) ?_
        refine mj_ild S E hM 2 (by omega) (by show _ < 16; omega) dL_changes_704 ?_
        refine mi_top (v' := .int (nI (sP T (sW T)))) (congrArg Value.int (hp9 (sW T) (by omega) (by omega))) ?_
        refine mi_icmp_ne (tgt := 712) S (by omega) (by omega) dL_changes_705 (by decide) (fun c705_8 => by exfalso; omega) (fun c705_8 => ?_)
        refine lv_iconst (v := nI 1) S.1 S.2.1 dL_changes_708 (by decide) ?_
        refine lv_goto (tgt := 713) S.1 S.2.1 dL_changes_709 (by decide) ?_
        exact mi_retMz S hr hk hS dL_changes_713 rfl (by show _ ≤ (12 : Nat); omega) (by show _ ≤ (2100 : Nat); omega) (⟨rfl, _, _, _, lr_now hL (sP T (sW T)), hM⟩)
      · refine lv_aload_n S.1 S.2.1 dL_changes_672 rfl (lv_at hl 7 rfl) ?_
        refine mi_cMi (mi_runSH (P := mj_W D A q T gl gi) (As := [.ref (q 0)]) (rest := []) S E hS hM (j_undo_x1 l D A hst q hO (by omega)) mw_405 mw_403 mw_404 mw_17 ⟨by decide, by decide, by decide +kernel⟩ ⟨rfl, rfl, Nat.le_of_ble_eq_true rfl, Nat.le_of_ble_eq_true rfl⟩ (n := 1) rfl hl.1 rfl (Nat.le_of_ble_eq_true rfl) dL_changes_673 ⟨(by show _ ≤ (12 : Nat); omega), (by show _ ≤ (2100 : Nat); omega)⟩) hS (fun r9 H locs hp9 hS hz9 => ?_)
        obtain ⟨e9, hM⟩ := hp9
        refine mi_top (v' := .int (-73)) (by rw [e9]) ?_
        refine lv_bipush (v := (-73)) S.1 S.2.1 dL_changes_676 (by decide) ?_
        refine lv_icmp_ne (tgt := 685) S.1 S.2.1 dL_changes_678 (by decide) (fun c678_9 => absurd rfl c678_9) (fun _ => ?_)
        refine lv_iconst (v := nI 1) S.1 S.2.1 dL_changes_681 (by decide) ?_
        refine lv_goto (tgt := 686) S.1 S.2.1 dL_changes_682 (by decide) ?_
        exact mi_retMz S hr hk hS dL_changes_686 rfl (by show _ ≤ (12 : Nat); omega) (by show _ ≤ (2100 : Nat); omega) (⟨rfl, T, gl, gi, hL, hM⟩)
    refine lv_iload_n S.1 S.2.1 dL_changes_38 rfl (lv_at hl 3 rfl) ?_
    refine lv_iload_n S.1 S.2.1 dL_changes_39 rfl (lv_at hl 3 rfl) ?_
    refine lv_bipush (v := nI 96) S.1 S.2.1 dL_changes_40 (by decide) ?_
    refine lv_iand S.1 S.2.1 dL_changes_42 ?_
    refine mi_xif_ne (tgt := 51) S (rfl : (z &&& (nI (96))).toInt = _) dL_changes_43 (by decide) (fun c43_10 => ?_) (fun c43_10 => ?_)
    · refine lv_iconst (v := nI 3) S.1 S.2.1 dL_changes_51 (by decide) ?_
      exact mg52_2 3  _ (by omega)  (lv_sub hl [0, 1, 2, 3, 4, 5, 6, 7] rfl)
    · refine lv_bipush (v := nI 8) S.1 S.2.1 dL_changes_46 (by decide) ?_
      refine lv_goto (tgt := 52) S.1 S.2.1 dL_changes_48 (by decide) ?_
      exact mg52_2 8  _ (by omega)  (lv_sub hl [0, 1, 2, 3, 4, 5, 6, 7] rfl)
  refine lv_iload_n S.1 S.2.1 dL_changes_0 rfl (lv_at hl 2 rfl) ?_
  refine lv_bipush (v := nI 6) S.1 S.2.1 dL_changes_1 (by decide) ?_
  refine lv_iand S.1 S.2.1 dL_changes_3 ?_
  refine mi_xif_ne (tgt := 18) S (rfl : (y &&& (nI (6))).toInt = _) dL_changes_4 (by decide) (fun c4_11 => ?_) (fun c4_11 => ?_)
  · refine lv_iload_n S.1 S.2.1 dL_changes_18 rfl (lv_at hl 2 rfl) ?_
    refine lv_iconst (v := nI 3) S.1 S.2.1 dL_changes_19 (by decide) ?_
    refine lv_ishr S.1 S.2.1 dL_changes_20 ?_
    refine lv_iconst (v := nI 3) S.1 S.2.1 dL_changes_21 (by decide) ?_
    refine mi_cR (mi_runS (P := mj_W D A q T gl gi) (As := [.int (y >>> ((nI (3)) &&& 31)), .int (nI (3))]) (rest := []) S E hS hM (c_Llow l D A (mj_W D A q T gl gi) (by omega) (by omega)) mw_186 mw_184 mw_185 mw_17 ⟨by decide, by decide, by decide +kernel⟩ ⟨rfl, rfl, Nat.le_of_ble_eq_true rfl, Nat.le_of_ble_eq_true rfl⟩ (n := 2) rfl hl.1 rfl (Nat.le_of_ble_eq_true rfl) dL_changes_22 ⟨Nat.le_of_ble_eq_true rfl, Nat.le_of_ble_eq_true rfl⟩) (fun r9 e9 => ?_)
    obtain ⟨t1, ht1, rfl⟩ := e9
    refine lv_iconst (v := nI 4) S.1 S.2.1 dL_changes_25 (by decide) ?_
    refine mi_imul S dL_changes_26 ?_
    refine lv_iload_n S.1 S.2.1 dL_changes_27 rfl (lv_at hl 2 rfl) ?_
    refine lv_bipush (v := nI 6) S.1 S.2.1 dL_changes_28 (by decide) ?_
    refine lv_ishr S.1 S.2.1 dL_changes_30 ?_
    refine lv_iconst (v := nI 2) S.1 S.2.1 dL_changes_31 (by decide) ?_
    refine mi_cR (mi_runS (P := mj_W D A q T gl gi) (As := [.int (y >>> ((nI (6)) &&& 31)), .int (nI (2))]) (rest := [.int (nI (t1 * 4))]) S E hS hM (c_Llow l D A (mj_W D A q T gl gi) (by omega) (by omega)) mw_186 mw_184 mw_185 mw_17 ⟨by decide, by decide, by decide +kernel⟩ ⟨rfl, rfl, Nat.le_of_ble_eq_true rfl, Nat.le_of_ble_eq_true rfl⟩ (n := 2) rfl hl.1 rfl (Nat.le_of_ble_eq_true rfl) dL_changes_32 ⟨Nat.le_of_ble_eq_true rfl, Nat.le_of_ble_eq_true rfl⟩) (fun r9 e9 => ?_)
    obtain ⟨t2, ht2, rfl⟩ := e9
    refine mi_iadd S dL_changes_35 ?_
    exact mg36_1 ((t1 * 4) + t2)  _ (by omega)  (lv_sub hl [1, 2, 3, 0, 4, 5, 6] rfl)
  · refine lv_iload_n S.1 S.2.1 dL_changes_7 rfl (lv_at hl 2 rfl) ?_
    refine lv_iconst (v := nI 3) S.1 S.2.1 dL_changes_8 (by decide) ?_
    refine lv_ishr S.1 S.2.1 dL_changes_9 ?_
    refine lv_bipush (v := nI 16) S.1 S.2.1 dL_changes_10 (by decide) ?_
    refine mi_cR (mi_runS (P := mj_W D A q T gl gi) (As := [.int (y >>> ((nI (3)) &&& 31)), .int (nI (16))]) (rest := []) S E hS hM (c_Llow l D A (mj_W D A q T gl gi) (by omega) (by omega)) mw_186 mw_184 mw_185 mw_17 ⟨by decide, by decide, by decide +kernel⟩ ⟨rfl, rfl, Nat.le_of_ble_eq_true rfl, Nat.le_of_ble_eq_true rfl⟩ (n := 2) rfl hl.1 rfl (Nat.le_of_ble_eq_true rfl) dL_changes_12 ⟨Nat.le_of_ble_eq_true rfl, Nat.le_of_ble_eq_true rfl⟩) (fun r9 e9 => ?_)
    obtain ⟨t16, ht16, rfl⟩ := e9
    refine lv_goto (tgt := 36) S.1 S.2.1 dL_changes_15 (by decide) ?_
    exact mg36_1 t16  _ (by omega)  (lv_sub hl [1, 2, 3, 0, 4, 5, 6] rfl)
set_option maxHeartbeats 4000000 in
set_option maxRecDepth 100000 in
theorem c_Lch_redo (l : Launch) (D : va_G) (A : Nat → Prop) {q : Nat → Nat} {T : sT} {gl : Nat → Nat → Int64} {gi : Nat → Nat → Int32} (hst : l.stackTraces = false) (hAu : ∀ a b, A a → a ≤ b → A b) (hL : lr T gl gi) {act : Nat} (hact : 12 ≤ act ∧ act < 14) {y z : Int32} : mi_Mi l yL_changes (Cond.code yL_changes cL_changes 14 (some Jvm.ClassFile.FieldType.boolean)) (mi_rq 10 12 2100) D A (mj_W D A q T gl gi) [.ref (q 0), .int (nI (act)), .int (y), .int (z), .ref (q 1), .ref (q 2), .ref (q 9)] 12 2100 (fun r H => r = nI 1 ∧ mj_I D A q H) := by
  refine mi_start (cc := cL_changes) (nL := 14) (ret := (some Jvm.ClassFile.FieldType.boolean)) rfl (by decide) (Nat.le_of_ble_eq_true rfl) ?_
  intro p e s m below meth c ls S E hM hS hr hk hn hl
  have S : CallFix p m c cL_changes 14 s _ ((Cond.code yL_changes cL_changes 14 (some Jvm.ClassFile.FieldType.boolean)) :: mi_G) RL := S
  have hl : lv_has ls 14 [(0, .ref (q 0)), (1, .int (nI (act))), (2, .int (y)), (3, .int (z)), (4, .ref (q 1)), (5, .ref (q 2)), (6, .ref (q 9))] := hl
  have hO := hM.ok
  obtain ⟨⟨o1, o2, o3, o4, o5⟩, oP, oK, oD, oX, oC, oI⟩ := id hO
  obtain ⟨⟨g0, g1, g2, g3⟩, h16, hp9, hk9, hd9, hc9⟩ := id hL
  have mg36_1 : ∀ (a : Nat) (ls : Array Slot), a < 16 → lv_has ls 14 [(1, .int (nI (act))), (2, .int (y)), (3, .int (z)), (0, .ref (q 0)), (4, .ref (q 1)), (5, .ref (q 2)), (6, .ref (q 9))] → W p l e (mi_rq 10 12 2100) s m ([.ref (q 0), .int (nI (act)), .int (y), .int (z), .ref (q 1), .ref (q 2), .ref (q 9)] : List Value).toArray below meth c s.heap [] 0 0 (MQ below (mi_Qi A (fun r H => r = nI 1 ∧ mj_I D A q H)) ([.ref (q 0), .int (nI (act)), .int (y), .int (z), .ref (q 1), .ref (q 2), .ref (q 9)] : List Value).toArray s 12 2100 A) (F0 m 36 ls [.int (nI (a))]) := by
    intro a ls ha  hl
    refine lv_istore (lv' := [(7, .int (nI (a))), (1, .int (nI (act))), (2, .int (y)), (3, .int (z)), (0, .ref (q 0)), (4, .ref (q 1)), (5, .ref (q 2)), (6, .ref (q 9))]) S.1 S.2.1 dL_changes_36 hl (by decide) rfl (fun ls hl => ?_)
    have mg52_2 : ∀ (n8 : Nat) (ls : Array Slot), (n8 = 3 ∨ n8 = 8) → lv_has ls 14 [(7, .int (nI (a))), (1, .int (nI (act))), (2, .int (y)), (3, .int (z)), (0, .ref (q 0)), (4, .ref (q 1)), (5, .ref (q 2)), (6, .ref (q 9))] → W p l e (mi_rq 10 12 2100) s m ([.ref (q 0), .int (nI (act)), .int (y), .int (z), .ref (q 1), .ref (q 2), .ref (q 9)] : List Value).toArray below meth c s.heap [] 0 0 (MQ below (mi_Qi A (fun r H => r = nI 1 ∧ mj_I D A q H)) ([.ref (q 0), .int (nI (act)), .int (y), .int (z), .ref (q 1), .ref (q 2), .ref (q 9)] : List Value).toArray s 12 2100 A) (F0 m 52 ls [.int (nI (n8)), .int (z)]) := by
      intro n8 ls hn8  hl
      refine mi_cR (mi_runS (P := mj_W D A q T gl gi) (As := [.int (z), .int (nI (n8))]) (rest := []) S E hS hM (c_Llow l D A (mj_W D A q T gl gi) (by omega) (by omega)) mw_186 mw_184 mw_185 mw_17 ⟨by decide, by decide, by decide +kernel⟩ ⟨rfl, rfl, Nat.le_of_ble_eq_true rfl, Nat.le_of_ble_eq_true rfl⟩ (n := 2) rfl hl.1 rfl (Nat.le_of_ble_eq_true rfl) dL_changes_52 ⟨Nat.le_of_ble_eq_true rfl, Nat.le_of_ble_eq_true rfl⟩) (fun r9 e9 => ?_)
      obtain ⟨b, hb, rfl⟩ := e9
      refine lv_istore (lv' := [(8, .int (nI (b))), (7, .int (nI (a))), (1, .int (nI (act))), (2, .int (y)), (3, .int (z)), (0, .ref (q 0)), (4, .ref (q 1)), (5, .ref (q 2)), (6, .ref (q 9))]) S.1 S.2.1 dL_changes_55 hl (by decide) rfl (fun ls hl => ?_)
      have hb8 : b < 8 := by omega
      refine lv_iload_n S.1 S.2.1 dL_changes_57 rfl (lv_at hl 4 rfl) ?_
      refine lv_bipush (v := nI 7) S.1 S.2.1 dL_changes_58 (by decide) ?_
      refine lv_ishr S.1 S.2.1 dL_changes_60 ?_
      refine lv_iconst (v := nI 4) S.1 S.2.1 dL_changes_61 (by decide) ?_
      refine mi_cR (mi_runS (P := mj_W D A q T gl gi) (As := [.int (z >>> ((nI (7)) &&& 31)), .int (nI (4))]) (rest := []) S E hS hM (c_Llow l D A (mj_W D A q T gl gi) (by omega) (by omega)) mw_186 mw_184 mw_185 mw_17 ⟨by decide, by decide, by decide +kernel⟩ ⟨rfl, rfl, Nat.le_of_ble_eq_true rfl, Nat.le_of_ble_eq_true rfl⟩ (n := 2) rfl hl.1 rfl (Nat.le_of_ble_eq_true rfl) dL_changes_62 ⟨Nat.le_of_ble_eq_true rfl, Nat.le_of_ble_eq_true rfl⟩) (fun r9 e9 => ?_)
      obtain ⟨kq, hkq, rfl⟩ := e9
      refine lv_istore (lv' := [(9, .int (nI (kq))), (8, .int (nI (b))), (7, .int (nI (a))), (1, .int (nI (act))), (2, .int (y)), (3, .int (z)), (0, .ref (q 0)), (4, .ref (q 1)), (5, .ref (q 2)), (6, .ref (q 9))]) S.1 S.2.1 dL_changes_65 hl (by decide) rfl (fun ls hl => ?_)
      refine lv_iload_n S.1 S.2.1 dL_changes_67 rfl (lv_at hl 3 rfl) ?_
      refine lv_bipush (v := nI 6) S.1 S.2.1 dL_changes_68 (by decide) ?_
      refine mi_icmp_ge (tgt := 242) S (by omega) (by omega) dL_changes_70 (by decide) (fun c70_2 => ?_) (fun c70_2 => by exfalso; omega)
      refine lv_iload_n S.1 S.2.1 dL_changes_242 rfl (lv_at hl 3 rfl) ?_
      refine lv_bipush (v := nI 9) S.1 S.2.1 dL_changes_243 (by decide) ?_
      refine mi_icmp_ge (tgt := 426) S (by omega) (by omega) dL_changes_245 (by decide) (fun c245_3 => ?_) (fun c245_3 => by exfalso; omega)
      refine lv_iload_n S.1 S.2.1 dL_changes_426 rfl (lv_at hl 3 rfl) ?_
      refine lv_bipush (v := nI 9) S.1 S.2.1 dL_changes_427 (by decide) ?_
      refine mi_icmp_ne (tgt := 578) S (by omega) (by omega) dL_changes_429 (by decide) (fun c429_4 => ?_) (fun c429_4 => by exfalso; omega)
      refine lv_aload S.1 S.2.1 dL_changes_578 (lv_at hl 9 rfl) ?_
      refine lv_iconst (v := nI 0) S.1 S.2.1 dL_changes_580 (by decide) ?_
      refine mj_ild S E hM 9 (by omega) (by show _ < 4; omega) dL_changes_581 ?_
      refine mi_top (v' := .int (nI (sW T))) (congrArg Value.int g0) ?_
      refine lv_istore (lv' := [(10, .int (nI (sW T))), (9, .int (nI (kq))), (8, .int (nI (b))), (7, .int (nI (a))), (1, .int (nI (act))), (2, .int (y)), (3, .int (z)), (0, .ref (q 0)), (4, .ref (q 1)), (5, .ref (q 2)), (6, .ref (q 9))]) S.1 S.2.1 dL_changes_582 hl (by decide) rfl (fun ls hl => ?_)
      refine lv_iload_n S.1 S.2.1 dL_changes_584 rfl (lv_at hl 4 rfl) ?_
      refine lv_bipush (v := nI 10) S.1 S.2.1 dL_changes_585 (by decide) ?_
      refine mi_icmp_ne (tgt := 661) S (by omega) (by omega) dL_changes_587 (by decide) (fun c587_5 => ?_) (fun c587_5 => by exfalso; omega)
      refine lv_iload_n S.1 S.2.1 dL_changes_661 rfl (lv_at hl 4 rfl) ?_
      refine lv_bipush (v := nI 11) S.1 S.2.1 dL_changes_662 (by decide) ?_
      refine mi_icmp_ne (tgt := 714) S (by omega) (by omega) dL_changes_664 (by decide) (fun c664_6 => ?_) (fun c664_6 => by exfalso; omega)
      refine lv_iload_n S.1 S.2.1 dL_changes_714 rfl (lv_at hl 5 rfl) ?_
      refine lv_iconst (v := nI 3) S.1 S.2.1 dL_changes_715 (by decide) ?_
      refine mi_cR (mi_runS (P := mj_W D A q T gl gi) (As := [.int (y), .int (nI (3))]) (rest := []) S E hS hM (c_Llow l D A (mj_W D A q T gl gi) (by omega) (by omega)) mw_186 mw_184 mw_185 mw_17 ⟨by decide, by decide, by decide +kernel⟩ ⟨rfl, rfl, Nat.le_of_ble_eq_true rfl, Nat.le_of_ble_eq_true rfl⟩ (n := 2) rfl hl.1 rfl (Nat.le_of_ble_eq_true rfl) dL_changes_716 ⟨Nat.le_of_ble_eq_true rfl, Nat.le_of_ble_eq_true rfl⟩) (fun r9 e9 => ?_)
      obtain ⟨bq, hbq, rfl⟩ := e9
      refine lv_istore (lv' := [(11, .int (nI (bq))), (10, .int (nI (sW T))), (9, .int (nI (kq))), (8, .int (nI (b))), (7, .int (nI (a))), (1, .int (nI (act))), (2, .int (y)), (3, .int (z)), (0, .ref (q 0)), (4, .ref (q 1)), (5, .ref (q 2)), (6, .ref (q 9))]) S.1 S.2.1 dL_changes_719 hl (by decide) rfl (fun ls hl => ?_)
      refine lv_iconst (v := nI 0) S.1 S.2.1 dL_changes_721 (by decide) ?_
      refine lv_istore (lv' := [(12, .int (nI (0))), (11, .int (nI (bq))), (10, .int (nI (sW T))), (9, .int (nI (kq))), (8, .int (nI (b))), (7, .int (nI (a))), (1, .int (nI (act))), (2, .int (y)), (3, .int (z)), (0, .ref (q 0)), (4, .ref (q 1)), (5, .ref (q 2)), (6, .ref (q 9))]) S.1 S.2.1 dL_changes_722 hl (by decide) rfl (fun ls hl => ?_)
      refine lv_iconst (v := nI 1) S.1 S.2.1 dL_changes_724 (by decide) ?_
      refine lv_istore (lv' := [(13, .int (nI (1))), (12, .int (nI (0))), (11, .int (nI (bq))), (10, .int (nI (sW T))), (9, .int (nI (kq))), (8, .int (nI (b))), (7, .int (nI (a))), (1, .int (nI (act))), (2, .int (y)), (3, .int (z)), (0, .ref (q 0)), (4, .ref (q 1)), (5, .ref (q 2)), (6, .ref (q 9))]) S.1 S.2.1 dL_changes_725 hl (by decide) rfl (fun ls hl => ?_)
      have lp727 : ∀ (n727 : Nat) (n : Nat) (j : Nat) (H : Heap) (locs : List Loc) (ls : Array Slot), sN T - j < n727 → 1 ≤ j ∧ j ≤ sN T → n = sp_br T (sW T) j → n ≤ j → mj_W D A q T gl (va_up gi 9 (upd (gi 9) 0 (nI (sp_fd T (sW T) bq j)))) H → va_S A s.heap H locs → lv_has ls 14 [(12, .int (nI (n))), (13, .int (nI (j))), (11, .int (nI (bq))), (10, .int (nI (sW T))), (0, .ref (q 0)), (5, .ref (q 2)), (6, .ref (q 9))] → W p l e (mi_rq 10 12 2100) s m ([.ref (q 0), .int (nI (act)), .int (y), .int (z), .ref (q 1), .ref (q 2), .ref (q 9)] : List Value).toArray below meth c H locs 0 0 (MQ below (mi_Qi A (fun r H => r = nI 1 ∧ mj_I D A q H)) ([.ref (q 0), .int (nI (act)), .int (y), .int (z), .ref (q 1), .ref (q 2), .ref (q 9)] : List Value).toArray s 12 2100 A) (F0 m 727 ls []) := by
        intro n727
        induction n727 with
        | zero => intro n j H locs ls hm hj hn hnb hM hS hl; exact absurd hm (Nat.not_lt_zero _)
        | succ n727 ih727 =>
          intro n j H locs ls hm hj hn hnb hM hS hl
          refine lv_iload S.1 S.2.1 dL_changes_727 (lv_at hl 1 rfl) ?_
          refine lv_aload S.1 S.2.1 dL_changes_729 (lv_at hl 6 rfl) ?_
          refine lv_iconst (v := nI 1) S.1 S.2.1 dL_changes_731 (by decide) ?_
          refine mj_ild S E hM 9 (by omega) (by show _ < 4; omega) dL_changes_732 ?_
          refine mi_top (v' := .int (nI (sN T))) (congrArg Value.int g1) ?_
          refine mi_icmp_ge (tgt := 771) S (by omega) (by omega) dL_changes_733 (by decide) (fun c733_7 => ?_) (fun c733_7 => ?_)
          · have hj2 : j = sN T := by omega
            have hn2 : n = sp_br T (sW T) (sN T) := by rw [hn, hj2]
            have hfd : sp_fd T (sW T) bq j = sp_fd T (sW T) bq (sN T) := by rw [hj2]
            have hbl := sp_br_le T (sW T) (sN T)
            have hfl := sp_fd_lt (S := T) (b := bq) o3 (sN T) (Nat.le_refl _)
            refine lv_aload_n S.1 S.2.1 dL_changes_771 rfl (lv_at hl 4 rfl) ?_
            refine mi_cR (mi_runV (P := mj_W D A q T gl ((va_up gi 9 (upd (gi 9) 0 (nI (sp_fd T (sW T) bq j)))))) (As := []) (rest := []) S E hS hM (q 0) (j_branches l D A hst q hO) (hM.recv E) mw_414 mw_411 mw_412 mw_413 mw_18 ⟨by decide, by decide, by decide +kernel⟩ ⟨rfl, rfl, Nat.le_of_ble_eq_true rfl, Nat.le_of_ble_eq_true rfl⟩ (n := 0) rfl hl.1 rfl (Nat.le_of_ble_eq_true rfl) dL_changes_772 ⟨by show _ ≤ (12 : Nat); omega, by show _ ≤ (2100 : Nat); omega⟩) (fun r9 e9 => ?_)
            subst e9
            refine lv_iload S.1 S.2.1 dL_changes_775 (lv_at hl 0 rfl) ?_
            refine mi_icmp_eq (tgt := 782) S (by omega) (by omega) dL_changes_777 (by decide) (fun c777_8 => ?_) (fun c777_8 => by exfalso; omega)
            refine lv_iload S.1 S.2.1 dL_changes_782 (lv_at hl 0 rfl) ?_
            refine lv_iload S.1 S.2.1 dL_changes_784 (lv_at hl 2 rfl) ?_
            refine mi_icmp_gt (tgt := 818) S (by omega) (by omega) dL_changes_786 (by decide) (fun c786_9 => ?_) (fun c786_9 => ?_)
            · refine lv_aload_n S.1 S.2.1 dL_changes_818 rfl (lv_at hl 4 rfl) ?_
              refine lv_iload S.1 S.2.1 dL_changes_819 (lv_at hl 2 rfl) ?_
              refine mi_cMi (mi_runSH (P := mj_W D A q T gl ((va_up gi 9 (upd (gi 9) 0 (nI (sp_fd T (sW T) bq j)))))) (As := [.ref (q 0), .int (nI (bq))]) (rest := []) S E hS hM (j_redo l D A hst q hO (show bq < sp_br T (sW T) (sN T) by omega)) mw_417 mw_415 mw_416 mw_17 ⟨by decide, by decide, by decide +kernel⟩ ⟨rfl, rfl, Nat.le_of_ble_eq_true rfl, Nat.le_of_ble_eq_true rfl⟩ (n := 2) rfl hl.1 rfl (Nat.le_of_ble_eq_true rfl) dL_changes_821 ⟨(by show _ ≤ (12 : Nat); omega), (by show _ ≤ (2100 : Nat); omega)⟩) hS (fun r9 H locs hp9 hS hz9 => ?_)
              obtain ⟨e9, hM⟩ := hp9
              refine mi_top (v' := .int (nI (sp_fd T (sW T) bq (sN T)))) (by rw [e9]) ?_
              refine lv_aload S.1 S.2.1 dL_changes_824 (lv_at hl 6 rfl) ?_
              refine lv_iconst (v := nI 0) S.1 S.2.1 dL_changes_826 (by decide) ?_
              refine mj_ild S E hM 9 (by omega) (by show _ < 4; omega) dL_changes_827 ?_
              refine mi_top (v' := .int (nI (sp_fd T (sW T) bq j))) (rfl) ?_
              refine mi_icmp_ne (tgt := 835) S (by omega) (by omega) dL_changes_828 (by decide) (fun c828_10 => by exfalso; omega) (fun c828_10 => ?_)
              refine lv_iconst (v := nI 1) S.1 S.2.1 dL_changes_831 (by decide) ?_
              refine lv_goto (tgt := 836) S.1 S.2.1 dL_changes_832 (by decide) ?_
              exact mi_retMz S hr hk hS dL_changes_836 rfl (by show _ ≤ (12 : Nat); omega) (by show _ ≤ (2100 : Nat); omega) (⟨rfl, _, _, _, lr_now hL (sp_fd T (sW T) bq (sN T)), (by rw [hfd] at hM; exact hM)⟩)
            · refine lv_aload_n S.1 S.2.1 dL_changes_789 rfl (lv_at hl 4 rfl) ?_
              refine lv_iload S.1 S.2.1 dL_changes_790 (lv_at hl 2 rfl) ?_
              refine mi_cMi (mi_runSH (P := mj_W D A q T gl ((va_up gi 9 (upd (gi 9) 0 (nI (sp_fd T (sW T) bq j)))))) (As := [.ref (q 0), .int (nI (bq))]) (rest := []) S E hS hM (j_redo_x1 l D A hst q hO (lj_tn (by omega) (by omega))) mw_417 mw_415 mw_416 mw_17 ⟨by decide, by decide, by decide +kernel⟩ ⟨rfl, rfl, Nat.le_of_ble_eq_true rfl, Nat.le_of_ble_eq_true rfl⟩ (n := 2) rfl hl.1 rfl (Nat.le_of_ble_eq_true rfl) dL_changes_792 ⟨(by show _ ≤ (12 : Nat); omega), (by show _ ≤ (2100 : Nat); omega)⟩) hS (fun r9 H locs hp9 hS hz9 => ?_)
              obtain ⟨e9, hM⟩ := hp9
              refine mi_top (v' := .int (-71)) (by rw [e9]) ?_
              refine lv_bipush (v := (-71)) S.1 S.2.1 dL_changes_795 (by decide) ?_
              refine lv_icmp_ne (tgt := 814) S.1 S.2.1 dL_changes_797 (by decide) (fun c797_11 => absurd rfl c797_11) (fun _ => ?_)
              refine lv_aload_n S.1 S.2.1 dL_changes_800 rfl (lv_at hl 4 rfl) ?_
              refine lv_iconst (v := (-1)) S.1 S.2.1 dL_changes_801 (by decide) ?_
              refine mi_cMi (mi_runSH (P := mj_W D A q T gl ((va_up gi 9 (upd (gi 9) 0 (nI (sp_fd T (sW T) bq j)))))) (As := [.ref (q 0), .int (-1)]) (rest := []) S E hS hM (j_redo_x1 l D A hst q hO lj_m1) mw_417 mw_415 mw_416 mw_17 ⟨by decide, by decide, by decide +kernel⟩ ⟨rfl, rfl, Nat.le_of_ble_eq_true rfl, Nat.le_of_ble_eq_true rfl⟩ (n := 2) rfl hl.1 rfl (Nat.le_of_ble_eq_true rfl) dL_changes_802 ⟨(by show _ ≤ (12 : Nat); omega), (by show _ ≤ (2100 : Nat); omega)⟩) hS (fun r9 H locs hp9 hS hz9 => ?_)
              obtain ⟨e9, hM⟩ := hp9
              refine mi_top (v' := .int (-71)) (by rw [e9]) ?_
              refine lv_bipush (v := (-71)) S.1 S.2.1 dL_changes_805 (by decide) ?_
              refine lv_icmp_ne (tgt := 814) S.1 S.2.1 dL_changes_807 (by decide) (fun c807_12 => absurd rfl c807_12) (fun _ => ?_)
              refine lv_iconst (v := nI 1) S.1 S.2.1 dL_changes_810 (by decide) ?_
              refine lv_goto (tgt := 836) S.1 S.2.1 dL_changes_811 (by decide) ?_
              exact mi_retMz S hr hk hS dL_changes_836 rfl (by show _ ≤ (12 : Nat); omega) (by show _ ≤ (2100 : Nat); omega) (⟨rfl, _, _, _, lr_same hL, (by rw [hfd, sp_fd_none (by omega)] at hM; exact hM)⟩)
          · have hpn : sp_pn T j = sP T j + 1 := sp_pn_n (by omega)
            have hpj := oP j (by omega) (by omega)
            refine lv_aload S.1 S.2.1 dL_changes_736 (lv_at hl 5 rfl) ?_
            refine lv_iload S.1 S.2.1 dL_changes_738 (lv_at hl 1 rfl) ?_
            refine mj_ild S E hM 2 (by omega) (by show _ < 16; omega) dL_changes_740 ?_
            refine mi_top (v' := .int (nI (sP T j))) (congrArg Value.int (hp9 j (by omega) (by omega))) ?_
            refine lv_iload S.1 S.2.1 dL_changes_741 (lv_at hl 3 rfl) ?_
            refine mi_icmp_eq (tgt := 749) S (by omega) (by omega) dL_changes_743 (by decide) (fun c743_13 => ?_) (fun c743_13 => ?_)
            · refine lv_iload S.1 S.2.1 dL_changes_749 (lv_at hl 0 rfl) ?_
              refine lv_iload S.1 S.2.1 dL_changes_751 (lv_at hl 2 rfl) ?_
              refine mi_icmp_ne (tgt := 762) S (by omega) (by omega) dL_changes_753 (by decide) (fun c753_14 => ?_) (fun c753_14 => ?_)
              · refine lv_iinc (v := nI (n + 1)) (lv' := [(12, .int (nI (n + 1))), (13, .int (nI (j))), (11, .int (nI (bq))), (10, .int (nI (sW T))), (0, .ref (q 0)), (5, .ref (q 2)), (6, .ref (q 9))]) S.1 S.2.1 dL_changes_762 hl (k := 0) rfl (mi_inc _) (by decide) rfl (fun ls hl => ?_)
                refine lv_iinc (v := nI (j + 1)) (lv' := [(13, .int (nI (j + 1))), (12, .int (nI (n + 1))), (11, .int (nI (bq))), (10, .int (nI (sW T))), (0, .ref (q 0)), (5, .ref (q 2)), (6, .ref (q 9))]) S.1 S.2.1 dL_changes_765 hl (k := 1) rfl (mi_inc _) (by decide) rfl (fun ls hl => ?_)
                refine lv_goto (tgt := 727) S.1 S.2.1 dL_changes_768 (by decide) ?_
                exact ih727 (n + 1) (j + 1) _ _ _ (by omega) (by omega) (by rw [sp_br_1 (by omega), hn]) (by omega) (by rw [sp_fd_0 (by omega)]; exact hM) hS (lv_sub hl [1, 0, 2, 3, 4, 5, 6] rfl)
              · refine lv_aload S.1 S.2.1 dL_changes_756 (lv_at hl 6 rfl) ?_
                refine lv_iconst (v := nI 0) S.1 S.2.1 dL_changes_758 (by decide) ?_
                refine lv_iload S.1 S.2.1 dL_changes_759 (lv_at hl 1 rfl) ?_
                refine mj_ist S E hS hM 9 (by omega) (by show _ < 4; omega) dL_changes_761 (fun H locs hM hS => ?_)
                refine lv_iinc (v := nI (n + 1)) (lv' := [(12, .int (nI (n + 1))), (13, .int (nI (j))), (11, .int (nI (bq))), (10, .int (nI (sW T))), (0, .ref (q 0)), (5, .ref (q 2)), (6, .ref (q 9))]) S.1 S.2.1 dL_changes_762 hl (k := 0) rfl (mi_inc _) (by decide) rfl (fun ls hl => ?_)
                refine lv_iinc (v := nI (j + 1)) (lv' := [(13, .int (nI (j + 1))), (12, .int (nI (n + 1))), (11, .int (nI (bq))), (10, .int (nI (sW T))), (0, .ref (q 0)), (5, .ref (q 2)), (6, .ref (q 9))]) S.1 S.2.1 dL_changes_765 hl (k := 1) rfl (mi_inc _) (by decide) rfl (fun ls hl => ?_)
                refine lv_goto (tgt := 727) S.1 S.2.1 dL_changes_768 (by decide) ?_
                exact ih727 (n + 1) (j + 1) _ _ _ (by omega) (by omega) (by rw [sp_br_1 (by omega), hn]) (by omega) (by rw [mi_up_up, mi_up_s, upd_upd] at hM; rw [sp_fd_1 (by omega) (by omega)]; exact hM) hS (lv_sub hl [1, 0, 2, 3, 4, 5, 6] rfl)
            · refine lv_goto (tgt := 765) S.1 S.2.1 dL_changes_746 (by decide) ?_
              refine lv_iinc (v := nI (j + 1)) (lv' := [(13, .int (nI (j + 1))), (12, .int (nI (n))), (11, .int (nI (bq))), (10, .int (nI (sW T))), (0, .ref (q 0)), (5, .ref (q 2)), (6, .ref (q 9))]) S.1 S.2.1 dL_changes_765 hl (k := 1) rfl (mi_inc _) (by decide) rfl (fun ls hl => ?_)
              refine lv_goto (tgt := 727) S.1 S.2.1 dL_changes_768 (by decide) ?_
              exact ih727 n (j + 1) _ _ _ (by omega) (by omega) (by rw [sp_br_0 (by omega), hn]) (by omega) (by rw [sp_fd_0 (by omega)]; exact hM) hS (lv_sub hl [1, 0, 2, 3, 4, 5, 6] rfl)
      exact lp727 _ 0 1 _ _ _ (Nat.lt_succ_self _) (by omega) ((sp_br_0 (show sp_pn T 0 ≠ sW T + 1 by rw [sp_pn_0]; omega)).symm) (by omega) (by rw [sp_fd_0 (show ¬ (sp_pn T 0 = sW T + 1 ∧ sp_br T (sW T) 0 = bq) by rw [sp_pn_0]; omega), show sp_fd T (sW T) bq 0 = sW T from rfl, ← g0, upd_id, mj_up_id]; exact hM) hS (lv_sub hl [1, 0, 2, 3, 10, 12, 13] rfl)
    refine lv_iload_n S.1 S.2.1 dL_changes_38 rfl (lv_at hl 3 rfl) ?_
    refine lv_iload_n S.1 S.2.1 dL_changes_39 rfl (lv_at hl 3 rfl) ?_
    refine lv_bipush (v := nI 96) S.1 S.2.1 dL_changes_40 (by decide) ?_
    refine lv_iand S.1 S.2.1 dL_changes_42 ?_
    refine mi_xif_ne (tgt := 51) S (rfl : (z &&& (nI (96))).toInt = _) dL_changes_43 (by decide) (fun c43_15 => ?_) (fun c43_15 => ?_)
    · refine lv_iconst (v := nI 3) S.1 S.2.1 dL_changes_51 (by decide) ?_
      exact mg52_2 3  _ (by omega)  (lv_sub hl [0, 1, 2, 3, 4, 5, 6, 7] rfl)
    · refine lv_bipush (v := nI 8) S.1 S.2.1 dL_changes_46 (by decide) ?_
      refine lv_goto (tgt := 52) S.1 S.2.1 dL_changes_48 (by decide) ?_
      exact mg52_2 8  _ (by omega)  (lv_sub hl [0, 1, 2, 3, 4, 5, 6, 7] rfl)
  refine lv_iload_n S.1 S.2.1 dL_changes_0 rfl (lv_at hl 2 rfl) ?_
  refine lv_bipush (v := nI 6) S.1 S.2.1 dL_changes_1 (by decide) ?_
  refine lv_iand S.1 S.2.1 dL_changes_3 ?_
  refine mi_xif_ne (tgt := 18) S (rfl : (y &&& (nI (6))).toInt = _) dL_changes_4 (by decide) (fun c4_16 => ?_) (fun c4_16 => ?_)
  · refine lv_iload_n S.1 S.2.1 dL_changes_18 rfl (lv_at hl 2 rfl) ?_
    refine lv_iconst (v := nI 3) S.1 S.2.1 dL_changes_19 (by decide) ?_
    refine lv_ishr S.1 S.2.1 dL_changes_20 ?_
    refine lv_iconst (v := nI 3) S.1 S.2.1 dL_changes_21 (by decide) ?_
    refine mi_cR (mi_runS (P := mj_W D A q T gl gi) (As := [.int (y >>> ((nI (3)) &&& 31)), .int (nI (3))]) (rest := []) S E hS hM (c_Llow l D A (mj_W D A q T gl gi) (by omega) (by omega)) mw_186 mw_184 mw_185 mw_17 ⟨by decide, by decide, by decide +kernel⟩ ⟨rfl, rfl, Nat.le_of_ble_eq_true rfl, Nat.le_of_ble_eq_true rfl⟩ (n := 2) rfl hl.1 rfl (Nat.le_of_ble_eq_true rfl) dL_changes_22 ⟨Nat.le_of_ble_eq_true rfl, Nat.le_of_ble_eq_true rfl⟩) (fun r9 e9 => ?_)
    obtain ⟨t1, ht1, rfl⟩ := e9
    refine lv_iconst (v := nI 4) S.1 S.2.1 dL_changes_25 (by decide) ?_
    refine mi_imul S dL_changes_26 ?_
    refine lv_iload_n S.1 S.2.1 dL_changes_27 rfl (lv_at hl 2 rfl) ?_
    refine lv_bipush (v := nI 6) S.1 S.2.1 dL_changes_28 (by decide) ?_
    refine lv_ishr S.1 S.2.1 dL_changes_30 ?_
    refine lv_iconst (v := nI 2) S.1 S.2.1 dL_changes_31 (by decide) ?_
    refine mi_cR (mi_runS (P := mj_W D A q T gl gi) (As := [.int (y >>> ((nI (6)) &&& 31)), .int (nI (2))]) (rest := [.int (nI (t1 * 4))]) S E hS hM (c_Llow l D A (mj_W D A q T gl gi) (by omega) (by omega)) mw_186 mw_184 mw_185 mw_17 ⟨by decide, by decide, by decide +kernel⟩ ⟨rfl, rfl, Nat.le_of_ble_eq_true rfl, Nat.le_of_ble_eq_true rfl⟩ (n := 2) rfl hl.1 rfl (Nat.le_of_ble_eq_true rfl) dL_changes_32 ⟨Nat.le_of_ble_eq_true rfl, Nat.le_of_ble_eq_true rfl⟩) (fun r9 e9 => ?_)
    obtain ⟨t2, ht2, rfl⟩ := e9
    refine mi_iadd S dL_changes_35 ?_
    exact mg36_1 ((t1 * 4) + t2)  _ (by omega)  (lv_sub hl [1, 2, 3, 0, 4, 5, 6] rfl)
  · refine lv_iload_n S.1 S.2.1 dL_changes_7 rfl (lv_at hl 2 rfl) ?_
    refine lv_iconst (v := nI 3) S.1 S.2.1 dL_changes_8 (by decide) ?_
    refine lv_ishr S.1 S.2.1 dL_changes_9 ?_
    refine lv_bipush (v := nI 16) S.1 S.2.1 dL_changes_10 (by decide) ?_
    refine mi_cR (mi_runS (P := mj_W D A q T gl gi) (As := [.int (y >>> ((nI (3)) &&& 31)), .int (nI (16))]) (rest := []) S E hS hM (c_Llow l D A (mj_W D A q T gl gi) (by omega) (by omega)) mw_186 mw_184 mw_185 mw_17 ⟨by decide, by decide, by decide +kernel⟩ ⟨rfl, rfl, Nat.le_of_ble_eq_true rfl, Nat.le_of_ble_eq_true rfl⟩ (n := 2) rfl hl.1 rfl (Nat.le_of_ble_eq_true rfl) dL_changes_12 ⟨Nat.le_of_ble_eq_true rfl, Nat.le_of_ble_eq_true rfl⟩) (fun r9 e9 => ?_)
    obtain ⟨t16, ht16, rfl⟩ := e9
    refine lv_goto (tgt := 36) S.1 S.2.1 dL_changes_15 (by decide) ?_
    exact mg36_1 t16  _ (by omega)  (lv_sub hl [1, 2, 3, 0, 4, 5, 6] rfl)
