/-! what is told -/
theorem sp_ri_mono {K : Nat → Nat} {c m n : Nat} (h : m ≤ n) : sp_ri K c m ≤ sp_ri K c n := by
  have := fb_sm_mono (fun j => sp_ne K (8 * c + j)) m (n - m)
  rw [Nat.add_sub_cancel' h] at this
  exact this
theorem sq_same {K : Nat → Nat} {c l : Nat} (h : sp_ri K c (l + 1) = sp_ri K c l) : fb_sm (fun j => if sp_ri K c j = sp_ri K c (l + 1) then 1 else 0) (l + 1) = fb_sm (fun j => if sp_ri K c j = sp_ri K c l then 1 else 0) l + 1 := by
  rw [h, fb_sm_succ, if_pos rfl]
theorem sq_new {K : Nat → Nat} {c l : Nat} (h : sp_ri K c (l + 1) = sp_ri K c l + 1) : fb_sm (fun j => if sp_ri K c j = sp_ri K c (l + 1) then 1 else 0) (l + 1) = 0 :=
  fb_sm_0 (fun k hk => if_neg (by have := sp_ri_mono (K := K) (c := c) (show k ≤ l by omega); omega))
theorem sq_len {K : Nat → Nat} {c l : Nat} (hl : l ≤ 7) (h : l = 7 ∨ sp_ri K c (l + 1) = sp_ri K c l + 1) : sp_rl K c (sp_ri K c l) = fb_sm (fun j => if sp_ri K c j = sp_ri K c l then 1 else 0) l + 1 := by
  have h1 := fb_sm_split (fun j => if sp_ri K c j = sp_ri K c l then 1 else 0) (l + 1) (7 - l)
  rw [show l + 1 + (7 - l) = 8 by omega] at h1
  unfold sp_rl
  rw [h1, fb_sm_succ, if_pos rfl, fb_sm_0 (n := 7 - l) (fun k hk => if_neg (by have := sp_ri_mono (K := K) (c := c) (show l + 1 ≤ l + 1 + k by omega); omega))]
/-- two columns are alike -/
theorem lj_alike {T : sT} {gl : Nat → Nat → Int64} {gi : Nat → Nat → Int32} (hL : lr T gl gi) (hO : st_ok T) {i j c : Nat} (hi : i < sN T) (hj : j < sN T) (hc : c < 16) : (lj_col (gl 1) i c).toInt = (lj_col (gl 1) j c).toInt ↔ ∀ l, l < 8 → sK T i (8 * c + l) = sK T j (8 * c + l) := by
  rw [← mo_pk_eq (hL.2.2.2.1 i c hi hc) (hL.2.2.2.1 j c hj hc) (fun l hl => hO.2.2.1 i _ hi (by omega)) (fun l hl => hO.2.2.1 j _ hj (by omega))]
  exact Int32.toInt_inj
theorem sp_fg_01 {h h' : Nat → Nat} {n : Nat} : (sp_fg h h' n = 0 ↔ ∀ c, c < n → h c = h' c) ∧ sp_fg h h' n ≤ 1 := by
  unfold sp_fg
  by_cases z : sp_ds h h' n = 0
  · rw [if_pos z]
    exact ⟨⟨fun _ => sp_ds_0.mp z, fun _ => rfl⟩, Nat.zero_le _⟩
  · rw [if_neg z]
    exact ⟨⟨fun y => absurd y (by omega), fun y => absurd (sp_ds_0.mpr y) z⟩, Nat.le_refl _⟩
theorem j_distance_0 (l : Launch) (D : va_G) (A : Nat → Prop) (hst : l.stackTraces = false) (q : Nat → Nat) {T : sT} {gl : Nat → Nat → Int64} {gi : Nat → Nat → Int32} (hO : st_ok T) {z : Int32} (hz : z = nI (sC T)) : mi_Mi l yL_distance (Cond.codeWith yL_distance cL_distance 5 (some Jvm.ClassFile.FieldType.int) [(0, 7, 10, 14)]) (mi_rq 9 1 6) D A (mj_W D A q T gl gi) [.ref (q 0), .int (nI 0), .int z] 1 6 (fun r H => r = -71 ∧ mj_W D A q T gl gi H) := by
  have := hO.1.2.2.2
  by_cases e : sC T = 0
  · exact j_distance_x1 l D A hst q hO (lj_tn (by omega) (by omega))
  · exact j_distance_x2 l D A hst q hO (by omega) (by rw [hz]; exact lj_tn (Nat.le_refl _) (by omega))
set_option maxHeartbeats 4000000 in
set_option maxRecDepth 100000 in
theorem c_LisTold (l : Launch) (D : va_G) (A : Nat → Prop) {q : Nat → Nat} {T : sT} {gl : Nat → Nat → Int64} {gi : Nat → Nat → Int32} (hst : l.stackTraces = false) (hL : lr T gl gi) {y : Int32} : mi_Mi l yL_isTold (Cond.code yL_isTold cL_isTold 21 (some Jvm.ClassFile.FieldType.boolean)) (mi_rq 10 60 360) D A (mj_W D A q T gl gi) [.ref (q 0), .int (y), .ref (q 1), .ref (q 2), .ref (q 3), .ref (q 4), .ref (q 5), .ref (q 6), .ref (q 7), .ref (q 8), .ref (q 9)] 60 360 (fun r H => r = nI 1 ∧ mj_I D A q H) := by
  refine mi_start (cc := cL_isTold) (nL := 21) (ret := (some Jvm.ClassFile.FieldType.boolean)) rfl (by decide) (Nat.le_of_ble_eq_true rfl) ?_
  intro p e s m below meth c ls S E hM hS hr hk hn hl
  have S : CallFix p m c cL_isTold 21 s _ ((Cond.code yL_isTold cL_isTold 21 (some Jvm.ClassFile.FieldType.boolean)) :: mi_G) RL := S
  have hl : lv_has ls 21 [(0, .ref (q 0)), (1, .int (y)), (2, .ref (q 1)), (3, .ref (q 2)), (4, .ref (q 3)), (5, .ref (q 4)), (6, .ref (q 5)), (7, .ref (q 6)), (8, .ref (q 7)), (9, .ref (q 8)), (10, .ref (q 9))] := hl
  have hO := hM.ok
  obtain ⟨⟨o1, o2, o3, o4, o5⟩, oP, oK, oD, oX, oC, oI⟩ := id hO
  obtain ⟨⟨g0, g1, g2, g3⟩, h16, hp9, hk9, hd9, hc9⟩ := id hL
  have hKb : ∀ j, j < 128 → sK T (sW T) j < 4 := fun j hj => oK (sW T) j o3 hj
  obtain ⟨kp, hct⟩ := pc_ct_ex (pc_lst (sK T (sW T))) 128
  have hkpb := pc_ct_le hct
  refine lv_iconst (v := nI 0) S.1 S.2.1 dL_isTold_0 (by decide) ?_
  refine lv_istore (lv' := [(11, .int (nI (0))), (0, .ref (q 0)), (1, .int (y)), (2, .ref (q 1)), (3, .ref (q 2)), (4, .ref (q 3)), (5, .ref (q 4)), (6, .ref (q 5)), (7, .ref (q 6)), (8, .ref (q 7)), (9, .ref (q 8)), (10, .ref (q 9))]) S.1 S.2.1 dL_isTold_1 hl (by decide) rfl (fun ls hl => ?_)
  refine lv_iconst (v := nI 0) S.1 S.2.1 dL_isTold_3 (by decide) ?_
  refine lv_istore (lv' := [(12, .int (nI (0))), (11, .int (nI (0))), (0, .ref (q 0)), (1, .int (y)), (2, .ref (q 1)), (3, .ref (q 2)), (4, .ref (q 3)), (5, .ref (q 4)), (6, .ref (q 5)), (7, .ref (q 6)), (8, .ref (q 7)), (9, .ref (q 8)), (10, .ref (q 9))]) S.1 S.2.1 dL_isTold_4 hl (by decide) rfl (fun ls hl => ?_)
  have lp6 : ∀ (n6 : Nat) (bk : Nat) (kc : Nat) (H : Heap) (locs : List Loc) (ls : Array Slot), 16 - kc < n6 → kc ≤ 16 → bk = fb_sm (sp_bl (sK T (sW T))) (8 * kc) → mj_W D A q T gl gi H → va_S A s.heap H locs → lv_has ls 21 [(11, .int (nI (bk))), (12, .int (nI (kc))), (0, .ref (q 0)), (1, .int (y)), (2, .ref (q 1)), (3, .ref (q 2)), (4, .ref (q 3)), (5, .ref (q 4)), (6, .ref (q 5)), (7, .ref (q 6)), (8, .ref (q 7)), (9, .ref (q 8)), (10, .ref (q 9))] → W p l e (mi_rq 10 60 360) s m ([.ref (q 0), .int (y), .ref (q 1), .ref (q 2), .ref (q 3), .ref (q 4), .ref (q 5), .ref (q 6), .ref (q 7), .ref (q 8), .ref (q 9)] : List Value).toArray below meth c H locs (2 * kc) (12 * kc) (MQ below (mi_Qi A (fun r H => r = nI 1 ∧ mj_I D A q H)) ([.ref (q 0), .int (y), .ref (q 1), .ref (q 2), .ref (q 3), .ref (q 4), .ref (q 5), .ref (q 6), .ref (q 7), .ref (q 8), .ref (q 9)] : List Value).toArray s 60 360 A) (F0 m 6 ls []) := by
    intro n6
    induction n6 with
    | zero => intro bk kc H locs ls hm hkc hb hM hS hl; exact absurd hm (Nat.not_lt_zero _)
    | succ n6 ih6 =>
      intro bk kc H locs ls hm hkc hb hM hS hl
      refine lv_iload S.1 S.2.1 dL_isTold_6 (lv_at hl 1 rfl) ?_
      refine lv_bipush (v := nI 16) S.1 S.2.1 dL_isTold_8 (by decide) ?_
      refine mi_icmp_ge (tgt := 206) S (by omega) (by omega) dL_isTold_10 (by decide) (fun c10_0 => ?_) (fun c10_0 => ?_)
      · have hbk : bk = sp_blocks (sK T (sW T)) := by rw [hb, show 8 * kc = 128 by omega]; rfl
        refine lv_iload_n S.1 S.2.1 dL_isTold_206 rfl (lv_at hl 3 rfl) ?_
        refine lv_aload S.1 S.2.1 dL_isTold_207 (lv_at hl 12 rfl) ?_
        refine lv_iconst (v := nI 1) S.1 S.2.1 dL_isTold_209 (by decide) ?_
        refine mj_ild S E hM 9 (by omega) (by show _ < 4; omega) dL_isTold_210 ?_
        refine mi_top (v' := .int (nI (sN T))) (congrArg Value.int g1) ?_
        refine mi_cR (mi_runS (P := mj_W D A q T gl gi) (As := [.int (y), .int (nI (sN T))]) (rest := []) S E hS hM (c_Llow l D A (mj_W D A q T gl gi) (by omega) (by omega)) mw_186 mw_184 mw_185 mw_17 ⟨by decide, by decide, by decide +kernel⟩ ⟨rfl, rfl, Nat.le_of_ble_eq_true rfl, Nat.le_of_ble_eq_true rfl⟩ (n := 2) rfl hl.1 rfl (Nat.le_of_ble_eq_true rfl) dL_isTold_211 ⟨by show _ ≤ (60 : Nat); omega, by show _ ≤ (360 : Nat); omega⟩) (fun r9 e9 => ?_)
        obtain ⟨on, hon, rfl⟩ := e9
        refine lv_istore (lv' := [(12, .int (nI (on))), (11, .int (nI (bk))), (0, .ref (q 0)), (1, .int (y)), (2, .ref (q 1)), (3, .ref (q 2)), (4, .ref (q 3)), (5, .ref (q 4)), (6, .ref (q 5)), (7, .ref (q 6)), (8, .ref (q 7)), (9, .ref (q 8)), (10, .ref (q 9))]) S.1 S.2.1 dL_isTold_214 hl (by decide) rfl (fun ls hl => ?_)
        refine lv_iload_n S.1 S.2.1 dL_isTold_216 rfl (lv_at hl 3 rfl) ?_
        refine lv_iconst (v := nI 4) S.1 S.2.1 dL_isTold_217 (by decide) ?_
        refine lv_ishr S.1 S.2.1 dL_isTold_218 ?_
        refine lv_aload S.1 S.2.1 dL_isTold_219 (lv_at hl 12 rfl) ?_
        refine lv_iconst (v := nI 1) S.1 S.2.1 dL_isTold_221 (by decide) ?_
        refine mj_ild S E hM 9 (by omega) (by show _ < 4; omega) dL_isTold_222 ?_
        refine mi_top (v' := .int (nI (sN T))) (congrArg Value.int g1) ?_
        refine mi_cR (mi_runS (P := mj_W D A q T gl gi) (As := [.int (y >>> ((nI (4)) &&& 31)), .int (nI (sN T))]) (rest := []) S E hS hM (c_Llow l D A (mj_W D A q T gl gi) (by omega) (by omega)) mw_186 mw_184 mw_185 mw_17 ⟨by decide, by decide, by decide +kernel⟩ ⟨rfl, rfl, Nat.le_of_ble_eq_true rfl, Nat.le_of_ble_eq_true rfl⟩ (n := 2) rfl hl.1 rfl (Nat.le_of_ble_eq_true rfl) dL_isTold_223 ⟨by show _ ≤ (60 : Nat); omega, by show _ ≤ (360 : Nat); omega⟩) (fun r9 e9 => ?_)
        obtain ⟨ot, hot, rfl⟩ := e9
        refine lv_istore (lv' := [(13, .int (nI (ot))), (12, .int (nI (on))), (11, .int (nI (bk))), (0, .ref (q 0)), (1, .int (y)), (2, .ref (q 1)), (3, .ref (q 2)), (4, .ref (q 3)), (5, .ref (q 4)), (6, .ref (q 5)), (7, .ref (q 6)), (8, .ref (q 7)), (9, .ref (q 8)), (10, .ref (q 9))]) S.1 S.2.1 dL_isTold_226 hl (by decide) rfl (fun ls hl => ?_)
        refine lv_iconst (v := nI 0) S.1 S.2.1 dL_isTold_228 (by decide) ?_
        refine lv_istore (lv' := [(14, .int (nI (0))), (13, .int (nI (ot))), (12, .int (nI (on))), (11, .int (nI (bk))), (0, .ref (q 0)), (1, .int (y)), (2, .ref (q 1)), (3, .ref (q 2)), (4, .ref (q 3)), (5, .ref (q 4)), (6, .ref (q 5)), (7, .ref (q 6)), (8, .ref (q 7)), (9, .ref (q 8)), (10, .ref (q 9))]) S.1 S.2.1 dL_isTold_229 hl (by decide) rfl (fun ls hl => ?_)
        refine lv_iconst (v := nI 0) S.1 S.2.1 dL_isTold_231 (by decide) ?_
        refine lv_istore (lv' := [(15, .int (nI (0))), (14, .int (nI (0))), (13, .int (nI (ot))), (12, .int (nI (on))), (11, .int (nI (bk))), (0, .ref (q 0)), (1, .int (y)), (2, .ref (q 1)), (3, .ref (q 2)), (4, .ref (q 3)), (5, .ref (q 4)), (6, .ref (q 5)), (7, .ref (q 6)), (8, .ref (q 7)), (9, .ref (q 8)), (10, .ref (q 9))]) S.1 S.2.1 dL_isTold_232 hl (by decide) rfl (fun ls hl => ?_)
        have lp234 : ∀ (n234 : Nat) (uu : Nat) (ju : Nat) (ls : Array Slot), 16 - ju < n234 → ju ≤ 16 → uu = sp_ul T on ot ju → uu ≤ ju → lv_has ls 21 [(14, .int (nI (uu))), (15, .int (nI (ju))), (11, .int (nI (bk))), (12, .int (nI (on))), (13, .int (nI (ot))), (0, .ref (q 0)), (1, .int (y)), (2, .ref (q 1)), (3, .ref (q 2)), (4, .ref (q 3)), (5, .ref (q 4)), (6, .ref (q 5)), (7, .ref (q 6)), (8, .ref (q 7)), (9, .ref (q 8)), (10, .ref (q 9))] → W p l e (mi_rq 10 60 360) s m ([.ref (q 0), .int (y), .ref (q 1), .ref (q 2), .ref (q 3), .ref (q 4), .ref (q 5), .ref (q 6), .ref (q 7), .ref (q 8), .ref (q 9)] : List Value).toArray below meth c H locs (2 * kc) (12 * kc) (MQ below (mi_Qi A (fun r H => r = nI 1 ∧ mj_I D A q H)) ([.ref (q 0), .int (y), .ref (q 1), .ref (q 2), .ref (q 3), .ref (q 4), .ref (q 5), .ref (q 6), .ref (q 7), .ref (q 8), .ref (q 9)] : List Value).toArray s 60 360 A) (F0 m 234 ls []) := by
          intro n234
          induction n234 with
          | zero => intro uu ju ls hm hju huu hub  hl; exact absurd hm (Nat.not_lt_zero _)
          | succ n234 ih234 =>
            intro uu ju ls hm hju huu hub  hl
            refine lv_iload S.1 S.2.1 dL_isTold_234 (lv_at hl 1 rfl) ?_
            refine lv_bipush (v := nI 16) S.1 S.2.1 dL_isTold_236 (by decide) ?_
            refine mi_icmp_ge (tgt := 276) S (by omega) (by omega) dL_isTold_238 (by decide) (fun c238_1 => ?_) (fun c238_1 => ?_)
            · refine lv_iconst (v := nI 0) S.1 S.2.1 dL_isTold_276 (by decide) ?_
              refine lv_istore (lv' := [(15, .int (nI (0))), (14, .int (nI (uu))), (11, .int (nI (bk))), (12, .int (nI (on))), (13, .int (nI (ot))), (0, .ref (q 0)), (1, .int (y)), (2, .ref (q 1)), (3, .ref (q 2)), (4, .ref (q 3)), (5, .ref (q 4)), (6, .ref (q 5)), (7, .ref (q 6)), (8, .ref (q 7)), (9, .ref (q 8)), (10, .ref (q 9))]) S.1 S.2.1 dL_isTold_277 hl (by decide) rfl (fun ls hl => ?_)
              refine lv_iconst (v := nI 1) S.1 S.2.1 dL_isTold_279 (by decide) ?_
              refine lv_istore (lv' := [(16, .int (nI (1))), (15, .int (nI (0))), (14, .int (nI (uu))), (11, .int (nI (bk))), (12, .int (nI (on))), (13, .int (nI (ot))), (0, .ref (q 0)), (1, .int (y)), (2, .ref (q 1)), (3, .ref (q 2)), (4, .ref (q 3)), (5, .ref (q 4)), (6, .ref (q 5)), (7, .ref (q 6)), (8, .ref (q 7)), (9, .ref (q 8)), (10, .ref (q 9))]) S.1 S.2.1 dL_isTold_280 hl (by decide) rfl (fun ls hl => ?_)
              have lp282 : ∀ (n282 : Nat) (nb : Nat) (jb : Nat) (ls : Array Slot), sN T - jb < n282 → 1 ≤ jb ∧ jb ≤ sN T → nb = sp_br T (sW T) jb → nb ≤ jb → lv_has ls 21 [(15, .int (nI (nb))), (16, .int (nI (jb))), (14, .int (nI (uu))), (11, .int (nI (bk))), (12, .int (nI (on))), (13, .int (nI (ot))), (0, .ref (q 0)), (1, .int (y)), (2, .ref (q 1)), (3, .ref (q 2)), (4, .ref (q 3)), (5, .ref (q 4)), (6, .ref (q 5)), (7, .ref (q 6)), (8, .ref (q 7)), (9, .ref (q 8)), (10, .ref (q 9))] → W p l e (mi_rq 10 60 360) s m ([.ref (q 0), .int (y), .ref (q 1), .ref (q 2), .ref (q 3), .ref (q 4), .ref (q 5), .ref (q 6), .ref (q 7), .ref (q 8), .ref (q 9)] : List Value).toArray below meth c H locs (2 * kc) (12 * kc) (MQ below (mi_Qi A (fun r H => r = nI 1 ∧ mj_I D A q H)) ([.ref (q 0), .int (y), .ref (q 1), .ref (q 2), .ref (q 3), .ref (q 4), .ref (q 5), .ref (q 6), .ref (q 7), .ref (q 8), .ref (q 9)] : List Value).toArray s 60 360 A) (F0 m 282 ls []) := by
                intro n282
                induction n282 with
                | zero => intro nb jb ls hm hjb hnb hnl  hl; exact absurd hm (Nat.not_lt_zero _)
                | succ n282 ih282 =>
                  intro nb jb ls hm hjb hnb hnl  hl
                  refine lv_iload S.1 S.2.1 dL_isTold_282 (lv_at hl 1 rfl) ?_
                  refine lv_aload S.1 S.2.1 dL_isTold_284 (lv_at hl 16 rfl) ?_
                  refine lv_iconst (v := nI 1) S.1 S.2.1 dL_isTold_286 (by decide) ?_
                  refine mj_ild S E hM 9 (by omega) (by show _ < 4; omega) dL_isTold_287 ?_
                  refine mi_top (v' := .int (nI (sN T))) (congrArg Value.int g1) ?_
                  refine mi_icmp_ge (tgt := 318) S (by omega) (by omega) dL_isTold_288 (by decide) (fun c288_2 => ?_) (fun c288_2 => ?_)
                  · have hnb2 : nb = sp_br T (sW T) (sN T) := by rw [hnb, show jb = sN T by omega]
                    have huu2 : uu = sp_ul T on ot 16 := by rw [huu, show ju = 16 by omega]
                    have hub := sp_ul_le T on ot 16
                    have hbb2 := sp_br_le T (sW T) (sN T)
                    have hbl2 : sp_blocks (sK T (sW T)) ≤ 128 := fb_sm_bound (f := sp_bl (sK T (sW T))) (c := 1) (n := 128) (fun k1 _ => sp_bl_le _ _)
                    refine lv_aload_n S.1 S.2.1 dL_isTold_318 rfl (lv_at hl 6 rfl) ?_
                    refine mi_cR (mi_runV (P := mj_W D A q T gl gi) (As := []) (rest := []) S E hS hM (q 0) (j_blocks l D A hst q hO) (hM.recv E) mw_621 mw_618 mw_619 mw_620 mw_18 ⟨by decide, by decide, by decide +kernel⟩ ⟨rfl, rfl, Nat.le_of_ble_eq_true rfl, Nat.le_of_ble_eq_true rfl⟩ (n := 0) rfl hl.1 rfl (Nat.le_of_ble_eq_true rfl) dL_isTold_319 ⟨by show _ ≤ (60 : Nat); omega, by show _ ≤ (360 : Nat); omega⟩) (fun r9 e9 => ?_)
                    subst e9
                    refine lv_iload S.1 S.2.1 dL_isTold_322 (lv_at hl 3 rfl) ?_
                    refine mi_icmp_ne (tgt := 375) S (by omega) (by omega) dL_isTold_324 (by decide) (fun c324_3 => by exfalso; omega) (fun c324_3 => ?_)
                    refine lv_aload_n S.1 S.2.1 dL_isTold_327 rfl (lv_at hl 6 rfl) ?_
                    refine mi_cR (mi_runV (P := mj_W D A q T gl gi) (As := []) (rest := []) S E hS hM (q 0) (j_blocksOneByOne l D A hst q hO) (hM.recv E) mw_629 mw_626 mw_627 mw_628 mw_18 ⟨by decide, by decide, by decide +kernel⟩ ⟨rfl, rfl, Nat.le_of_ble_eq_true rfl, Nat.le_of_ble_eq_true rfl⟩ (n := 0) rfl hl.1 rfl (Nat.le_of_ble_eq_true rfl) dL_isTold_328 ⟨by show _ ≤ (60 : Nat); omega, by show _ ≤ (360 : Nat); omega⟩) (fun r9 e9 => ?_)
                    subst e9
                    refine lv_iload S.1 S.2.1 dL_isTold_331 (lv_at hl 3 rfl) ?_
                    refine mi_icmp_ne (tgt := 375) S (by omega) (by omega) dL_isTold_333 (by decide) (fun c333_4 => by exfalso; omega) (fun c333_4 => ?_)
                    refine lv_aload_n S.1 S.2.1 dL_isTold_336 rfl (lv_at hl 6 rfl) ?_
                    refine mi_cMi (mi_runV (P := mj_W D A q T gl gi) (As := []) (rest := []) S E hS hM (q 0) (j_pieces l D A hst q hO hct) (hM.recv E) mw_633 mw_630 mw_631 mw_632 mw_18 ⟨by decide, by decide, by decide +kernel⟩ ⟨rfl, rfl, Nat.le_of_ble_eq_true rfl, Nat.le_of_ble_eq_true rfl⟩ (n := 0) rfl hl.1 rfl (Nat.le_of_ble_eq_true rfl) dL_isTold_337 ⟨by show _ ≤ (60 : Nat); omega, by show _ ≤ (360 : Nat); omega⟩) hS (fun r9 H locs hp9 hS hz9 => ?_)
                    obtain ⟨e9, hM⟩ := hp9
                    refine mi_top (v' := .int (nI kp)) (by rw [e9]) ?_
                    refine lv_aload_n S.1 S.2.1 dL_isTold_340 rfl (lv_at hl 8 rfl) ?_
                    refine lv_aload S.1 S.2.1 dL_isTold_341 (lv_at hl 14 rfl) ?_
                    refine lv_aload S.1 S.2.1 dL_isTold_343 (lv_at hl 15 rfl) ?_
                    refine lv_aload S.1 S.2.1 dL_isTold_345 (lv_at hl 16 rfl) ?_
                    refine mi_cMi (mi_runS (P := mj_W D A q T gl gi) (As := [.ref (q 1), .ref (q 7), .ref (q 8), .ref (q 9)]) (rest := [.int (nI (kp))]) S E hS hM (c_Lpieces l D A g0 (by omega) (fun c1 h1 => hk9 (sW T) c1 o3 h1) hKb hct) mw_432 mw_430 mw_431 mw_17 ⟨by decide, by decide, by decide +kernel⟩ ⟨rfl, rfl, Nat.le_of_ble_eq_true rfl, Nat.le_of_ble_eq_true rfl⟩ (n := 4) rfl hl.1 rfl (Nat.le_of_ble_eq_true rfl) dL_isTold_347 ⟨by show _ ≤ (60 : Nat); omega, by show _ ≤ (360 : Nat); omega⟩) hS (fun r9 H locs hp9 hS hz9 => ?_)
                    obtain ⟨e9, vv, ff, hM⟩ := hp9
                    refine mi_top (v' := .int (nI kp)) (by rw [e9]) ?_
                    refine mi_icmp_ne (tgt := 375) S (by omega) (by omega) dL_isTold_350 (by decide) (fun c350_5 => by exfalso; omega) (fun c350_5 => ?_)
                    refine lv_aload_n S.1 S.2.1 dL_isTold_353 rfl (lv_at hl 6 rfl) ?_
                    refine lv_iload S.1 S.2.1 dL_isTold_354 (lv_at hl 4 rfl) ?_
                    refine lv_iload S.1 S.2.1 dL_isTold_356 (lv_at hl 5 rfl) ?_
                    refine mi_cR (mi_runSH (P := mj_W D A q T gl ((va_up (va_up gi 7 vv) 8 ff))) (As := [.ref (q 0), .int (nI (on)), .int (nI (ot))]) (rest := []) S E hS hM (j_unlike l D A hst q hO (by omega) (by omega)) mw_636 mw_634 mw_635 mw_17 ⟨by decide, by decide, by decide +kernel⟩ ⟨rfl, rfl, Nat.le_of_ble_eq_true rfl, Nat.le_of_ble_eq_true rfl⟩ (n := 3) rfl hl.1 rfl (Nat.le_of_ble_eq_true rfl) dL_isTold_358 ⟨by show _ ≤ (60 : Nat); omega, by show _ ≤ (360 : Nat); omega⟩) (fun r9 e9 => ?_)
                    subst e9
                    refine lv_iload S.1 S.2.1 dL_isTold_361 (lv_at hl 2 rfl) ?_
                    refine mi_icmp_ne (tgt := 375) S (by omega) (by omega) dL_isTold_363 (by decide) (fun c363_6 => by exfalso; omega) (fun c363_6 => ?_)
                    refine lv_aload_n S.1 S.2.1 dL_isTold_366 rfl (lv_at hl 6 rfl) ?_
                    refine mi_cR (mi_runV (P := mj_W D A q T gl ((va_up (va_up gi 7 vv) 8 ff))) (As := []) (rest := []) S E hS hM (q 0) (j_branches l D A hst q hO) (hM.recv E) mw_414 mw_411 mw_412 mw_413 mw_18 ⟨by decide, by decide, by decide +kernel⟩ ⟨rfl, rfl, Nat.le_of_ble_eq_true rfl, Nat.le_of_ble_eq_true rfl⟩ (n := 0) rfl hl.1 rfl (Nat.le_of_ble_eq_true rfl) dL_isTold_367 ⟨by show _ ≤ (60 : Nat); omega, by show _ ≤ (360 : Nat); omega⟩) (fun r9 e9 => ?_)
                    subst e9
                    refine lv_iload S.1 S.2.1 dL_isTold_370 (lv_at hl 0 rfl) ?_
                    refine mi_icmp_eq (tgt := 377) S (by omega) (by omega) dL_isTold_372 (by decide) (fun c372_7 => ?_) (fun c372_7 => by exfalso; omega)
                    refine lv_iload_n S.1 S.2.1 dL_isTold_377 rfl (lv_at hl 7 rfl) ?_
                    refine lv_iconst (v := nI 3) S.1 S.2.1 dL_isTold_378 (by decide) ?_
                    refine lv_ishr S.1 S.2.1 dL_isTold_379 ?_
                    refine lv_bipush (v := nI 16) S.1 S.2.1 dL_isTold_380 (by decide) ?_
                    refine mi_cR (mi_runS (P := mj_W D A q T gl ((va_up (va_up gi 7 vv) 8 ff))) (As := [.int (y >>> ((nI (3)) &&& 31)), .int (nI (16))]) (rest := []) S E hS hM (c_Llow l D A (mj_W D A q T gl ((va_up (va_up gi 7 vv) 8 ff))) (by omega) (by omega)) mw_186 mw_184 mw_185 mw_17 ⟨by decide, by decide, by decide +kernel⟩ ⟨rfl, rfl, Nat.le_of_ble_eq_true rfl, Nat.le_of_ble_eq_true rfl⟩ (n := 2) rfl hl.1 rfl (Nat.le_of_ble_eq_true rfl) dL_isTold_382 ⟨by show _ ≤ (60 : Nat); omega, by show _ ≤ (360 : Nat); omega⟩) (fun r9 e9 => ?_)
                    obtain ⟨cl, hcl, rfl⟩ := e9
                    refine lv_istore (lv' := [(16, .int (nI (cl))), (15, .int (nI (nb))), (14, .int (nI (uu))), (11, .int (nI (bk))), (12, .int (nI (on))), (13, .int (nI (ot))), (0, .ref (q 0)), (1, .int (y)), (2, .ref (q 1)), (3, .ref (q 2)), (4, .ref (q 3)), (5, .ref (q 4)), (6, .ref (q 5)), (7, .ref (q 6)), (8, .ref (q 7)), (9, .ref (q 8)), (10, .ref (q 9))]) S.1 S.2.1 dL_isTold_385 hl (by decide) rfl (fun ls hl => ?_)
                    refine lv_iconst (v := nI 0) S.1 S.2.1 dL_isTold_387 (by decide) ?_
                    refine lv_istore (lv' := [(17, .int (nI (0))), (16, .int (nI (cl))), (15, .int (nI (nb))), (14, .int (nI (uu))), (11, .int (nI (bk))), (12, .int (nI (on))), (13, .int (nI (ot))), (0, .ref (q 0)), (1, .int (y)), (2, .ref (q 1)), (3, .ref (q 2)), (4, .ref (q 3)), (5, .ref (q 4)), (6, .ref (q 5)), (7, .ref (q 6)), (8, .ref (q 7)), (9, .ref (q 8)), (10, .ref (q 9))]) S.1 S.2.1 dL_isTold_388 hl (by decide) rfl (fun ls hl => ?_)
                    have lp390 : ∀ (n390 : Nat) (jd : Nat) (H : Heap) (locs : List Loc) (ls : Array Slot), sD T - jd < n390 → jd ≤ sD T → mj_W D A q T gl (va_up (va_up gi 7 vv) 8 ff) H → va_S A s.heap H locs → lv_has ls 21 [(17, .int (nI (jd))), (16, .int (nI (cl))), (0, .ref (q 0)), (1, .int (y)), (2, .ref (q 1)), (3, .ref (q 2)), (4, .ref (q 3)), (5, .ref (q 4)), (6, .ref (q 5)), (7, .ref (q 6)), (8, .ref (q 7)), (9, .ref (q 8)), (10, .ref (q 9))] → W p l e (mi_rq 10 60 360) s m ([.ref (q 0), .int (y), .ref (q 1), .ref (q 2), .ref (q 3), .ref (q 4), .ref (q 5), .ref (q 6), .ref (q 7), .ref (q 8), .ref (q 9)] : List Value).toArray below meth c H locs (32 + jd) (192 + 6 * jd) (MQ below (mi_Qi A (fun r H => r = nI 1 ∧ mj_I D A q H)) ([.ref (q 0), .int (y), .ref (q 1), .ref (q 2), .ref (q 3), .ref (q 4), .ref (q 5), .ref (q 6), .ref (q 7), .ref (q 8), .ref (q 9)] : List Value).toArray s 60 360 A) (F0 m 390 ls []) := by
                      intro n390
                      induction n390 with
                      | zero => intro jd H locs ls hm hjd hM hS hl; exact absurd hm (Nat.not_lt_zero _)
                      | succ n390 ih390 =>
                        intro jd H locs ls hm hjd hM hS hl
                        refine lv_iload S.1 S.2.1 dL_isTold_390 (lv_at hl 0 rfl) ?_
                        refine lv_aload S.1 S.2.1 dL_isTold_392 (lv_at hl 12 rfl) ?_
                        refine lv_iconst (v := nI 2) S.1 S.2.1 dL_isTold_394 (by decide) ?_
                        refine mj_ild S E hM 9 (by omega) (by show _ < 4; omega) dL_isTold_395 ?_
                        refine mi_top (v' := .int (nI (sD T))) (congrArg Value.int g2) ?_
                        refine mi_icmp_ge (tgt := 451) S (by omega) (by omega) dL_isTold_396 (by decide) (fun c396_8 => ?_) (fun c396_8 => ?_)
                        · refine lv_aload S.1 S.2.1 dL_isTold_451 (lv_at hl 12 rfl) ?_
                          refine lv_iconst (v := nI 3) S.1 S.2.1 dL_isTold_453 (by decide) ?_
                          refine mj_ild S E hM 9 (by omega) (by show _ < 4; omega) dL_isTold_454 ?_
                          refine mi_top (v' := .int (nI (sC T))) (congrArg Value.int g3) ?_
                          refine mi_if_le (tgt := 638) S (by omega) dL_isTold_455 (by decide) (fun c455_9 => ?_) (fun c455_9 => ?_)
                          · refine lv_aload_n S.1 S.2.1 dL_isTold_638 rfl (lv_at hl 2 rfl) ?_
                            refine mi_cR (mi_runV (P := mj_W D A q T gl ((va_up (va_up gi 7 vv) 8 ff))) (As := []) (rest := []) S E hS hM (q 0) (j_state l D A hst q hO) (hM.recv E) mw_690 mw_687 mw_688 mw_689 mw_18 ⟨by decide, by decide, by decide +kernel⟩ ⟨rfl, rfl, Nat.le_of_ble_eq_true rfl, Nat.le_of_ble_eq_true rfl⟩ (n := 0) rfl hl.1 rfl (Nat.le_of_ble_eq_true rfl) dL_isTold_639 ⟨by show _ ≤ (60 : Nat); omega, by show _ ≤ (360 : Nat); omega⟩) (fun r9 e9 => ?_)
                            subst e9
                            refine lv_aload S.1 S.2.1 dL_isTold_642 (lv_at hl 12 rfl) ?_
                            refine lv_iconst (v := nI 0) S.1 S.2.1 dL_isTold_644 (by decide) ?_
                            refine mj_ild S E hM 9 (by omega) (by show _ < 4; omega) dL_isTold_645 ?_
                            refine mi_top (v' := .int (nI (sW T))) (congrArg Value.int g0) ?_
                            refine mi_icmp_ne (tgt := 789) S (by omega) (by omega) dL_isTold_646 (by decide) (fun c646_10 => by exfalso; omega) (fun c646_10 => ?_)
                            refine lv_aload_n S.1 S.2.1 dL_isTold_649 rfl (lv_at hl 2 rfl) ?_
                            refine mi_cR (mi_runV (P := mj_W D A q T gl ((va_up (va_up gi 7 vv) 8 ff))) (As := []) (rest := []) S E hS hM (q 0) (j_states l D A hst q hO) (hM.recv E) mw_344 mw_341 mw_342 mw_343 mw_18 ⟨by decide, by decide, by decide +kernel⟩ ⟨rfl, rfl, Nat.le_of_ble_eq_true rfl, Nat.le_of_ble_eq_true rfl⟩ (n := 0) rfl hl.1 rfl (Nat.le_of_ble_eq_true rfl) dL_isTold_650 ⟨by show _ ≤ (60 : Nat); omega, by show _ ≤ (360 : Nat); omega⟩) (fun r9 e9 => ?_)
                            subst e9
                            refine lv_aload S.1 S.2.1 dL_isTold_653 (lv_at hl 12 rfl) ?_
                            refine lv_iconst (v := nI 1) S.1 S.2.1 dL_isTold_655 (by decide) ?_
                            refine mj_ild S E hM 9 (by omega) (by show _ < 4; omega) dL_isTold_656 ?_
                            refine mi_top (v' := .int (nI (sN T))) (congrArg Value.int g1) ?_
                            refine mi_icmp_ne (tgt := 789) S (by omega) (by omega) dL_isTold_657 (by decide) (fun c657_11 => by exfalso; omega) (fun c657_11 => ?_)
                            refine lv_aload_n S.1 S.2.1 dL_isTold_660 rfl (lv_at hl 2 rfl) ?_
                            refine lv_bipush (v := nI 16) S.1 S.2.1 dL_isTold_661 (by decide) ?_
                            refine lv_iconst (v := nI 0) S.1 S.2.1 dL_isTold_663 (by decide) ?_
                            refine mi_cMi (mi_runSH (P := mj_W D A q T gl ((va_up (va_up gi 7 vv) 8 ff))) (As := [.ref (q 0), .int (nI (16)), .int (nI (0))]) (rest := []) S E hS hM (j_kind_x1 l D A hst q hO (by decide)) mw_583 mw_581 mw_582 mw_17 ⟨by decide, by decide, by decide +kernel⟩ ⟨rfl, rfl, Nat.le_of_ble_eq_true rfl, Nat.le_of_ble_eq_true rfl⟩ (n := 3) rfl hl.1 rfl (Nat.le_of_ble_eq_true rfl) dL_isTold_664 ⟨(by show _ ≤ (60 : Nat); omega), (by show _ ≤ (360 : Nat); omega)⟩) hS (fun r9 H locs hp9 hS hz9 => ?_)
                            obtain ⟨e9, hM⟩ := hp9
                            refine mi_top (v' := .int (-71)) (by rw [e9]) ?_
                            refine lv_bipush (v := (-71)) S.1 S.2.1 dL_isTold_667 (by decide) ?_
                            refine lv_icmp_ne (tgt := 789) S.1 S.2.1 dL_isTold_669 (by decide) (fun c669_12 => absurd rfl c669_12) (fun _ => ?_)
                            refine lv_aload_n S.1 S.2.1 dL_isTold_672 rfl (lv_at hl 2 rfl) ?_
                            refine lv_iconst (v := nI 0) S.1 S.2.1 dL_isTold_673 (by decide) ?_
                            refine lv_bipush (v := nI 8) S.1 S.2.1 dL_isTold_674 (by decide) ?_
                            refine mi_cMi (mi_runSH (P := mj_W D A q T gl ((va_up (va_up gi 7 vv) 8 ff))) (As := [.ref (q 0), .int (nI (0)), .int (nI (8))]) (rest := []) S E hS hM (j_kind_x2 l D A hst q hO (by omega) (by decide)) mw_583 mw_581 mw_582 mw_17 ⟨by decide, by decide, by decide +kernel⟩ ⟨rfl, rfl, Nat.le_of_ble_eq_true rfl, Nat.le_of_ble_eq_true rfl⟩ (n := 3) rfl hl.1 rfl (Nat.le_of_ble_eq_true rfl) dL_isTold_676 ⟨(by show _ ≤ (60 : Nat); omega), (by show _ ≤ (360 : Nat); omega)⟩) hS (fun r9 H locs hp9 hS hz9 => ?_)
                            obtain ⟨e9, hM⟩ := hp9
                            refine mi_top (v' := .int (-71)) (by rw [e9]) ?_
                            refine lv_bipush (v := (-71)) S.1 S.2.1 dL_isTold_679 (by decide) ?_
                            refine lv_icmp_ne (tgt := 789) S.1 S.2.1 dL_isTold_681 (by decide) (fun c681_13 => absurd rfl c681_13) (fun _ => ?_)
                            refine lv_aload_n S.1 S.2.1 dL_isTold_684 rfl (lv_at hl 2 rfl) ?_
                            refine lv_aload S.1 S.2.1 dL_isTold_685 (lv_at hl 12 rfl) ?_
                            refine lv_iconst (v := nI 1) S.1 S.2.1 dL_isTold_687 (by decide) ?_
                            refine mj_ild S E hM 9 (by omega) (by show _ < 4; omega) dL_isTold_688 ?_
                            refine mi_top (v' := .int (nI (sN T))) (congrArg Value.int g1) ?_
                            refine lv_iconst (v := nI 0) S.1 S.2.1 dL_isTold_689 (by decide) ?_
                            refine mi_cMi (mi_runSH (P := mj_W D A q T gl ((va_up (va_up gi 7 vv) 8 ff))) (As := [.ref (q 0), .int (nI (sN T)), .int (nI (0))]) (rest := []) S E hS hM (j_unlike_x1 l D A hst q hO (lj_tn (by omega) (by omega))) mw_636 mw_634 mw_635 mw_17 ⟨by decide, by decide, by decide +kernel⟩ ⟨rfl, rfl, Nat.le_of_ble_eq_true rfl, Nat.le_of_ble_eq_true rfl⟩ (n := 3) rfl hl.1 rfl (Nat.le_of_ble_eq_true rfl) dL_isTold_690 ⟨(by show _ ≤ (60 : Nat); omega), (by show _ ≤ (360 : Nat); omega)⟩) hS (fun r9 H locs hp9 hS hz9 => ?_)
                            obtain ⟨e9, hM⟩ := hp9
                            refine mi_top (v' := .int (-71)) (by rw [e9]) ?_
                            refine lv_bipush (v := (-71)) S.1 S.2.1 dL_isTold_693 (by decide) ?_
                            refine lv_icmp_ne (tgt := 789) S.1 S.2.1 dL_isTold_695 (by decide) (fun c695_14 => absurd rfl c695_14) (fun _ => ?_)
                            refine lv_aload_n S.1 S.2.1 dL_isTold_698 rfl (lv_at hl 2 rfl) ?_
                            refine lv_iconst (v := nI 0) S.1 S.2.1 dL_isTold_699 (by decide) ?_
                            refine lv_iconst (v := (-1)) S.1 S.2.1 dL_isTold_700 (by decide) ?_
                            refine mi_cMi (mi_runSH (P := mj_W D A q T gl ((va_up (va_up gi 7 vv) 8 ff))) (As := [.ref (q 0), .int (nI (0)), .int (-1)]) (rest := []) S E hS hM (j_unlike_x2 l D A hst q hO (by omega) lj_m1) mw_636 mw_634 mw_635 mw_17 ⟨by decide, by decide, by decide +kernel⟩ ⟨rfl, rfl, Nat.le_of_ble_eq_true rfl, Nat.le_of_ble_eq_true rfl⟩ (n := 3) rfl hl.1 rfl (Nat.le_of_ble_eq_true rfl) dL_isTold_701 ⟨(by show _ ≤ (60 : Nat); omega), (by show _ ≤ (360 : Nat); omega)⟩) hS (fun r9 H locs hp9 hS hz9 => ?_)
                            obtain ⟨e9, hM⟩ := hp9
                            refine mi_top (v' := .int (-71)) (by rw [e9]) ?_
                            refine lv_bipush (v := (-71)) S.1 S.2.1 dL_isTold_704 (by decide) ?_
                            refine lv_icmp_ne (tgt := 789) S.1 S.2.1 dL_isTold_706 (by decide) (fun c706_15 => absurd rfl c706_15) (fun _ => ?_)
                            refine lv_aload_n S.1 S.2.1 dL_isTold_709 rfl (lv_at hl 2 rfl) ?_
                            refine lv_aload S.1 S.2.1 dL_isTold_710 (lv_at hl 12 rfl) ?_
                            refine lv_iconst (v := nI 2) S.1 S.2.1 dL_isTold_712 (by decide) ?_
                            refine mj_ild S E hM 9 (by omega) (by show _ < 4; omega) dL_isTold_713 ?_
                            refine mi_top (v' := .int (nI (sD T))) (congrArg Value.int g2) ?_
                            refine lv_iconst (v := nI 0) S.1 S.2.1 dL_isTold_714 (by decide) ?_
                            refine mi_cMi (mi_runSH (P := mj_W D A q T gl ((va_up (va_up gi 7 vv) 8 ff))) (As := [.ref (q 0), .int (nI (sD T)), .int (nI (0))]) (rest := []) S E hS hM (j_dieHeight_x1 l D A hst q hO (lj_tn (by omega) (by omega))) mw_647 mw_645 mw_646 mw_17 ⟨by decide, by decide, by decide +kernel⟩ ⟨rfl, rfl, Nat.le_of_ble_eq_true rfl, Nat.le_of_ble_eq_true rfl⟩ (n := 3) rfl hl.1 rfl (Nat.le_of_ble_eq_true rfl) dL_isTold_715 ⟨(by show _ ≤ (60 : Nat); omega), (by show _ ≤ (360 : Nat); omega)⟩) hS (fun r9 H locs hp9 hS hz9 => ?_)
                            obtain ⟨e9, hM⟩ := hp9
                            refine mi_top (v' := .int (-71)) (by rw [e9]) ?_
                            refine lv_bipush (v := (-71)) S.1 S.2.1 dL_isTold_718 (by decide) ?_
                            refine lv_icmp_ne (tgt := 789) S.1 S.2.1 dL_isTold_720 (by decide) (fun c720_16 => absurd rfl c720_16) (fun _ => ?_)
                            refine lv_aload_n S.1 S.2.1 dL_isTold_723 rfl (lv_at hl 2 rfl) ?_
                            refine lv_aload S.1 S.2.1 dL_isTold_724 (lv_at hl 12 rfl) ?_
                            refine lv_iconst (v := nI 3) S.1 S.2.1 dL_isTold_726 (by decide) ?_
                            refine mj_ild S E hM 9 (by omega) (by show _ < 4; omega) dL_isTold_727 ?_
                            refine mi_top (v' := .int (nI (sC T))) (congrArg Value.int g3) ?_
                            refine lv_iconst (v := nI 0) S.1 S.2.1 dL_isTold_728 (by decide) ?_
                            refine mi_cMi (mi_runSH (P := mj_W D A q T gl ((va_up (va_up gi 7 vv) 8 ff))) (As := [.ref (q 0), .int (nI (sC T)), .int (nI (0))]) (rest := []) S E hS hM (j_coinHeight_x1 l D A hst q hO (lj_tn (by omega) (by omega))) mw_657 mw_655 mw_656 mw_17 ⟨by decide, by decide, by decide +kernel⟩ ⟨rfl, rfl, Nat.le_of_ble_eq_true rfl, Nat.le_of_ble_eq_true rfl⟩ (n := 3) rfl hl.1 rfl (Nat.le_of_ble_eq_true rfl) dL_isTold_729 ⟨(by show _ ≤ (60 : Nat); omega), (by show _ ≤ (360 : Nat); omega)⟩) hS (fun r9 H locs hp9 hS hz9 => ?_)
                            obtain ⟨e9, hM⟩ := hp9
                            refine mi_top (v' := .int (-71)) (by rw [e9]) ?_
                            refine lv_bipush (v := (-71)) S.1 S.2.1 dL_isTold_732 (by decide) ?_
                            refine lv_icmp_ne (tgt := 789) S.1 S.2.1 dL_isTold_734 (by decide) (fun c734_17 => absurd rfl c734_17) (fun _ => ?_)
                            refine lv_aload_n S.1 S.2.1 dL_isTold_737 rfl (lv_at hl 2 rfl) ?_
                            refine lv_aload S.1 S.2.1 dL_isTold_738 (lv_at hl 12 rfl) ?_
                            refine lv_iconst (v := nI 3) S.1 S.2.1 dL_isTold_740 (by decide) ?_
                            refine mj_ild S E hM 9 (by omega) (by show _ < 4; omega) dL_isTold_741 ?_
                            refine mi_top (v' := .int (nI (sC T))) (congrArg Value.int g3) ?_
                            refine mi_cMi (mi_runSH (P := mj_W D A q T gl ((va_up (va_up gi 7 vv) 8 ff))) (As := [.ref (q 0), .int (nI (sC T))]) (rest := []) S E hS hM (j_grade_x1 l D A hst q hO (lj_tn (by omega) (by omega))) mw_664 mw_662 mw_663 mw_17 ⟨by decide, by decide, by decide +kernel⟩ ⟨rfl, rfl, Nat.le_of_ble_eq_true rfl, Nat.le_of_ble_eq_true rfl⟩ (n := 2) rfl hl.1 rfl (Nat.le_of_ble_eq_true rfl) dL_isTold_742 ⟨(by show _ ≤ (60 : Nat); omega), (by show _ ≤ (360 : Nat); omega)⟩) hS (fun r9 H locs hp9 hS hz9 => ?_)
                            obtain ⟨e9, hM⟩ := hp9
                            refine mi_top (v' := .int (-71)) (by rw [e9]) ?_
                            refine lv_bipush (v := (-71)) S.1 S.2.1 dL_isTold_745 (by decide) ?_
                            refine lv_icmp_ne (tgt := 789) S.1 S.2.1 dL_isTold_747 (by decide) (fun c747_18 => absurd rfl c747_18) (fun _ => ?_)
                            refine lv_aload_n S.1 S.2.1 dL_isTold_750 rfl (lv_at hl 2 rfl) ?_
                            refine lv_iconst (v := (-1)) S.1 S.2.1 dL_isTold_751 (by decide) ?_
                            refine mi_cMi (mi_runSH (P := mj_W D A q T gl ((va_up (va_up gi 7 vv) 8 ff))) (As := [.ref (q 0), .int (-1)]) (rest := []) S E hS hM (j_grade_x1 l D A hst q hO lj_m1) mw_664 mw_662 mw_663 mw_17 ⟨by decide, by decide, by decide +kernel⟩ ⟨rfl, rfl, Nat.le_of_ble_eq_true rfl, Nat.le_of_ble_eq_true rfl⟩ (n := 2) rfl hl.1 rfl (Nat.le_of_ble_eq_true rfl) dL_isTold_752 ⟨(by show _ ≤ (60 : Nat); omega), (by show _ ≤ (360 : Nat); omega)⟩) hS (fun r9 H locs hp9 hS hz9 => ?_)
                            obtain ⟨e9, hM⟩ := hp9
                            refine mi_top (v' := .int (-71)) (by rw [e9]) ?_
                            refine lv_bipush (v := (-71)) S.1 S.2.1 dL_isTold_755 (by decide) ?_
                            refine lv_icmp_ne (tgt := 789) S.1 S.2.1 dL_isTold_757 (by decide) (fun c757_19 => absurd rfl c757_19) (fun _ => ?_)
                            refine lv_aload_n S.1 S.2.1 dL_isTold_760 rfl (lv_at hl 2 rfl) ?_
                            refine lv_iconst (v := nI 0) S.1 S.2.1 dL_isTold_761 (by decide) ?_
                            refine lv_aload S.1 S.2.1 dL_isTold_762 (lv_at hl 12 rfl) ?_
                            refine lv_iconst (v := nI 3) S.1 S.2.1 dL_isTold_764 (by decide) ?_
                            refine mj_ild S E hM 9 (by omega) (by show _ < 4; omega) dL_isTold_765 ?_
                            refine mi_top (v' := .int (nI (sC T))) (congrArg Value.int g3) ?_
                            refine mi_cMi (mi_runSH (P := mj_W D A q T gl ((va_up (va_up gi 7 vv) 8 ff))) (As := [.ref (q 0), .int (nI (0)), .int (nI (sC T))]) (rest := []) S E hS hM (j_distance_0 l D A hst q hO rfl) mw_682 mw_680 mw_681 mw_17 ⟨by decide, by decide, by decide +kernel⟩ ⟨rfl, rfl, Nat.le_of_ble_eq_true rfl, Nat.le_of_ble_eq_true rfl⟩ (n := 3) rfl hl.1 rfl (Nat.le_of_ble_eq_true rfl) dL_isTold_766 ⟨(by show _ ≤ (60 : Nat); omega), (by show _ ≤ (360 : Nat); omega)⟩) hS (fun r9 H locs hp9 hS hz9 => ?_)
                            obtain ⟨e9, hM⟩ := hp9
                            refine mi_top (v' := .int (-71)) (by rw [e9]) ?_
                            refine lv_bipush (v := (-71)) S.1 S.2.1 dL_isTold_769 (by decide) ?_
                            refine lv_icmp_ne (tgt := 789) S.1 S.2.1 dL_isTold_771 (by decide) (fun c771_20 => absurd rfl c771_20) (fun _ => ?_)
                            refine lv_aload_n S.1 S.2.1 dL_isTold_774 rfl (lv_at hl 2 rfl) ?_
                            refine lv_iconst (v := (-1)) S.1 S.2.1 dL_isTold_775 (by decide) ?_
                            refine lv_iconst (v := nI 0) S.1 S.2.1 dL_isTold_776 (by decide) ?_
                            refine mi_cMi (mi_runSH (P := mj_W D A q T gl ((va_up (va_up gi 7 vv) 8 ff))) (As := [.ref (q 0), .int (-1), .int (nI (0))]) (rest := []) S E hS hM (j_distance_x1 l D A hst q hO lj_m1) mw_682 mw_680 mw_681 mw_17 ⟨by decide, by decide, by decide +kernel⟩ ⟨rfl, rfl, Nat.le_of_ble_eq_true rfl, Nat.le_of_ble_eq_true rfl⟩ (n := 3) rfl hl.1 rfl (Nat.le_of_ble_eq_true rfl) dL_isTold_777 ⟨(by show _ ≤ (60 : Nat); omega), (by show _ ≤ (360 : Nat); omega)⟩) hS (fun r9 H locs hp9 hS hz9 => ?_)
                            obtain ⟨e9, hM⟩ := hp9
                            refine mi_top (v' := .int (-71)) (by rw [e9]) ?_
                            refine lv_bipush (v := (-71)) S.1 S.2.1 dL_isTold_780 (by decide) ?_
                            refine lv_icmp_ne (tgt := 789) S.1 S.2.1 dL_isTold_782 (by decide) (fun c782_21 => absurd rfl c782_21) (fun _ => ?_)
                            refine lv_iconst (v := nI 1) S.1 S.2.1 dL_isTold_785 (by decide) ?_
                            refine lv_goto (tgt := 790) S.1 S.2.1 dL_isTold_786 (by decide) ?_
                            exact mi_retMz S hr hk hS dL_isTold_790 rfl (by show _ ≤ (60 : Nat); omega) (by show _ ≤ (360 : Nat); omega) ⟨rfl, T, gl, _, (show lr T gl (va_up (va_up gi 7 vv) 8 ff) from hL), hM⟩
                          · refine lv_iconst (v := nI 0) S.1 S.2.1 dL_isTold_458 (by decide) ?_
                            refine lv_istore (lv' := [(17, .int (nI (0))), (16, .int (nI (cl))), (0, .ref (q 0)), (1, .int (y)), (2, .ref (q 1)), (3, .ref (q 2)), (4, .ref (q 3)), (5, .ref (q 4)), (6, .ref (q 5)), (7, .ref (q 6)), (8, .ref (q 7)), (9, .ref (q 8)), (10, .ref (q 9))]) S.1 S.2.1 dL_isTold_459 hl (by decide) rfl (fun ls hl => ?_)
                            have lp461 : ∀ (n461 : Nat) (jc : Nat) (ls : Array Slot), 3 - jc < n461 → jc ≤ 3 → lv_has ls 21 [(17, .int (nI (jc))), (16, .int (nI (cl))), (0, .ref (q 0)), (1, .int (y)), (2, .ref (q 1)), (3, .ref (q 2)), (4, .ref (q 3)), (5, .ref (q 4)), (6, .ref (q 5)), (7, .ref (q 6)), (8, .ref (q 7)), (9, .ref (q 8)), (10, .ref (q 9))] → W p l e (mi_rq 10 60 360) s m ([.ref (q 0), .int (y), .ref (q 1), .ref (q 2), .ref (q 3), .ref (q 4), .ref (q 5), .ref (q 6), .ref (q 7), .ref (q 8), .ref (q 9)] : List Value).toArray below meth c H locs (32 + jd) (192 + 6 * jd) (MQ below (mi_Qi A (fun r H => r = nI 1 ∧ mj_I D A q H)) ([.ref (q 0), .int (y), .ref (q 1), .ref (q 2), .ref (q 3), .ref (q 4), .ref (q 5), .ref (q 6), .ref (q 7), .ref (q 8), .ref (q 9)] : List Value).toArray s 60 360 A) (F0 m 461 ls []) := by
                              intro n461
                              induction n461 with
                              | zero => intro jc ls hm hjc  hl; exact absurd hm (Nat.not_lt_zero _)
                              | succ n461 ih461 =>
                                intro jc ls hm hjc  hl
                                refine lv_iload S.1 S.2.1 dL_isTold_461 (lv_at hl 0 rfl) ?_
                                refine lv_iconst (v := nI 3) S.1 S.2.1 dL_isTold_463 (by decide) ?_
                                refine mi_icmp_ge (tgt := 638) S (by omega) (by omega) dL_isTold_464 (by decide) (fun c464_22 => ?_) (fun c464_22 => ?_)
                                · refine lv_aload_n S.1 S.2.1 dL_isTold_638 rfl (lv_at hl 2 rfl) ?_
                                  refine mi_cR (mi_runV (P := mj_W D A q T gl ((va_up (va_up gi 7 vv) 8 ff))) (As := []) (rest := []) S E hS hM (q 0) (j_state l D A hst q hO) (hM.recv E) mw_690 mw_687 mw_688 mw_689 mw_18 ⟨by decide, by decide, by decide +kernel⟩ ⟨rfl, rfl, Nat.le_of_ble_eq_true rfl, Nat.le_of_ble_eq_true rfl⟩ (n := 0) rfl hl.1 rfl (Nat.le_of_ble_eq_true rfl) dL_isTold_639 ⟨by show _ ≤ (60 : Nat); omega, by show _ ≤ (360 : Nat); omega⟩) (fun r9 e9 => ?_)
                                  subst e9
                                  refine lv_aload S.1 S.2.1 dL_isTold_642 (lv_at hl 12 rfl) ?_
                                  refine lv_iconst (v := nI 0) S.1 S.2.1 dL_isTold_644 (by decide) ?_
                                  refine mj_ild S E hM 9 (by omega) (by show _ < 4; omega) dL_isTold_645 ?_
                                  refine mi_top (v' := .int (nI (sW T))) (congrArg Value.int g0) ?_
                                  refine mi_icmp_ne (tgt := 789) S (by omega) (by omega) dL_isTold_646 (by decide) (fun c646_23 => by exfalso; omega) (fun c646_23 => ?_)
                                  refine lv_aload_n S.1 S.2.1 dL_isTold_649 rfl (lv_at hl 2 rfl) ?_
                                  refine mi_cR (mi_runV (P := mj_W D A q T gl ((va_up (va_up gi 7 vv) 8 ff))) (As := []) (rest := []) S E hS hM (q 0) (j_states l D A hst q hO) (hM.recv E) mw_344 mw_341 mw_342 mw_343 mw_18 ⟨by decide, by decide, by decide +kernel⟩ ⟨rfl, rfl, Nat.le_of_ble_eq_true rfl, Nat.le_of_ble_eq_true rfl⟩ (n := 0) rfl hl.1 rfl (Nat.le_of_ble_eq_true rfl) dL_isTold_650 ⟨by show _ ≤ (60 : Nat); omega, by show _ ≤ (360 : Nat); omega⟩) (fun r9 e9 => ?_)
                                  subst e9
                                  refine lv_aload S.1 S.2.1 dL_isTold_653 (lv_at hl 12 rfl) ?_
                                  refine lv_iconst (v := nI 1) S.1 S.2.1 dL_isTold_655 (by decide) ?_
                                  refine mj_ild S E hM 9 (by omega) (by show _ < 4; omega) dL_isTold_656 ?_
                                  refine mi_top (v' := .int (nI (sN T))) (congrArg Value.int g1) ?_
                                  refine mi_icmp_ne (tgt := 789) S (by omega) (by omega) dL_isTold_657 (by decide) (fun c657_24 => by exfalso; omega) (fun c657_24 => ?_)
                                  refine lv_aload_n S.1 S.2.1 dL_isTold_660 rfl (lv_at hl 2 rfl) ?_
                                  refine lv_bipush (v := nI 16) S.1 S.2.1 dL_isTold_661 (by decide) ?_
                                  refine lv_iconst (v := nI 0) S.1 S.2.1 dL_isTold_663 (by decide) ?_
                                  refine mi_cMi (mi_runSH (P := mj_W D A q T gl ((va_up (va_up gi 7 vv) 8 ff))) (As := [.ref (q 0), .int (nI (16)), .int (nI (0))]) (rest := []) S E hS hM (j_kind_x1 l D A hst q hO (by decide)) mw_583 mw_581 mw_582 mw_17 ⟨by decide, by decide, by decide +kernel⟩ ⟨rfl, rfl, Nat.le_of_ble_eq_true rfl, Nat.le_of_ble_eq_true rfl⟩ (n := 3) rfl hl.1 rfl (Nat.le_of_ble_eq_true rfl) dL_isTold_664 ⟨(by show _ ≤ (60 : Nat); omega), (by show _ ≤ (360 : Nat); omega)⟩) hS (fun r9 H locs hp9 hS hz9 => ?_)
                                  obtain ⟨e9, hM⟩ := hp9
                                  refine mi_top (v' := .int (-71)) (by rw [e9]) ?_
                                  refine lv_bipush (v := (-71)) S.1 S.2.1 dL_isTold_667 (by decide) ?_
                                  refine lv_icmp_ne (tgt := 789) S.1 S.2.1 dL_isTold_669 (by decide) (fun c669_25 => absurd rfl c669_25) (fun _ => ?_)
                                  refine lv_aload_n S.1 S.2.1 dL_isTold_672 rfl (lv_at hl 2 rfl) ?_
                                  refine lv_iconst (v := nI 0) S.1 S.2.1 dL_isTold_673 (by decide) ?_
                                  refine lv_bipush (v := nI 8) S.1 S.2.1 dL_isTold_674 (by decide) ?_
                                  refine mi_cMi (mi_runSH (P := mj_W D A q T gl ((va_up (va_up gi 7 vv) 8 ff))) (As := [.ref (q 0), .int (nI (0)), .int (nI (8))]) (rest := []) S E hS hM (j_kind_x2 l D A hst q hO (by omega) (by decide)) mw_583 mw_581 mw_582 mw_17 ⟨by decide, by decide, by decide +kernel⟩ ⟨rfl, rfl, Nat.le_of_ble_eq_true rfl, Nat.le_of_ble_eq_true rfl⟩ (n := 3) rfl hl.1 rfl (Nat.le_of_ble_eq_true rfl) dL_isTold_676 ⟨(by show _ ≤ (60 : Nat); omega), (by show _ ≤ (360 : Nat); omega)⟩) hS (fun r9 H locs hp9 hS hz9 => ?_)
                                  obtain ⟨e9, hM⟩ := hp9
                                  refine mi_top (v' := .int (-71)) (by rw [e9]) ?_
                                  refine lv_bipush (v := (-71)) S.1 S.2.1 dL_isTold_679 (by decide) ?_
                                  refine lv_icmp_ne (tgt := 789) S.1 S.2.1 dL_isTold_681 (by decide) (fun c681_26 => absurd rfl c681_26) (fun _ => ?_)
                                  refine lv_aload_n S.1 S.2.1 dL_isTold_684 rfl (lv_at hl 2 rfl) ?_
                                  refine lv_aload S.1 S.2.1 dL_isTold_685 (lv_at hl 12 rfl) ?_
                                  refine lv_iconst (v := nI 1) S.1 S.2.1 dL_isTold_687 (by decide) ?_
                                  refine mj_ild S E hM 9 (by omega) (by show _ < 4; omega) dL_isTold_688 ?_
                                  refine mi_top (v' := .int (nI (sN T))) (congrArg Value.int g1) ?_
                                  refine lv_iconst (v := nI 0) S.1 S.2.1 dL_isTold_689 (by decide) ?_
                                  refine mi_cMi (mi_runSH (P := mj_W D A q T gl ((va_up (va_up gi 7 vv) 8 ff))) (As := [.ref (q 0), .int (nI (sN T)), .int (nI (0))]) (rest := []) S E hS hM (j_unlike_x1 l D A hst q hO (lj_tn (by omega) (by omega))) mw_636 mw_634 mw_635 mw_17 ⟨by decide, by decide, by decide +kernel⟩ ⟨rfl, rfl, Nat.le_of_ble_eq_true rfl, Nat.le_of_ble_eq_true rfl⟩ (n := 3) rfl hl.1 rfl (Nat.le_of_ble_eq_true rfl) dL_isTold_690 ⟨(by show _ ≤ (60 : Nat); omega), (by show _ ≤ (360 : Nat); omega)⟩) hS (fun r9 H locs hp9 hS hz9 => ?_)
                                  obtain ⟨e9, hM⟩ := hp9
                                  refine mi_top (v' := .int (-71)) (by rw [e9]) ?_
                                  refine lv_bipush (v := (-71)) S.1 S.2.1 dL_isTold_693 (by decide) ?_
                                  refine lv_icmp_ne (tgt := 789) S.1 S.2.1 dL_isTold_695 (by decide) (fun c695_27 => absurd rfl c695_27) (fun _ => ?_)
                                  refine lv_aload_n S.1 S.2.1 dL_isTold_698 rfl (lv_at hl 2 rfl) ?_
                                  refine lv_iconst (v := nI 0) S.1 S.2.1 dL_isTold_699 (by decide) ?_
                                  refine lv_iconst (v := (-1)) S.1 S.2.1 dL_isTold_700 (by decide) ?_
                                  refine mi_cMi (mi_runSH (P := mj_W D A q T gl ((va_up (va_up gi 7 vv) 8 ff))) (As := [.ref (q 0), .int (nI (0)), .int (-1)]) (rest := []) S E hS hM (j_unlike_x2 l D A hst q hO (by omega) lj_m1) mw_636 mw_634 mw_635 mw_17 ⟨by decide, by decide, by decide +kernel⟩ ⟨rfl, rfl, Nat.le_of_ble_eq_true rfl, Nat.le_of_ble_eq_true rfl⟩ (n := 3) rfl hl.1 rfl (Nat.le_of_ble_eq_true rfl) dL_isTold_701 ⟨(by show _ ≤ (60 : Nat); omega), (by show _ ≤ (360 : Nat); omega)⟩) hS (fun r9 H locs hp9 hS hz9 => ?_)
                                  obtain ⟨e9, hM⟩ := hp9
                                  refine mi_top (v' := .int (-71)) (by rw [e9]) ?_
                                  refine lv_bipush (v := (-71)) S.1 S.2.1 dL_isTold_704 (by decide) ?_
                                  refine lv_icmp_ne (tgt := 789) S.1 S.2.1 dL_isTold_706 (by decide) (fun c706_28 => absurd rfl c706_28) (fun _ => ?_)
                                  refine lv_aload_n S.1 S.2.1 dL_isTold_709 rfl (lv_at hl 2 rfl) ?_
                                  refine lv_aload S.1 S.2.1 dL_isTold_710 (lv_at hl 12 rfl) ?_
                                  refine lv_iconst (v := nI 2) S.1 S.2.1 dL_isTold_712 (by decide) ?_
                                  refine mj_ild S E hM 9 (by omega) (by show _ < 4; omega) dL_isTold_713 ?_
                                  refine mi_top (v' := .int (nI (sD T))) (congrArg Value.int g2) ?_
                                  refine lv_iconst (v := nI 0) S.1 S.2.1 dL_isTold_714 (by decide) ?_
                                  refine mi_cMi (mi_runSH (P := mj_W D A q T gl ((va_up (va_up gi 7 vv) 8 ff))) (As := [.ref (q 0), .int (nI (sD T)), .int (nI (0))]) (rest := []) S E hS hM (j_dieHeight_x1 l D A hst q hO (lj_tn (by omega) (by omega))) mw_647 mw_645 mw_646 mw_17 ⟨by decide, by decide, by decide +kernel⟩ ⟨rfl, rfl, Nat.le_of_ble_eq_true rfl, Nat.le_of_ble_eq_true rfl⟩ (n := 3) rfl hl.1 rfl (Nat.le_of_ble_eq_true rfl) dL_isTold_715 ⟨(by show _ ≤ (60 : Nat); omega), (by show _ ≤ (360 : Nat); omega)⟩) hS (fun r9 H locs hp9 hS hz9 => ?_)
                                  obtain ⟨e9, hM⟩ := hp9
                                  refine mi_top (v' := .int (-71)) (by rw [e9]) ?_
                                  refine lv_bipush (v := (-71)) S.1 S.2.1 dL_isTold_718 (by decide) ?_
                                  refine lv_icmp_ne (tgt := 789) S.1 S.2.1 dL_isTold_720 (by decide) (fun c720_29 => absurd rfl c720_29) (fun _ => ?_)
                                  refine lv_aload_n S.1 S.2.1 dL_isTold_723 rfl (lv_at hl 2 rfl) ?_
                                  refine lv_aload S.1 S.2.1 dL_isTold_724 (lv_at hl 12 rfl) ?_
                                  refine lv_iconst (v := nI 3) S.1 S.2.1 dL_isTold_726 (by decide) ?_
                                  refine mj_ild S E hM 9 (by omega) (by show _ < 4; omega) dL_isTold_727 ?_
                                  refine mi_top (v' := .int (nI (sC T))) (congrArg Value.int g3) ?_
                                  refine lv_iconst (v := nI 0) S.1 S.2.1 dL_isTold_728 (by decide) ?_
                                  refine mi_cMi (mi_runSH (P := mj_W D A q T gl ((va_up (va_up gi 7 vv) 8 ff))) (As := [.ref (q 0), .int (nI (sC T)), .int (nI (0))]) (rest := []) S E hS hM (j_coinHeight_x1 l D A hst q hO (lj_tn (by omega) (by omega))) mw_657 mw_655 mw_656 mw_17 ⟨by decide, by decide, by decide +kernel⟩ ⟨rfl, rfl, Nat.le_of_ble_eq_true rfl, Nat.le_of_ble_eq_true rfl⟩ (n := 3) rfl hl.1 rfl (Nat.le_of_ble_eq_true rfl) dL_isTold_729 ⟨(by show _ ≤ (60 : Nat); omega), (by show _ ≤ (360 : Nat); omega)⟩) hS (fun r9 H locs hp9 hS hz9 => ?_)
                                  obtain ⟨e9, hM⟩ := hp9
                                  refine mi_top (v' := .int (-71)) (by rw [e9]) ?_
                                  refine lv_bipush (v := (-71)) S.1 S.2.1 dL_isTold_732 (by decide) ?_
                                  refine lv_icmp_ne (tgt := 789) S.1 S.2.1 dL_isTold_734 (by decide) (fun c734_30 => absurd rfl c734_30) (fun _ => ?_)
                                  refine lv_aload_n S.1 S.2.1 dL_isTold_737 rfl (lv_at hl 2 rfl) ?_
                                  refine lv_aload S.1 S.2.1 dL_isTold_738 (lv_at hl 12 rfl) ?_
                                  refine lv_iconst (v := nI 3) S.1 S.2.1 dL_isTold_740 (by decide) ?_
                                  refine mj_ild S E hM 9 (by omega) (by show _ < 4; omega) dL_isTold_741 ?_
                                  refine mi_top (v' := .int (nI (sC T))) (congrArg Value.int g3) ?_
                                  refine mi_cMi (mi_runSH (P := mj_W D A q T gl ((va_up (va_up gi 7 vv) 8 ff))) (As := [.ref (q 0), .int (nI (sC T))]) (rest := []) S E hS hM (j_grade_x1 l D A hst q hO (lj_tn (by omega) (by omega))) mw_664 mw_662 mw_663 mw_17 ⟨by decide, by decide, by decide +kernel⟩ ⟨rfl, rfl, Nat.le_of_ble_eq_true rfl, Nat.le_of_ble_eq_true rfl⟩ (n := 2) rfl hl.1 rfl (Nat.le_of_ble_eq_true rfl) dL_isTold_742 ⟨(by show _ ≤ (60 : Nat); omega), (by show _ ≤ (360 : Nat); omega)⟩) hS (fun r9 H locs hp9 hS hz9 => ?_)
                                  obtain ⟨e9, hM⟩ := hp9
                                  refine mi_top (v' := .int (-71)) (by rw [e9]) ?_
                                  refine lv_bipush (v := (-71)) S.1 S.2.1 dL_isTold_745 (by decide) ?_
                                  refine lv_icmp_ne (tgt := 789) S.1 S.2.1 dL_isTold_747 (by decide) (fun c747_31 => absurd rfl c747_31) (fun _ => ?_)
                                  refine lv_aload_n S.1 S.2.1 dL_isTold_750 rfl (lv_at hl 2 rfl) ?_
                                  refine lv_iconst (v := (-1)) S.1 S.2.1 dL_isTold_751 (by decide) ?_
                                  refine mi_cMi (mi_runSH (P := mj_W D A q T gl ((va_up (va_up gi 7 vv) 8 ff))) (As := [.ref (q 0), .int (-1)]) (rest := []) S E hS hM (j_grade_x1 l D A hst q hO lj_m1) mw_664 mw_662 mw_663 mw_17 ⟨by decide, by decide, by decide +kernel⟩ ⟨rfl, rfl, Nat.le_of_ble_eq_true rfl, Nat.le_of_ble_eq_true rfl⟩ (n := 2) rfl hl.1 rfl (Nat.le_of_ble_eq_true rfl) dL_isTold_752 ⟨(by show _ ≤ (60 : Nat); omega), (by show _ ≤ (360 : Nat); omega)⟩) hS (fun r9 H locs hp9 hS hz9 => ?_)
                                  obtain ⟨e9, hM⟩ := hp9
                                  refine mi_top (v' := .int (-71)) (by rw [e9]) ?_
                                  refine lv_bipush (v := (-71)) S.1 S.2.1 dL_isTold_755 (by decide) ?_
                                  refine lv_icmp_ne (tgt := 789) S.1 S.2.1 dL_isTold_757 (by decide) (fun c757_32 => absurd rfl c757_32) (fun _ => ?_)
                                  refine lv_aload_n S.1 S.2.1 dL_isTold_760 rfl (lv_at hl 2 rfl) ?_
                                  refine lv_iconst (v := nI 0) S.1 S.2.1 dL_isTold_761 (by decide) ?_
                                  refine lv_aload S.1 S.2.1 dL_isTold_762 (lv_at hl 12 rfl) ?_
                                  refine lv_iconst (v := nI 3) S.1 S.2.1 dL_isTold_764 (by decide) ?_
                                  refine mj_ild S E hM 9 (by omega) (by show _ < 4; omega) dL_isTold_765 ?_
                                  refine mi_top (v' := .int (nI (sC T))) (congrArg Value.int g3) ?_
                                  refine mi_cMi (mi_runSH (P := mj_W D A q T gl ((va_up (va_up gi 7 vv) 8 ff))) (As := [.ref (q 0), .int (nI (0)), .int (nI (sC T))]) (rest := []) S E hS hM (j_distance_0 l D A hst q hO rfl) mw_682 mw_680 mw_681 mw_17 ⟨by decide, by decide, by decide +kernel⟩ ⟨rfl, rfl, Nat.le_of_ble_eq_true rfl, Nat.le_of_ble_eq_true rfl⟩ (n := 3) rfl hl.1 rfl (Nat.le_of_ble_eq_true rfl) dL_isTold_766 ⟨(by show _ ≤ (60 : Nat); omega), (by show _ ≤ (360 : Nat); omega)⟩) hS (fun r9 H locs hp9 hS hz9 => ?_)
                                  obtain ⟨e9, hM⟩ := hp9
                                  refine mi_top (v' := .int (-71)) (by rw [e9]) ?_
                                  refine lv_bipush (v := (-71)) S.1 S.2.1 dL_isTold_769 (by decide) ?_
                                  refine lv_icmp_ne (tgt := 789) S.1 S.2.1 dL_isTold_771 (by decide) (fun c771_33 => absurd rfl c771_33) (fun _ => ?_)
                                  refine lv_aload_n S.1 S.2.1 dL_isTold_774 rfl (lv_at hl 2 rfl) ?_
                                  refine lv_iconst (v := (-1)) S.1 S.2.1 dL_isTold_775 (by decide) ?_
                                  refine lv_iconst (v := nI 0) S.1 S.2.1 dL_isTold_776 (by decide) ?_
                                  refine mi_cMi (mi_runSH (P := mj_W D A q T gl ((va_up (va_up gi 7 vv) 8 ff))) (As := [.ref (q 0), .int (-1), .int (nI (0))]) (rest := []) S E hS hM (j_distance_x1 l D A hst q hO lj_m1) mw_682 mw_680 mw_681 mw_17 ⟨by decide, by decide, by decide +kernel⟩ ⟨rfl, rfl, Nat.le_of_ble_eq_true rfl, Nat.le_of_ble_eq_true rfl⟩ (n := 3) rfl hl.1 rfl (Nat.le_of_ble_eq_true rfl) dL_isTold_777 ⟨(by show _ ≤ (60 : Nat); omega), (by show _ ≤ (360 : Nat); omega)⟩) hS (fun r9 H locs hp9 hS hz9 => ?_)
                                  obtain ⟨e9, hM⟩ := hp9
                                  refine mi_top (v' := .int (-71)) (by rw [e9]) ?_
                                  refine lv_bipush (v := (-71)) S.1 S.2.1 dL_isTold_780 (by decide) ?_
                                  refine lv_icmp_ne (tgt := 789) S.1 S.2.1 dL_isTold_782 (by decide) (fun c782_34 => absurd rfl c782_34) (fun _ => ?_)
                                  refine lv_iconst (v := nI 1) S.1 S.2.1 dL_isTold_785 (by decide) ?_
                                  refine lv_goto (tgt := 790) S.1 S.2.1 dL_isTold_786 (by decide) ?_
                                  exact mi_retMz S hr hk hS dL_isTold_790 rfl (by show _ ≤ (60 : Nat); omega) (by show _ ≤ (360 : Nat); omega) ⟨rfl, T, gl, _, (show lr T gl (va_up (va_up gi 7 vv) 8 ff) from hL), hM⟩
                                · refine lv_iload_n S.1 S.2.1 dL_isTold_467 rfl (lv_at hl 3 rfl) ?_
                                  refine lv_iload S.1 S.2.1 dL_isTold_468 (lv_at hl 0 rfl) ?_
                                  refine lv_ishr S.1 S.2.1 dL_isTold_470 ?_
                                  refine lv_aload S.1 S.2.1 dL_isTold_471 (lv_at hl 12 rfl) ?_
                                  refine lv_iconst (v := nI 3) S.1 S.2.1 dL_isTold_473 (by decide) ?_
                                  refine mj_ild S E hM 9 (by omega) (by show _ < 4; omega) dL_isTold_474 ?_
                                  refine mi_top (v' := .int (nI (sC T))) (congrArg Value.int g3) ?_
                                  refine mi_cR (mi_runS (P := mj_W D A q T gl ((va_up (va_up gi 7 vv) 8 ff))) (As := [.int (y >>> ((nI (jc)) &&& 31)), .int (nI (sC T))]) (rest := []) S E hS hM (c_Llow l D A (mj_W D A q T gl ((va_up (va_up gi 7 vv) 8 ff))) (by omega) (by omega)) mw_186 mw_184 mw_185 mw_17 ⟨by decide, by decide, by decide +kernel⟩ ⟨rfl, rfl, Nat.le_of_ble_eq_true rfl, Nat.le_of_ble_eq_true rfl⟩ (n := 2) rfl hl.1 rfl (Nat.le_of_ble_eq_true rfl) dL_isTold_475 ⟨by show _ ≤ (60 : Nat); omega, by show _ ≤ (360 : Nat); omega⟩) (fun r9 e9 => ?_)
                                  obtain ⟨co, hco, rfl⟩ := e9
                                  refine lv_istore (lv' := [(18, .int (nI (co))), (17, .int (nI (jc))), (16, .int (nI (cl))), (0, .ref (q 0)), (1, .int (y)), (2, .ref (q 1)), (3, .ref (q 2)), (4, .ref (q 3)), (5, .ref (q 4)), (6, .ref (q 5)), (7, .ref (q 6)), (8, .ref (q 7)), (9, .ref (q 8)), (10, .ref (q 9))]) S.1 S.2.1 dL_isTold_478 hl (by decide) rfl (fun ls hl => ?_)
                                  refine lv_iload_n S.1 S.2.1 dL_isTold_480 rfl (lv_at hl 4 rfl) ?_
                                  refine lv_iconst (v := nI 5) S.1 S.2.1 dL_isTold_481 (by decide) ?_
                                  refine lv_ishr S.1 S.2.1 dL_isTold_482 ?_
                                  refine lv_aload S.1 S.2.1 dL_isTold_483 (lv_at hl 13 rfl) ?_
                                  refine lv_iconst (v := nI 3) S.1 S.2.1 dL_isTold_485 (by decide) ?_
                                  refine mj_ild S E hM 9 (by omega) (by show _ < 4; omega) dL_isTold_486 ?_
                                  refine mi_top (v' := .int (nI (sC T))) (congrArg Value.int g3) ?_
                                  refine mi_cR (mi_runS (P := mj_W D A q T gl ((va_up (va_up gi 7 vv) 8 ff))) (As := [.int (y >>> ((nI (5)) &&& 31)), .int (nI (sC T))]) (rest := []) S E hS hM (c_Llow l D A (mj_W D A q T gl ((va_up (va_up gi 7 vv) 8 ff))) (by omega) (by omega)) mw_186 mw_184 mw_185 mw_17 ⟨by decide, by decide, by decide +kernel⟩ ⟨rfl, rfl, Nat.le_of_ble_eq_true rfl, Nat.le_of_ble_eq_true rfl⟩ (n := 2) rfl hl.1 rfl (Nat.le_of_ble_eq_true rfl) dL_isTold_487 ⟨by show _ ≤ (60 : Nat); omega, by show _ ≤ (360 : Nat); omega⟩) (fun r9 e9 => ?_)
                                  obtain ⟨la, hla, rfl⟩ := e9
                                  refine lv_istore (lv' := [(19, .int (nI (la))), (18, .int (nI (co))), (17, .int (nI (jc))), (16, .int (nI (cl))), (0, .ref (q 0)), (1, .int (y)), (2, .ref (q 1)), (3, .ref (q 2)), (4, .ref (q 3)), (5, .ref (q 4)), (6, .ref (q 5)), (7, .ref (q 6)), (8, .ref (q 7)), (9, .ref (q 8)), (10, .ref (q 9))]) S.1 S.2.1 dL_isTold_490 hl (by decide) rfl (fun ls hl => ?_)
                                  have hI1 := oI co hco
                                  have hxb := oX (sCd T co) hI1.1
                                  refine lv_aload S.1 S.2.1 dL_isTold_492 (lv_at hl 9 rfl) ?_
                                  refine lv_iload S.1 S.2.1 dL_isTold_494 (lv_at hl 1 rfl) ?_
                                  refine mj_lld S E hM 4 (by omega) (by show _ < 60; omega) dL_isTold_496 ?_
                                  refine lv_aload S.1 S.2.1 dL_isTold_497 (lv_at hl 8 rfl) ?_
                                  refine lv_aload S.1 S.2.1 dL_isTold_499 (lv_at hl 11 rfl) ?_
                                  refine lv_iload S.1 S.2.1 dL_isTold_501 (lv_at hl 1 rfl) ?_
                                  refine mj_ild S E hM 6 (by omega) (by show _ < 60; omega) dL_isTold_503 ?_
                                  refine mi_top (v' := .int (nI (sCd T co + 8 * sCn T co))) (congrArg Value.int (hc9 co hco).2) ?_
                                  refine lv_bipush (v := nI 8) S.1 S.2.1 dL_isTold_504 (by decide) ?_
                                  refine mi_irem S (by omega) (by omega) (by omega) dL_isTold_506 ?_
                                  refine mi_top (v' := .int (nI (sCd T co))) (by rw [show (sCd T co + 8 * sCn T co) % 8 = sCd T co by omega]) ?_
                                  refine mj_lld S E hM 3 (by omega) (by show _ < 8; omega) dL_isTold_507 ?_
                                  refine mi_cR (mi_runS (P := mj_W D A q T gl ((va_up (va_up gi 7 vv) 8 ff))) (As := [.long (gl 4 co), .long (gl 3 (sCd T co))]) (rest := []) S E hS hM (c_Lfar l D A (mj_W D A q T gl ((va_up (va_up gi 7 vv) 8 ff))) (hc9 co hco).1 (hd9 (sCd T co) hI1.1).1 (fun c1 h1 => oC co c1 hco h1) (fun c1 h1 => (oD (sCd T co) c1 hI1.1 h1).1)) mw_654 mw_652 mw_653 mw_17 ⟨by decide, by decide, by decide +kernel⟩ ⟨rfl, rfl, Nat.le_of_ble_eq_true rfl, Nat.le_of_ble_eq_true rfl⟩ (n := 2) rfl hl.1 rfl (Nat.le_of_ble_eq_true rfl) dL_isTold_508 ⟨by show _ ≤ (60 : Nat); omega, by show _ ≤ (360 : Nat); omega⟩) (fun r9 e9 => ?_)
                                  subst e9
                                  have hds : sp_ds (sCh T co) (sF T (sCd T co)) 16 ≤ 8 * 16 := sp_ds_le (fun c1 h1 => oC co c1 hco h1) (fun c1 h1 => (oD (sCd T co) c1 hI1.1 h1).1)
                                  refine lv_istore (lv' := [(20, .int (nI (sp_ds (sCh T co) (sF T (sCd T co)) 16))), (19, .int (nI (la))), (18, .int (nI (co))), (17, .int (nI (jc))), (16, .int (nI (cl))), (0, .ref (q 0)), (1, .int (y)), (2, .ref (q 1)), (3, .ref (q 2)), (4, .ref (q 3)), (5, .ref (q 4)), (6, .ref (q 5)), (7, .ref (q 6)), (8, .ref (q 7)), (9, .ref (q 8)), (10, .ref (q 9))]) S.1 S.2.1 dL_isTold_511 hl (by decide) rfl (fun ls hl => ?_)
                                  refine lv_aload_n S.1 S.2.1 dL_isTold_513 rfl (lv_at hl 5 rfl) ?_
                                  refine lv_iload S.1 S.2.1 dL_isTold_514 (lv_at hl 2 rfl) ?_
                                  refine lv_iload S.1 S.2.1 dL_isTold_516 (lv_at hl 4 rfl) ?_
                                  refine mi_cR (mi_runSH (P := mj_W D A q T gl ((va_up (va_up gi 7 vv) 8 ff))) (As := [.ref (q 0), .int (nI (co)), .int (nI (cl))]) (rest := []) S E hS hM (j_coinHeight l D A hst q hO hco hcl) mw_657 mw_655 mw_656 mw_17 ⟨by decide, by decide, by decide +kernel⟩ ⟨rfl, rfl, Nat.le_of_ble_eq_true rfl, Nat.le_of_ble_eq_true rfl⟩ (n := 3) rfl hl.1 rfl (Nat.le_of_ble_eq_true rfl) dL_isTold_518 ⟨by show _ ≤ (60 : Nat); omega, by show _ ≤ (360 : Nat); omega⟩) (fun r9 e9 => ?_)
                                  subst e9
                                  refine lv_aload S.1 S.2.1 dL_isTold_521 (lv_at hl 10 rfl) ?_
                                  refine lv_iload S.1 S.2.1 dL_isTold_523 (lv_at hl 2 rfl) ?_
                                  refine mj_lld S E hM 4 (by omega) (by show _ < 60; omega) dL_isTold_525 ?_
                                  refine lv_iload S.1 S.2.1 dL_isTold_526 (lv_at hl 4 rfl) ?_
                                  refine mi_cR (mi_runS (P := mj_W D A q T gl ((va_up (va_up gi 7 vv) 8 ff))) (As := [.long (gl 4 co), .int (nI (cl))]) (rest := [.int (nI (sCh T co cl))]) S E hS hM (c_Lat l D A (mj_W D A q T gl ((va_up (va_up gi 7 vv) 8 ff))) (by omega)) mw_560 mw_558 mw_559 mw_17 ⟨by decide, by decide, by decide +kernel⟩ ⟨rfl, rfl, Nat.le_of_ble_eq_true rfl, Nat.le_of_ble_eq_true rfl⟩ (n := 2) rfl hl.1 rfl (Nat.le_of_ble_eq_true rfl) dL_isTold_528 ⟨by show _ ≤ (60 : Nat); omega, by show _ ≤ (360 : Nat); omega⟩) (fun r9 e9 => ?_)
                                  subst e9
                                  refine mi_top (v' := .int (nI (sCh T co cl))) (congrArg Value.int ((hc9 co hco).1 cl hcl)) ?_
                                  have hhb := oC co cl hco hcl
                                  refine mi_icmp_ne (tgt := 630) S (by omega) (by omega) dL_isTold_531 (by decide) (fun c531_35 => by exfalso; omega) (fun c531_35 => ?_)
                                  refine lv_aload_n S.1 S.2.1 dL_isTold_534 rfl (lv_at hl 5 rfl) ?_
                                  refine lv_iload S.1 S.2.1 dL_isTold_535 (lv_at hl 2 rfl) ?_
                                  refine mi_cR (mi_runSH (P := mj_W D A q T gl ((va_up (va_up gi 7 vv) 8 ff))) (As := [.ref (q 0), .int (nI (co))]) (rest := []) S E hS hM (j_grade l D A hst q hO hco) mw_664 mw_662 mw_663 mw_17 ⟨by decide, by decide, by decide +kernel⟩ ⟨rfl, rfl, Nat.le_of_ble_eq_true rfl, Nat.le_of_ble_eq_true rfl⟩ (n := 2) rfl hl.1 rfl (Nat.le_of_ble_eq_true rfl) dL_isTold_537 ⟨by show _ ≤ (60 : Nat); omega, by show _ ≤ (360 : Nat); omega⟩) (fun r9 e9 => ?_)
                                  subst e9
                                  obtain ⟨gd, hgd⟩ : ∃ z, z = (if 20 < sp_ds (sCh T co) (sF T (sCd T co)) 16 then 0 else 100 - 5 * sp_ds (sCh T co) (sF T (sCd T co)) 16) := ⟨_, rfl⟩
                                  refine mi_top (v' := .int (nI gd)) (by rw [hgd]) ?_
                                  have hgb : gd ≤ 100 := by rw [hgd]; split <;> omega
                                  refine lv_iload S.1 S.2.1 dL_isTold_540 (lv_at hl 0 rfl) ?_
                                  refine lv_bipush (v := nI 19) S.1 S.2.1 dL_isTold_542 (by decide) ?_
                                  refine mi_icmp_le (tgt := 551) S (by omega) (by omega) dL_isTold_544 (by decide) (fun c544_36 => ?_) (fun c544_36 => ?_)
                                  · refine lv_bipush (v := nI 100) S.1 S.2.1 dL_isTold_551 (by decide) ?_
                                    refine lv_iconst (v := nI 5) S.1 S.2.1 dL_isTold_553 (by decide) ?_
                                    refine lv_iload S.1 S.2.1 dL_isTold_554 (lv_at hl 0 rfl) ?_
                                    refine mi_imul S dL_isTold_556 ?_
                                    refine mi_isub S (by omega) dL_isTold_557 ?_
                                    have hgr : gd = 100 - 5 * sp_ds (sCh T co) (sF T (sCd T co)) 16 := by rw [hgd]; split <;> omega
                                    refine mi_icmp_ne (tgt := 630) S (by omega) (by omega) dL_isTold_558 (by decide) (fun c558_37 => by exfalso; omega) (fun c558_37 => ?_)
                                    refine lv_aload_n S.1 S.2.1 dL_isTold_561 rfl (lv_at hl 5 rfl) ?_
                                    refine lv_iload S.1 S.2.1 dL_isTold_562 (lv_at hl 2 rfl) ?_
                                    refine mi_cR (mi_runV (P := mj_W D A q T gl ((va_up (va_up gi 7 vv) 8 ff))) (As := [.int (nI (co))]) (rest := []) S E hS hM (q 0) (j_isForged l D A hst q hO hco) (hM.recv E) mw_679 mw_676 mw_677 mw_678 mw_18 ⟨by decide, by decide, by decide +kernel⟩ ⟨rfl, rfl, Nat.le_of_ble_eq_true rfl, Nat.le_of_ble_eq_true rfl⟩ (n := 1) rfl hl.1 rfl (Nat.le_of_ble_eq_true rfl) dL_isTold_564 ⟨by show _ ≤ (60 : Nat); omega, by show _ ≤ (360 : Nat); omega⟩) (fun r9 e9 => ?_)
                                    subst e9
                                    obtain ⟨fg9, hfg⟩ : ∃ z, z = sp_fg (sCh T co) (wn (sF T (sCd T co)) ((sCn T co - 1) / 2)) 16 := ⟨_, rfl⟩
                                    refine mi_top (v' := .int (nI fg9)) (by rw [hfg]) ?_
                                    have hf01 := sp_fg_01 (h := sCh T co) (h' := wn (sF T (sCd T co)) ((sCn T co - 1) / 2)) (n := 16)
                                    rw [← hfg] at hf01
                                    refine lv_aload S.1 S.2.1 dL_isTold_567 (lv_at hl 10 rfl) ?_
                                    refine lv_iload S.1 S.2.1 dL_isTold_569 (lv_at hl 2 rfl) ?_
                                    refine mj_lld S E hM 4 (by omega) (by show _ < 60; omega) dL_isTold_571 ?_
                                    refine lv_aload S.1 S.2.1 dL_isTold_572 (lv_at hl 9 rfl) ?_
                                    refine lv_aload S.1 S.2.1 dL_isTold_574 (lv_at hl 12 rfl) ?_
                                    refine lv_iload S.1 S.2.1 dL_isTold_576 (lv_at hl 2 rfl) ?_
                                    refine mj_ild S E hM 6 (by omega) (by show _ < 60; omega) dL_isTold_578 ?_
                                    refine mi_top (v' := .int (nI (sCd T co + 8 * sCn T co))) (congrArg Value.int (hc9 co hco).2) ?_
                                    refine lv_bipush (v := nI 8) S.1 S.2.1 dL_isTold_579 (by decide) ?_
                                    refine mi_irem S (by omega) (by omega) (by omega) dL_isTold_581 ?_
                                    refine mi_top (v' := .int (nI (sCd T co))) (by rw [show (sCd T co + 8 * sCn T co) % 8 = sCd T co by omega]) ?_
                                    refine mj_lld S E hM 3 (by omega) (by show _ < 8; omega) dL_isTold_582 ?_
                                    refine lv_aload S.1 S.2.1 dL_isTold_583 (lv_at hl 12 rfl) ?_
                                    refine lv_iload S.1 S.2.1 dL_isTold_585 (lv_at hl 2 rfl) ?_
                                    refine mj_ild S E hM 6 (by omega) (by show _ < 60; omega) dL_isTold_587 ?_
                                    refine mi_top (v' := .int (nI (sCd T co + 8 * sCn T co))) (congrArg Value.int (hc9 co hco).2) ?_
                                    refine lv_bipush (v := nI 8) S.1 S.2.1 dL_isTold_588 (by decide) ?_
                                    refine mi_idiv S (by omega) (by omega) (by omega) dL_isTold_590 ?_
                                    refine mi_top (v' := .int (nI (sCn T co))) (by rw [show (sCd T co + 8 * sCn T co) / 8 = sCn T co by omega]) ?_
                                    refine mi_cL (mi_runS (P := mj_W D A q T gl ((va_up (va_up gi 7 vv) 8 ff))) (As := [.long (gl 3 (sCd T co)), .int (nI (sCn T co))]) (rest := [.long (gl 4 co), .int (nI (fg9))]) S E hS hM (c_Lworn l D A (mj_W D A q T gl ((va_up (va_up gi 7 vv) 8 ff))) (hd9 (sCd T co) hI1.1).1 (fun c1 h1 => (oD (sCd T co) c1 hI1.1 h1).1) hI1.2.1 (by omega)) mw_557 mw_555 mw_556 mw_17 ⟨by decide, by decide, by decide +kernel⟩ ⟨rfl, rfl, Nat.le_of_ble_eq_true rfl, Nat.le_of_ble_eq_true rfl⟩ (n := 2) rfl hl.1 rfl (Nat.le_of_ble_eq_true rfl) dL_isTold_591 ⟨by show _ ≤ (60 : Nat); omega, by show _ ≤ (360 : Nat); omega⟩) (fun rw9 hW9 => ?_)
                                    refine W.lcmp S.1 S.2.1 dL_isTold_594 ?_
                                    refine mi_xif_eq (tgt := 602) S (rfl : (lg_cmp (gl 4 co) (rw9)).toInt = _) dL_isTold_595 (by decide) (fun c595_38 => ?_) (fun c595_38 => ?_)
                                    · have hz0 : fg9 = 0 := hf01.1.mpr ((lj_hp_eq (hc9 co hco).1 hW9 (fun c1 h1 => oC co c1 hco h1) (fun c1 h1 => Nat.le_trans (wn_le _ c1 _) (oD (sCd T co) c1 hI1.1 h1).1)).mp ((lg_cmp_eq _ _).mp (Int32.toInt_inj.mp (c595_38.trans (show (0 : Int) = (0 : Int32).toInt from by decide)))))
                                      refine lv_iconst (v := nI 0) S.1 S.2.1 dL_isTold_602 (by decide) ?_
                                      refine mi_icmp_ne (tgt := 630) S (by omega) (by omega) dL_isTold_603 (by decide) (fun c603_39 => by exfalso; omega) (fun c603_39 => ?_)
                                      refine lv_aload_n S.1 S.2.1 dL_isTold_606 rfl (lv_at hl 5 rfl) ?_
                                      refine lv_iload S.1 S.2.1 dL_isTold_607 (lv_at hl 2 rfl) ?_
                                      refine lv_iload S.1 S.2.1 dL_isTold_609 (lv_at hl 1 rfl) ?_
                                      refine mi_cR (mi_runSH (P := mj_W D A q T gl ((va_up (va_up gi 7 vv) 8 ff))) (As := [.ref (q 0), .int (nI (co)), .int (nI (la))]) (rest := []) S E hS hM (j_distance l D A hst q hO hco hla) mw_682 mw_680 mw_681 mw_17 ⟨by decide, by decide, by decide +kernel⟩ ⟨rfl, rfl, Nat.le_of_ble_eq_true rfl, Nat.le_of_ble_eq_true rfl⟩ (n := 3) rfl hl.1 rfl (Nat.le_of_ble_eq_true rfl) dL_isTold_611 ⟨by show _ ≤ (60 : Nat); omega, by show _ ≤ (360 : Nat); omega⟩) (fun r9 e9 => ?_)
                                      subst e9
                                      refine lv_aload S.1 S.2.1 dL_isTold_614 (lv_at hl 10 rfl) ?_
                                      refine lv_iload S.1 S.2.1 dL_isTold_616 (lv_at hl 2 rfl) ?_
                                      refine mj_lld S E hM 4 (by omega) (by show _ < 60; omega) dL_isTold_618 ?_
                                      refine lv_aload S.1 S.2.1 dL_isTold_619 (lv_at hl 10 rfl) ?_
                                      refine lv_iload S.1 S.2.1 dL_isTold_621 (lv_at hl 1 rfl) ?_
                                      refine mj_lld S E hM 4 (by omega) (by show _ < 60; omega) dL_isTold_623 ?_
                                      refine mi_cR (mi_runS (P := mj_W D A q T gl ((va_up (va_up gi 7 vv) 8 ff))) (As := [.long (gl 4 co), .long (gl 4 la)]) (rest := [.int (nI (sp_ds (sCh T co) (sCh T la) 16))]) S E hS hM (c_Lfar l D A (mj_W D A q T gl ((va_up (va_up gi 7 vv) 8 ff))) (hc9 co hco).1 (hc9 la hla).1 (fun c1 h1 => oC co c1 hco h1) (fun c1 h1 => oC la c1 hla h1)) mw_654 mw_652 mw_653 mw_17 ⟨by decide, by decide, by decide +kernel⟩ ⟨rfl, rfl, Nat.le_of_ble_eq_true rfl, Nat.le_of_ble_eq_true rfl⟩ (n := 2) rfl hl.1 rfl (Nat.le_of_ble_eq_true rfl) dL_isTold_624 ⟨by show _ ≤ (60 : Nat); omega, by show _ ≤ (360 : Nat); omega⟩) (fun r9 e9 => ?_)
                                      subst e9
                                      have hd2 : sp_ds (sCh T co) (sCh T la) 16 ≤ 8 * 16 := sp_ds_le (fun c1 h1 => oC co c1 hco h1) (fun c1 h1 => oC la c1 hla h1)
                                      refine mi_icmp_eq (tgt := 632) S (by omega) (by omega) dL_isTold_627 (by decide) (fun c627_40 => ?_) (fun c627_40 => by exfalso; omega)
                                      refine lv_iinc (v := nI (jc + 1)) (lv' := [(17, .int (nI (jc + 1))), (20, .int (nI (sp_ds (sCh T co) (sF T (sCd T co)) 16))), (19, .int (nI (la))), (18, .int (nI (co))), (16, .int (nI (cl))), (0, .ref (q 0)), (1, .int (y)), (2, .ref (q 1)), (3, .ref (q 2)), (4, .ref (q 3)), (5, .ref (q 4)), (6, .ref (q 5)), (7, .ref (q 6)), (8, .ref (q 7)), (9, .ref (q 8)), (10, .ref (q 9))]) S.1 S.2.1 dL_isTold_632 hl (k := 3) rfl (mi_inc _) (by decide) rfl (fun ls hl => ?_)
                                      refine lv_goto (tgt := 461) S.1 S.2.1 dL_isTold_635 (by decide) ?_
                                      exact ih461 (jc + 1) _ (by omega) (by omega)  (lv_sub hl [0, 4, 5, 6, 7, 8, 9, 10, 11, 12, 13, 14, 15] rfl)
                                    · have hz0 : fg9 = 1 := by have h5 : fg9 ≠ 0 := fun z => c595_38 ((congrArg Int32.toInt ((lg_cmp_eq _ _).mpr ((lj_hp_eq (hc9 co hco).1 hW9 (fun c1 h1 => oC co c1 hco h1) (fun c1 h1 => Nat.le_trans (wn_le _ c1 _) (oD (sCd T co) c1 hI1.1 h1).1)).mpr (hf01.1.mp z)))).trans (show (0 : Int32).toInt = 0 from by decide)); have := hf01.2; omega
                                      refine lv_iconst (v := nI 1) S.1 S.2.1 dL_isTold_598 (by decide) ?_
                                      refine lv_goto (tgt := 603) S.1 S.2.1 dL_isTold_599 (by decide) ?_
                                      refine mi_icmp_ne (tgt := 630) S (by omega) (by omega) dL_isTold_603 (by decide) (fun c603_41 => by exfalso; omega) (fun c603_41 => ?_)
                                      refine lv_aload_n S.1 S.2.1 dL_isTold_606 rfl (lv_at hl 5 rfl) ?_
                                      refine lv_iload S.1 S.2.1 dL_isTold_607 (lv_at hl 2 rfl) ?_
                                      refine lv_iload S.1 S.2.1 dL_isTold_609 (lv_at hl 1 rfl) ?_
                                      refine mi_cR (mi_runSH (P := mj_W D A q T gl ((va_up (va_up gi 7 vv) 8 ff))) (As := [.ref (q 0), .int (nI (co)), .int (nI (la))]) (rest := []) S E hS hM (j_distance l D A hst q hO hco hla) mw_682 mw_680 mw_681 mw_17 ⟨by decide, by decide, by decide +kernel⟩ ⟨rfl, rfl, Nat.le_of_ble_eq_true rfl, Nat.le_of_ble_eq_true rfl⟩ (n := 3) rfl hl.1 rfl (Nat.le_of_ble_eq_true rfl) dL_isTold_611 ⟨by show _ ≤ (60 : Nat); omega, by show _ ≤ (360 : Nat); omega⟩) (fun r9 e9 => ?_)
                                      subst e9
                                      refine lv_aload S.1 S.2.1 dL_isTold_614 (lv_at hl 10 rfl) ?_
                                      refine lv_iload S.1 S.2.1 dL_isTold_616 (lv_at hl 2 rfl) ?_
                                      refine mj_lld S E hM 4 (by omega) (by show _ < 60; omega) dL_isTold_618 ?_
                                      refine lv_aload S.1 S.2.1 dL_isTold_619 (lv_at hl 10 rfl) ?_
                                      refine lv_iload S.1 S.2.1 dL_isTold_621 (lv_at hl 1 rfl) ?_
                                      refine mj_lld S E hM 4 (by omega) (by show _ < 60; omega) dL_isTold_623 ?_
                                      refine mi_cR (mi_runS (P := mj_W D A q T gl ((va_up (va_up gi 7 vv) 8 ff))) (As := [.long (gl 4 co), .long (gl 4 la)]) (rest := [.int (nI (sp_ds (sCh T co) (sCh T la) 16))]) S E hS hM (c_Lfar l D A (mj_W D A q T gl ((va_up (va_up gi 7 vv) 8 ff))) (hc9 co hco).1 (hc9 la hla).1 (fun c1 h1 => oC co c1 hco h1) (fun c1 h1 => oC la c1 hla h1)) mw_654 mw_652 mw_653 mw_17 ⟨by decide, by decide, by decide +kernel⟩ ⟨rfl, rfl, Nat.le_of_ble_eq_true rfl, Nat.le_of_ble_eq_true rfl⟩ (n := 2) rfl hl.1 rfl (Nat.le_of_ble_eq_true rfl) dL_isTold_624 ⟨by show _ ≤ (60 : Nat); omega, by show _ ≤ (360 : Nat); omega⟩) (fun r9 e9 => ?_)
                                      subst e9
                                      have hd2 : sp_ds (sCh T co) (sCh T la) 16 ≤ 8 * 16 := sp_ds_le (fun c1 h1 => oC co c1 hco h1) (fun c1 h1 => oC la c1 hla h1)
                                      refine mi_icmp_eq (tgt := 632) S (by omega) (by omega) dL_isTold_627 (by decide) (fun c627_42 => ?_) (fun c627_42 => by exfalso; omega)
                                      refine lv_iinc (v := nI (jc + 1)) (lv' := [(17, .int (nI (jc + 1))), (20, .int (nI (sp_ds (sCh T co) (sF T (sCd T co)) 16))), (19, .int (nI (la))), (18, .int (nI (co))), (16, .int (nI (cl))), (0, .ref (q 0)), (1, .int (y)), (2, .ref (q 1)), (3, .ref (q 2)), (4, .ref (q 3)), (5, .ref (q 4)), (6, .ref (q 5)), (7, .ref (q 6)), (8, .ref (q 7)), (9, .ref (q 8)), (10, .ref (q 9))]) S.1 S.2.1 dL_isTold_632 hl (k := 3) rfl (mi_inc _) (by decide) rfl (fun ls hl => ?_)
                                      refine lv_goto (tgt := 461) S.1 S.2.1 dL_isTold_635 (by decide) ?_
                                      exact ih461 (jc + 1) _ (by omega) (by omega)  (lv_sub hl [0, 4, 5, 6, 7, 8, 9, 10, 11, 12, 13, 14, 15] rfl)
                                  · refine lv_iconst (v := nI 0) S.1 S.2.1 dL_isTold_547 (by decide) ?_
                                    refine lv_goto (tgt := 558) S.1 S.2.1 dL_isTold_548 (by decide) ?_
                                    have hgr : gd = 0 := by rw [hgd]; split <;> omega
                                    refine mi_icmp_ne (tgt := 630) S (by omega) (by omega) dL_isTold_558 (by decide) (fun c558_43 => by exfalso; omega) (fun c558_43 => ?_)
                                    refine lv_aload_n S.1 S.2.1 dL_isTold_561 rfl (lv_at hl 5 rfl) ?_
                                    refine lv_iload S.1 S.2.1 dL_isTold_562 (lv_at hl 2 rfl) ?_
                                    refine mi_cR (mi_runV (P := mj_W D A q T gl ((va_up (va_up gi 7 vv) 8 ff))) (As := [.int (nI (co))]) (rest := []) S E hS hM (q 0) (j_isForged l D A hst q hO hco) (hM.recv E) mw_679 mw_676 mw_677 mw_678 mw_18 ⟨by decide, by decide, by decide +kernel⟩ ⟨rfl, rfl, Nat.le_of_ble_eq_true rfl, Nat.le_of_ble_eq_true rfl⟩ (n := 1) rfl hl.1 rfl (Nat.le_of_ble_eq_true rfl) dL_isTold_564 ⟨by show _ ≤ (60 : Nat); omega, by show _ ≤ (360 : Nat); omega⟩) (fun r9 e9 => ?_)
                                    subst e9
                                    obtain ⟨fg9, hfg⟩ : ∃ z, z = sp_fg (sCh T co) (wn (sF T (sCd T co)) ((sCn T co - 1) / 2)) 16 := ⟨_, rfl⟩
                                    refine mi_top (v' := .int (nI fg9)) (by rw [hfg]) ?_
                                    have hf01 := sp_fg_01 (h := sCh T co) (h' := wn (sF T (sCd T co)) ((sCn T co - 1) / 2)) (n := 16)
                                    rw [← hfg] at hf01
                                    refine lv_aload S.1 S.2.1 dL_isTold_567 (lv_at hl 10 rfl) ?_
                                    refine lv_iload S.1 S.2.1 dL_isTold_569 (lv_at hl 2 rfl) ?_
                                    refine mj_lld S E hM 4 (by omega) (by show _ < 60; omega) dL_isTold_571 ?_
                                    refine lv_aload S.1 S.2.1 dL_isTold_572 (lv_at hl 9 rfl) ?_
                                    refine lv_aload S.1 S.2.1 dL_isTold_574 (lv_at hl 12 rfl) ?_
                                    refine lv_iload S.1 S.2.1 dL_isTold_576 (lv_at hl 2 rfl) ?_
                                    refine mj_ild S E hM 6 (by omega) (by show _ < 60; omega) dL_isTold_578 ?_
                                    refine mi_top (v' := .int (nI (sCd T co + 8 * sCn T co))) (congrArg Value.int (hc9 co hco).2) ?_
                                    refine lv_bipush (v := nI 8) S.1 S.2.1 dL_isTold_579 (by decide) ?_
                                    refine mi_irem S (by omega) (by omega) (by omega) dL_isTold_581 ?_
                                    refine mi_top (v' := .int (nI (sCd T co))) (by rw [show (sCd T co + 8 * sCn T co) % 8 = sCd T co by omega]) ?_
                                    refine mj_lld S E hM 3 (by omega) (by show _ < 8; omega) dL_isTold_582 ?_
                                    refine lv_aload S.1 S.2.1 dL_isTold_583 (lv_at hl 12 rfl) ?_
                                    refine lv_iload S.1 S.2.1 dL_isTold_585 (lv_at hl 2 rfl) ?_
                                    refine mj_ild S E hM 6 (by omega) (by show _ < 60; omega) dL_isTold_587 ?_
                                    refine mi_top (v' := .int (nI (sCd T co + 8 * sCn T co))) (congrArg Value.int (hc9 co hco).2) ?_
                                    refine lv_bipush (v := nI 8) S.1 S.2.1 dL_isTold_588 (by decide) ?_
                                    refine mi_idiv S (by omega) (by omega) (by omega) dL_isTold_590 ?_
                                    refine mi_top (v' := .int (nI (sCn T co))) (by rw [show (sCd T co + 8 * sCn T co) / 8 = sCn T co by omega]) ?_
                                    refine mi_cL (mi_runS (P := mj_W D A q T gl ((va_up (va_up gi 7 vv) 8 ff))) (As := [.long (gl 3 (sCd T co)), .int (nI (sCn T co))]) (rest := [.long (gl 4 co), .int (nI (fg9))]) S E hS hM (c_Lworn l D A (mj_W D A q T gl ((va_up (va_up gi 7 vv) 8 ff))) (hd9 (sCd T co) hI1.1).1 (fun c1 h1 => (oD (sCd T co) c1 hI1.1 h1).1) hI1.2.1 (by omega)) mw_557 mw_555 mw_556 mw_17 ⟨by decide, by decide, by decide +kernel⟩ ⟨rfl, rfl, Nat.le_of_ble_eq_true rfl, Nat.le_of_ble_eq_true rfl⟩ (n := 2) rfl hl.1 rfl (Nat.le_of_ble_eq_true rfl) dL_isTold_591 ⟨by show _ ≤ (60 : Nat); omega, by show _ ≤ (360 : Nat); omega⟩) (fun rw9 hW9 => ?_)
                                    refine W.lcmp S.1 S.2.1 dL_isTold_594 ?_
                                    refine mi_xif_eq (tgt := 602) S (rfl : (lg_cmp (gl 4 co) (rw9)).toInt = _) dL_isTold_595 (by decide) (fun c595_44 => ?_) (fun c595_44 => ?_)
                                    · have hz0 : fg9 = 0 := hf01.1.mpr ((lj_hp_eq (hc9 co hco).1 hW9 (fun c1 h1 => oC co c1 hco h1) (fun c1 h1 => Nat.le_trans (wn_le _ c1 _) (oD (sCd T co) c1 hI1.1 h1).1)).mp ((lg_cmp_eq _ _).mp (Int32.toInt_inj.mp (c595_44.trans (show (0 : Int) = (0 : Int32).toInt from by decide)))))
                                      refine lv_iconst (v := nI 0) S.1 S.2.1 dL_isTold_602 (by decide) ?_
                                      refine mi_icmp_ne (tgt := 630) S (by omega) (by omega) dL_isTold_603 (by decide) (fun c603_45 => by exfalso; omega) (fun c603_45 => ?_)
                                      refine lv_aload_n S.1 S.2.1 dL_isTold_606 rfl (lv_at hl 5 rfl) ?_
                                      refine lv_iload S.1 S.2.1 dL_isTold_607 (lv_at hl 2 rfl) ?_
                                      refine lv_iload S.1 S.2.1 dL_isTold_609 (lv_at hl 1 rfl) ?_
                                      refine mi_cR (mi_runSH (P := mj_W D A q T gl ((va_up (va_up gi 7 vv) 8 ff))) (As := [.ref (q 0), .int (nI (co)), .int (nI (la))]) (rest := []) S E hS hM (j_distance l D A hst q hO hco hla) mw_682 mw_680 mw_681 mw_17 ⟨by decide, by decide, by decide +kernel⟩ ⟨rfl, rfl, Nat.le_of_ble_eq_true rfl, Nat.le_of_ble_eq_true rfl⟩ (n := 3) rfl hl.1 rfl (Nat.le_of_ble_eq_true rfl) dL_isTold_611 ⟨by show _ ≤ (60 : Nat); omega, by show _ ≤ (360 : Nat); omega⟩) (fun r9 e9 => ?_)
                                      subst e9
                                      refine lv_aload S.1 S.2.1 dL_isTold_614 (lv_at hl 10 rfl) ?_
                                      refine lv_iload S.1 S.2.1 dL_isTold_616 (lv_at hl 2 rfl) ?_
                                      refine mj_lld S E hM 4 (by omega) (by show _ < 60; omega) dL_isTold_618 ?_
                                      refine lv_aload S.1 S.2.1 dL_isTold_619 (lv_at hl 10 rfl) ?_
                                      refine lv_iload S.1 S.2.1 dL_isTold_621 (lv_at hl 1 rfl) ?_
                                      refine mj_lld S E hM 4 (by omega) (by show _ < 60; omega) dL_isTold_623 ?_
                                      refine mi_cR (mi_runS (P := mj_W D A q T gl ((va_up (va_up gi 7 vv) 8 ff))) (As := [.long (gl 4 co), .long (gl 4 la)]) (rest := [.int (nI (sp_ds (sCh T co) (sCh T la) 16))]) S E hS hM (c_Lfar l D A (mj_W D A q T gl ((va_up (va_up gi 7 vv) 8 ff))) (hc9 co hco).1 (hc9 la hla).1 (fun c1 h1 => oC co c1 hco h1) (fun c1 h1 => oC la c1 hla h1)) mw_654 mw_652 mw_653 mw_17 ⟨by decide, by decide, by decide +kernel⟩ ⟨rfl, rfl, Nat.le_of_ble_eq_true rfl, Nat.le_of_ble_eq_true rfl⟩ (n := 2) rfl hl.1 rfl (Nat.le_of_ble_eq_true rfl) dL_isTold_624 ⟨by show _ ≤ (60 : Nat); omega, by show _ ≤ (360 : Nat); omega⟩) (fun r9 e9 => ?_)
                                      subst e9
                                      have hd2 : sp_ds (sCh T co) (sCh T la) 16 ≤ 8 * 16 := sp_ds_le (fun c1 h1 => oC co c1 hco h1) (fun c1 h1 => oC la c1 hla h1)
                                      refine mi_icmp_eq (tgt := 632) S (by omega) (by omega) dL_isTold_627 (by decide) (fun c627_46 => ?_) (fun c627_46 => by exfalso; omega)
                                      refine lv_iinc (v := nI (jc + 1)) (lv' := [(17, .int (nI (jc + 1))), (20, .int (nI (sp_ds (sCh T co) (sF T (sCd T co)) 16))), (19, .int (nI (la))), (18, .int (nI (co))), (16, .int (nI (cl))), (0, .ref (q 0)), (1, .int (y)), (2, .ref (q 1)), (3, .ref (q 2)), (4, .ref (q 3)), (5, .ref (q 4)), (6, .ref (q 5)), (7, .ref (q 6)), (8, .ref (q 7)), (9, .ref (q 8)), (10, .ref (q 9))]) S.1 S.2.1 dL_isTold_632 hl (k := 3) rfl (mi_inc _) (by decide) rfl (fun ls hl => ?_)
                                      refine lv_goto (tgt := 461) S.1 S.2.1 dL_isTold_635 (by decide) ?_
                                      exact ih461 (jc + 1) _ (by omega) (by omega)  (lv_sub hl [0, 4, 5, 6, 7, 8, 9, 10, 11, 12, 13, 14, 15] rfl)
                                    · have hz0 : fg9 = 1 := by have h5 : fg9 ≠ 0 := fun z => c595_44 ((congrArg Int32.toInt ((lg_cmp_eq _ _).mpr ((lj_hp_eq (hc9 co hco).1 hW9 (fun c1 h1 => oC co c1 hco h1) (fun c1 h1 => Nat.le_trans (wn_le _ c1 _) (oD (sCd T co) c1 hI1.1 h1).1)).mpr (hf01.1.mp z)))).trans (show (0 : Int32).toInt = 0 from by decide)); have := hf01.2; omega
                                      refine lv_iconst (v := nI 1) S.1 S.2.1 dL_isTold_598 (by decide) ?_
                                      refine lv_goto (tgt := 603) S.1 S.2.1 dL_isTold_599 (by decide) ?_
                                      refine mi_icmp_ne (tgt := 630) S (by omega) (by omega) dL_isTold_603 (by decide) (fun c603_47 => by exfalso; omega) (fun c603_47 => ?_)
                                      refine lv_aload_n S.1 S.2.1 dL_isTold_606 rfl (lv_at hl 5 rfl) ?_
                                      refine lv_iload S.1 S.2.1 dL_isTold_607 (lv_at hl 2 rfl) ?_
                                      refine lv_iload S.1 S.2.1 dL_isTold_609 (lv_at hl 1 rfl) ?_
                                      refine mi_cR (mi_runSH (P := mj_W D A q T gl ((va_up (va_up gi 7 vv) 8 ff))) (As := [.ref (q 0), .int (nI (co)), .int (nI (la))]) (rest := []) S E hS hM (j_distance l D A hst q hO hco hla) mw_682 mw_680 mw_681 mw_17 ⟨by decide, by decide, by decide +kernel⟩ ⟨rfl, rfl, Nat.le_of_ble_eq_true rfl, Nat.le_of_ble_eq_true rfl⟩ (n := 3) rfl hl.1 rfl (Nat.le_of_ble_eq_true rfl) dL_isTold_611 ⟨by show _ ≤ (60 : Nat); omega, by show _ ≤ (360 : Nat); omega⟩) (fun r9 e9 => ?_)
                                      subst e9
                                      refine lv_aload S.1 S.2.1 dL_isTold_614 (lv_at hl 10 rfl) ?_
                                      refine lv_iload S.1 S.2.1 dL_isTold_616 (lv_at hl 2 rfl) ?_
                                      refine mj_lld S E hM 4 (by omega) (by show _ < 60; omega) dL_isTold_618 ?_
                                      refine lv_aload S.1 S.2.1 dL_isTold_619 (lv_at hl 10 rfl) ?_
                                      refine lv_iload S.1 S.2.1 dL_isTold_621 (lv_at hl 1 rfl) ?_
                                      refine mj_lld S E hM 4 (by omega) (by show _ < 60; omega) dL_isTold_623 ?_
                                      refine mi_cR (mi_runS (P := mj_W D A q T gl ((va_up (va_up gi 7 vv) 8 ff))) (As := [.long (gl 4 co), .long (gl 4 la)]) (rest := [.int (nI (sp_ds (sCh T co) (sCh T la) 16))]) S E hS hM (c_Lfar l D A (mj_W D A q T gl ((va_up (va_up gi 7 vv) 8 ff))) (hc9 co hco).1 (hc9 la hla).1 (fun c1 h1 => oC co c1 hco h1) (fun c1 h1 => oC la c1 hla h1)) mw_654 mw_652 mw_653 mw_17 ⟨by decide, by decide, by decide +kernel⟩ ⟨rfl, rfl, Nat.le_of_ble_eq_true rfl, Nat.le_of_ble_eq_true rfl⟩ (n := 2) rfl hl.1 rfl (Nat.le_of_ble_eq_true rfl) dL_isTold_624 ⟨by show _ ≤ (60 : Nat); omega, by show _ ≤ (360 : Nat); omega⟩) (fun r9 e9 => ?_)
                                      subst e9
                                      have hd2 : sp_ds (sCh T co) (sCh T la) 16 ≤ 8 * 16 := sp_ds_le (fun c1 h1 => oC co c1 hco h1) (fun c1 h1 => oC la c1 hla h1)
                                      refine mi_icmp_eq (tgt := 632) S (by omega) (by omega) dL_isTold_627 (by decide) (fun c627_48 => ?_) (fun c627_48 => by exfalso; omega)
                                      refine lv_iinc (v := nI (jc + 1)) (lv' := [(17, .int (nI (jc + 1))), (20, .int (nI (sp_ds (sCh T co) (sF T (sCd T co)) 16))), (19, .int (nI (la))), (18, .int (nI (co))), (16, .int (nI (cl))), (0, .ref (q 0)), (1, .int (y)), (2, .ref (q 1)), (3, .ref (q 2)), (4, .ref (q 3)), (5, .ref (q 4)), (6, .ref (q 5)), (7, .ref (q 6)), (8, .ref (q 7)), (9, .ref (q 8)), (10, .ref (q 9))]) S.1 S.2.1 dL_isTold_632 hl (k := 3) rfl (mi_inc _) (by decide) rfl (fun ls hl => ?_)
                                      refine lv_goto (tgt := 461) S.1 S.2.1 dL_isTold_635 (by decide) ?_
                                      exact ih461 (jc + 1) _ (by omega) (by omega)  (lv_sub hl [0, 4, 5, 6, 7, 8, 9, 10, 11, 12, 13, 14, 15] rfl)
                            exact lp461 _ 0 _ (Nat.lt_succ_self _) (by omega)  (lv_sub hl [0, 1, 2, 3, 4, 5, 6, 7, 8, 9, 10, 11, 12] rfl)
                        · have hxb := oX jd (by omega)
                          refine lv_aload_n S.1 S.2.1 dL_isTold_399 rfl (lv_at hl 2 rfl) ?_
                          refine lv_iload S.1 S.2.1 dL_isTold_400 (lv_at hl 0 rfl) ?_
                          refine lv_iload S.1 S.2.1 dL_isTold_402 (lv_at hl 1 rfl) ?_
                          refine mi_cR (mi_runSH (P := mj_W D A q T gl ((va_up (va_up gi 7 vv) 8 ff))) (As := [.ref (q 0), .int (nI (jd)), .int (nI (cl))]) (rest := []) S E hS hM (j_dieHeight l D A hst q hO (by omega) hcl) mw_647 mw_645 mw_646 mw_17 ⟨by decide, by decide, by decide +kernel⟩ ⟨rfl, rfl, Nat.le_of_ble_eq_true rfl, Nat.le_of_ble_eq_true rfl⟩ (n := 3) rfl hl.1 rfl (Nat.le_of_ble_eq_true rfl) dL_isTold_404 ⟨by show _ ≤ (60 : Nat); omega, by show _ ≤ (360 : Nat); omega⟩) (fun r9 e9 => ?_)
                          subst e9
                          refine lv_aload S.1 S.2.1 dL_isTold_407 (lv_at hl 6 rfl) ?_
                          refine lv_iload S.1 S.2.1 dL_isTold_409 (lv_at hl 0 rfl) ?_
                          refine mj_lld S E hM 3 (by omega) (by show _ < 8; omega) dL_isTold_411 ?_
                          refine lv_aload S.1 S.2.1 dL_isTold_412 (lv_at hl 8 rfl) ?_
                          refine lv_iload S.1 S.2.1 dL_isTold_414 (lv_at hl 0 rfl) ?_
                          refine mj_ild S E hM 5 (by omega) (by show _ < 8; omega) dL_isTold_416 ?_
                          refine mi_top (v' := .int (nI (sX T jd))) (congrArg Value.int (hd9 jd (by omega)).2) ?_
                          refine lv_iconst (v := nI 1) S.1 S.2.1 dL_isTold_417 (by decide) ?_
                          refine mi_iadd S dL_isTold_418 ?_
                          refine mi_cL (mi_runS (P := mj_W D A q T gl ((va_up (va_up gi 7 vv) 8 ff))) (As := [.long (gl 3 jd), .int (nI ((sX T jd) + 1))]) (rest := [.int (nI (sH T jd cl))]) S E hS hM (c_Lworn l D A (mj_W D A q T gl ((va_up (va_up gi 7 vv) 8 ff))) (hd9 jd (by omega)).1 (fun c1 h1 => (oD jd c1 (by omega) h1).1) (by omega) (by omega)) mw_557 mw_555 mw_556 mw_17 ⟨by decide, by decide, by decide +kernel⟩ ⟨rfl, rfl, Nat.le_of_ble_eq_true rfl, Nat.le_of_ble_eq_true rfl⟩ (n := 2) rfl hl.1 rfl (Nat.le_of_ble_eq_true rfl) dL_isTold_419 ⟨by show _ ≤ (60 : Nat); omega, by show _ ≤ (360 : Nat); omega⟩) (fun rw9 e9 => ?_)
                          have hW9 : lj_hp rw9 (sH T jd) := lj_hp_cong e9 (fun c1 h1 => by rw [(oD jd c1 (by omega) h1).2, Nat.add_sub_cancel])
                          refine lv_iload S.1 S.2.1 dL_isTold_422 (lv_at hl 1 rfl) ?_
                          refine mi_cR (mi_runS (P := mj_W D A q T gl ((va_up (va_up gi 7 vv) 8 ff))) (As := [.long (rw9), .int (nI (cl))]) (rest := [.int (nI (sH T jd cl))]) S E hS hM (c_Lat l D A (mj_W D A q T gl ((va_up (va_up gi 7 vv) 8 ff))) (by omega)) mw_560 mw_558 mw_559 mw_17 ⟨by decide, by decide, by decide +kernel⟩ ⟨rfl, rfl, Nat.le_of_ble_eq_true rfl, Nat.le_of_ble_eq_true rfl⟩ (n := 2) rfl hl.1 rfl (Nat.le_of_ble_eq_true rfl) dL_isTold_424 ⟨by show _ ≤ (60 : Nat); omega, by show _ ≤ (360 : Nat); omega⟩) (fun r9 e9 => ?_)
                          subst e9
                          refine mi_top (v' := .int (nI (sH T jd cl))) (congrArg Value.int (hW9 cl hcl)) ?_
                          have hhb := st_hb hO (show jd < sD T by omega) hcl
                          refine mi_icmp_ne (tgt := 443) S (by omega) (by omega) dL_isTold_427 (by decide) (fun c427_49 => by exfalso; omega) (fun c427_49 => ?_)
                          refine lv_aload_n S.1 S.2.1 dL_isTold_430 rfl (lv_at hl 2 rfl) ?_
                          refine lv_iload S.1 S.2.1 dL_isTold_431 (lv_at hl 0 rfl) ?_
                          refine lv_bipush (v := nI 16) S.1 S.2.1 dL_isTold_433 (by decide) ?_
                          refine mi_cMi (mi_runSH (P := mj_W D A q T gl ((va_up (va_up gi 7 vv) 8 ff))) (As := [.ref (q 0), .int (nI (jd)), .int (nI (16))]) (rest := []) S E hS hM (j_dieHeight_x2 l D A hst q hO (by omega) (by decide)) mw_647 mw_645 mw_646 mw_17 ⟨by decide, by decide, by decide +kernel⟩ ⟨rfl, rfl, Nat.le_of_ble_eq_true rfl, Nat.le_of_ble_eq_true rfl⟩ (n := 3) rfl hl.1 rfl (Nat.le_of_ble_eq_true rfl) dL_isTold_435 ⟨(by show _ ≤ (60 : Nat); omega), (by show _ ≤ (360 : Nat); omega)⟩) hS (fun r9 H locs hp9 hS hz9 => ?_)
                          obtain ⟨e9, hM⟩ := hp9
                          refine mi_top (v' := .int (-71)) (by rw [e9]) ?_
                          refine lv_bipush (v := (-71)) S.1 S.2.1 dL_isTold_438 (by decide) ?_
                          refine lv_icmp_eq (tgt := 445) S.1 S.2.1 dL_isTold_440 (by decide) (fun _ => ?_) (fun c440_50 => absurd rfl c440_50)
                          refine lv_iinc (v := nI (jd + 1)) (lv' := [(17, .int (nI (jd + 1))), (16, .int (nI (cl))), (0, .ref (q 0)), (1, .int (y)), (2, .ref (q 1)), (3, .ref (q 2)), (4, .ref (q 3)), (5, .ref (q 4)), (6, .ref (q 5)), (7, .ref (q 6)), (8, .ref (q 7)), (9, .ref (q 8)), (10, .ref (q 9))]) S.1 S.2.1 dL_isTold_445 hl (k := 0) rfl (mi_inc _) (by decide) rfl (fun ls hl => ?_)
                          refine lv_goto (tgt := 390) S.1 S.2.1 dL_isTold_448 (by decide) ?_
                          refine W.widen (k := 32 + (jd + 1)) (n := 192 + 6 * (jd + 1)) (by omega) (by omega) ?_
                          exact ih390 (jd + 1) _ _ _ (by omega) (by omega) hM hS (lv_sub hl [0, 1, 2, 3, 4, 5, 6, 7, 8, 9, 10, 11, 12] rfl)
                    refine W.widen (k := 32 + 0) (n := 192 + 6 * 0) (by omega) (by omega) ?_
                    exact lp390 _ 0 _ _ _ (Nat.lt_succ_self _) (by omega) hM hS (lv_sub hl [0, 1, 7, 8, 9, 10, 11, 12, 13, 14, 15, 16, 17] rfl)
                  · have hpj := oP jb (by omega) (by omega)
                    refine lv_iload S.1 S.2.1 dL_isTold_291 (lv_at hl 0 rfl) ?_
                    refine lv_aload_n S.1 S.2.1 dL_isTold_293 rfl (lv_at hl 9 rfl) ?_
                    refine lv_iload S.1 S.2.1 dL_isTold_294 (lv_at hl 1 rfl) ?_
                    refine mj_ild S E hM 2 (by omega) (by show _ < 16; omega) dL_isTold_296 ?_
                    refine mi_top (v' := .int (nI (sP T jb))) (congrArg Value.int (hp9 jb (by omega) (by omega))) ?_
                    refine lv_aload S.1 S.2.1 dL_isTold_297 (lv_at hl 16 rfl) ?_
                    refine lv_iconst (v := nI 0) S.1 S.2.1 dL_isTold_299 (by decide) ?_
                    refine mj_ild S E hM 9 (by omega) (by show _ < 4; omega) dL_isTold_300 ?_
                    refine mi_top (v' := .int (nI (sW T))) (congrArg Value.int g0) ?_
                    refine mi_icmp_ne (tgt := 308) S (by omega) (by omega) dL_isTold_301 (by decide) (fun c301_51 => ?_) (fun c301_51 => ?_)
                    · refine lv_iconst (v := nI 0) S.1 S.2.1 dL_isTold_308 (by decide) ?_
                      refine mi_iadd S dL_isTold_309 ?_
                      refine lv_istore (lv' := [(15, .int (nI (nb + 0))), (16, .int (nI (jb))), (14, .int (nI (uu))), (11, .int (nI (bk))), (12, .int (nI (on))), (13, .int (nI (ot))), (0, .ref (q 0)), (1, .int (y)), (2, .ref (q 1)), (3, .ref (q 2)), (4, .ref (q 3)), (5, .ref (q 4)), (6, .ref (q 5)), (7, .ref (q 6)), (8, .ref (q 7)), (9, .ref (q 8)), (10, .ref (q 9))]) S.1 S.2.1 dL_isTold_310 hl (by decide) rfl (fun ls hl => ?_)
                      refine lv_iinc (v := nI (jb + 1)) (lv' := [(16, .int (nI (jb + 1))), (15, .int (nI (nb + 0))), (14, .int (nI (uu))), (11, .int (nI (bk))), (12, .int (nI (on))), (13, .int (nI (ot))), (0, .ref (q 0)), (1, .int (y)), (2, .ref (q 1)), (3, .ref (q 2)), (4, .ref (q 3)), (5, .ref (q 4)), (6, .ref (q 5)), (7, .ref (q 6)), (8, .ref (q 7)), (9, .ref (q 8)), (10, .ref (q 9))]) S.1 S.2.1 dL_isTold_312 hl (k := 1) rfl (mi_inc _) (by decide) rfl (fun ls hl => ?_)
                      refine lv_goto (tgt := 282) S.1 S.2.1 dL_isTold_315 (by decide) ?_
                      exact ih282 (nb + 0) (jb + 1) _ (by omega) (by omega) (by have hpn : sp_pn T jb = sP T jb + 1 := sp_pn_n (by omega); first | rw [sp_br_1 (by omega), hnb] | rw [sp_br_0 (by omega), hnb, Nat.add_zero]) (by omega)  (lv_sub hl [1, 0, 2, 3, 4, 5, 6, 7, 8, 9, 10, 11, 12, 13, 14, 15, 16] rfl)
                    · refine lv_iconst (v := nI 1) S.1 S.2.1 dL_isTold_304 (by decide) ?_
                      refine lv_goto (tgt := 309) S.1 S.2.1 dL_isTold_305 (by decide) ?_
                      refine mi_iadd S dL_isTold_309 ?_
                      refine lv_istore (lv' := [(15, .int (nI (nb + 1))), (16, .int (nI (jb))), (14, .int (nI (uu))), (11, .int (nI (bk))), (12, .int (nI (on))), (13, .int (nI (ot))), (0, .ref (q 0)), (1, .int (y)), (2, .ref (q 1)), (3, .ref (q 2)), (4, .ref (q 3)), (5, .ref (q 4)), (6, .ref (q 5)), (7, .ref (q 6)), (8, .ref (q 7)), (9, .ref (q 8)), (10, .ref (q 9))]) S.1 S.2.1 dL_isTold_310 hl (by decide) rfl (fun ls hl => ?_)
                      refine lv_iinc (v := nI (jb + 1)) (lv' := [(16, .int (nI (jb + 1))), (15, .int (nI (nb + 1))), (14, .int (nI (uu))), (11, .int (nI (bk))), (12, .int (nI (on))), (13, .int (nI (ot))), (0, .ref (q 0)), (1, .int (y)), (2, .ref (q 1)), (3, .ref (q 2)), (4, .ref (q 3)), (5, .ref (q 4)), (6, .ref (q 5)), (7, .ref (q 6)), (8, .ref (q 7)), (9, .ref (q 8)), (10, .ref (q 9))]) S.1 S.2.1 dL_isTold_312 hl (k := 1) rfl (mi_inc _) (by decide) rfl (fun ls hl => ?_)
                      refine lv_goto (tgt := 282) S.1 S.2.1 dL_isTold_315 (by decide) ?_
                      exact ih282 (nb + 1) (jb + 1) _ (by omega) (by omega) (by have hpn : sp_pn T jb = sP T jb + 1 := sp_pn_n (by omega); first | rw [sp_br_1 (by omega), hnb] | rw [sp_br_0 (by omega), hnb, Nat.add_zero]) (by omega)  (lv_sub hl [1, 0, 2, 3, 4, 5, 6, 7, 8, 9, 10, 11, 12, 13, 14, 15, 16] rfl)
              exact lp282 _ 0 1 _ (Nat.lt_succ_self _) (by omega) ((sp_br_0 (show sp_pn T 0 ≠ sW T + 1 by rw [sp_pn_0]; omega)).symm) (by omega)  (lv_sub hl [1, 0, 2, 3, 4, 5, 6, 7, 8, 9, 10, 11, 12, 13, 14, 15, 16] rfl)
            · refine lv_iload S.1 S.2.1 dL_isTold_241 (lv_at hl 0 rfl) ?_
              refine lv_aload_n S.1 S.2.1 dL_isTold_243 rfl (lv_at hl 7 rfl) ?_
              refine lv_iload S.1 S.2.1 dL_isTold_244 (lv_at hl 3 rfl) ?_
              refine lv_iload S.1 S.2.1 dL_isTold_246 (lv_at hl 1 rfl) ?_
              refine mi_cR (mi_runS (P := mj_W D A q T gl gi) (As := [.ref (q 1), .int (nI (on)), .int (nI (ju))]) (rest := [.int (nI (uu))]) S E hS hM (c_Lcolumn l D A (by omega) (by omega)) mw_350 mw_348 mw_349 mw_17 ⟨by decide, by decide, by decide +kernel⟩ ⟨rfl, rfl, Nat.le_of_ble_eq_true rfl, Nat.le_of_ble_eq_true rfl⟩ (n := 3) rfl hl.1 rfl (Nat.le_of_ble_eq_true rfl) dL_isTold_248 ⟨by show _ ≤ (60 : Nat); omega, by show _ ≤ (360 : Nat); omega⟩) (fun r9 e9 => ?_)
              subst e9
              refine lv_aload_n S.1 S.2.1 dL_isTold_251 rfl (lv_at hl 7 rfl) ?_
              refine lv_iload S.1 S.2.1 dL_isTold_252 (lv_at hl 4 rfl) ?_
              refine lv_iload S.1 S.2.1 dL_isTold_254 (lv_at hl 1 rfl) ?_
              refine mi_cR (mi_runS (P := mj_W D A q T gl gi) (As := [.ref (q 1), .int (nI (ot)), .int (nI (ju))]) (rest := [.int (lj_col (gl 1) on ju), .int (nI (uu))]) S E hS hM (c_Lcolumn l D A (by omega) (by omega)) mw_350 mw_348 mw_349 mw_17 ⟨by decide, by decide, by decide +kernel⟩ ⟨rfl, rfl, Nat.le_of_ble_eq_true rfl, Nat.le_of_ble_eq_true rfl⟩ (n := 3) rfl hl.1 rfl (Nat.le_of_ble_eq_true rfl) dL_isTold_256 ⟨by show _ ≤ (60 : Nat); omega, by show _ ≤ (360 : Nat); omega⟩) (fun r9 e9 => ?_)
              subst e9
              refine mi_xcmp_eq (tgt := 266) S (rfl : (lj_col (gl 1) on ju).toInt = _) (rfl : (lj_col (gl 1) ot ju).toInt = _) dL_isTold_259 (by decide) (fun c259_52 => ?_) (fun c259_52 => ?_)
              · refine lv_iconst (v := nI 0) S.1 S.2.1 dL_isTold_266 (by decide) ?_
                refine mi_iadd S dL_isTold_267 ?_
                refine lv_istore (lv' := [(14, .int (nI (uu + 0))), (15, .int (nI (ju))), (11, .int (nI (bk))), (12, .int (nI (on))), (13, .int (nI (ot))), (0, .ref (q 0)), (1, .int (y)), (2, .ref (q 1)), (3, .ref (q 2)), (4, .ref (q 3)), (5, .ref (q 4)), (6, .ref (q 5)), (7, .ref (q 6)), (8, .ref (q 7)), (9, .ref (q 8)), (10, .ref (q 9))]) S.1 S.2.1 dL_isTold_268 hl (by decide) rfl (fun ls hl => ?_)
                refine lv_iinc (v := nI (ju + 1)) (lv' := [(15, .int (nI (ju + 1))), (14, .int (nI (uu + 0))), (11, .int (nI (bk))), (12, .int (nI (on))), (13, .int (nI (ot))), (0, .ref (q 0)), (1, .int (y)), (2, .ref (q 1)), (3, .ref (q 2)), (4, .ref (q 3)), (5, .ref (q 4)), (6, .ref (q 5)), (7, .ref (q 6)), (8, .ref (q 7)), (9, .ref (q 8)), (10, .ref (q 9))]) S.1 S.2.1 dL_isTold_270 hl (k := 1) rfl (mi_inc _) (by decide) rfl (fun ls hl => ?_)
                refine lv_goto (tgt := 234) S.1 S.2.1 dL_isTold_273 (by decide) ?_
                exact ih234 (uu + 0) (ju + 1) _ (by omega) (by omega) (by rw [sp_ul_s, ← huu]; first | rw [sp_al_0 ((lj_alike hL hO (by omega) (by omega) (by omega)).mp c259_52)] | rw [sp_al_1 (fun z => c259_52 ((lj_alike hL hO (by omega) (by omega) (by omega)).mpr z))]) (by omega)  (lv_sub hl [1, 0, 2, 3, 4, 5, 6, 7, 8, 9, 10, 11, 12, 13, 14, 15] rfl)
              · refine lv_iconst (v := nI 1) S.1 S.2.1 dL_isTold_262 (by decide) ?_
                refine lv_goto (tgt := 267) S.1 S.2.1 dL_isTold_263 (by decide) ?_
                refine mi_iadd S dL_isTold_267 ?_
                refine lv_istore (lv' := [(14, .int (nI (uu + 1))), (15, .int (nI (ju))), (11, .int (nI (bk))), (12, .int (nI (on))), (13, .int (nI (ot))), (0, .ref (q 0)), (1, .int (y)), (2, .ref (q 1)), (3, .ref (q 2)), (4, .ref (q 3)), (5, .ref (q 4)), (6, .ref (q 5)), (7, .ref (q 6)), (8, .ref (q 7)), (9, .ref (q 8)), (10, .ref (q 9))]) S.1 S.2.1 dL_isTold_268 hl (by decide) rfl (fun ls hl => ?_)
                refine lv_iinc (v := nI (ju + 1)) (lv' := [(15, .int (nI (ju + 1))), (14, .int (nI (uu + 1))), (11, .int (nI (bk))), (12, .int (nI (on))), (13, .int (nI (ot))), (0, .ref (q 0)), (1, .int (y)), (2, .ref (q 1)), (3, .ref (q 2)), (4, .ref (q 3)), (5, .ref (q 4)), (6, .ref (q 5)), (7, .ref (q 6)), (8, .ref (q 7)), (9, .ref (q 8)), (10, .ref (q 9))]) S.1 S.2.1 dL_isTold_270 hl (k := 1) rfl (mi_inc _) (by decide) rfl (fun ls hl => ?_)
                refine lv_goto (tgt := 234) S.1 S.2.1 dL_isTold_273 (by decide) ?_
                exact ih234 (uu + 1) (ju + 1) _ (by omega) (by omega) (by rw [sp_ul_s, ← huu]; first | rw [sp_al_0 ((lj_alike hL hO (by omega) (by omega) (by omega)).mp c259_52)] | rw [sp_al_1 (fun z => c259_52 ((lj_alike hL hO (by omega) (by omega) (by omega)).mpr z))]) (by omega)  (lv_sub hl [1, 0, 2, 3, 4, 5, 6, 7, 8, 9, 10, 11, 12, 13, 14, 15] rfl)
        exact lp234 _ 0 0 _ (Nat.lt_succ_self _) (by omega) (rfl) (by omega)  (lv_sub hl [1, 0, 4, 3, 2, 5, 6, 7, 8, 9, 10, 11, 12, 13, 14, 15] rfl)
      · refine lv_aload_n S.1 S.2.1 dL_isTold_13 rfl (lv_at hl 4 rfl) ?_
        refine lv_aload S.1 S.2.1 dL_isTold_14 (lv_at hl 12 rfl) ?_
        refine lv_iconst (v := nI 0) S.1 S.2.1 dL_isTold_16 (by decide) ?_
        refine mj_ild S E hM 9 (by omega) (by show _ < 4; omega) dL_isTold_17 ?_
        refine mi_top (v' := .int (nI (sW T))) (congrArg Value.int g0) ?_
        refine lv_iload S.1 S.2.1 dL_isTold_18 (lv_at hl 1 rfl) ?_
        refine mi_cR (mi_runS (P := mj_W D A q T gl gi) (As := [.ref (q 1), .int (nI (sW T)), .int (nI (kc))]) (rest := []) S E hS hM (c_Lcolumn l D A (by omega) (by omega)) mw_350 mw_348 mw_349 mw_17 ⟨by decide, by decide, by decide +kernel⟩ ⟨rfl, rfl, Nat.le_of_ble_eq_true rfl, Nat.le_of_ble_eq_true rfl⟩ (n := 3) rfl hl.1 rfl (Nat.le_of_ble_eq_true rfl) dL_isTold_20 ⟨by show _ ≤ (60 : Nat); omega, by show _ ≤ (360 : Nat); omega⟩) (fun r9 e9 => ?_)
        subst e9
        have hits := hk9 (sW T) kc o3 (by omega)
        obtain ⟨its, hie⟩ : ∃ z, z = lj_col (gl 1) (sW T) kc := ⟨_, rfl⟩
        refine mi_top (v' := .int its) (by rw [hie]) ?_
        rw [← hie] at hits
        refine lv_istore (lv' := [(13, .int (its)), (11, .int (nI (bk))), (12, .int (nI (kc))), (0, .ref (q 0)), (1, .int (y)), (2, .ref (q 1)), (3, .ref (q 2)), (4, .ref (q 3)), (5, .ref (q 4)), (6, .ref (q 5)), (7, .ref (q 6)), (8, .ref (q 7)), (9, .ref (q 8)), (10, .ref (q 9))]) S.1 S.2.1 dL_isTold_23 hl (by decide) rfl (fun ls hl => ?_)
        refine lv_iconst (v := nI 0) S.1 S.2.1 dL_isTold_25 (by decide) ?_
        refine lv_istore (lv' := [(14, .int (nI (0))), (13, .int (its)), (11, .int (nI (bk))), (12, .int (nI (kc))), (0, .ref (q 0)), (1, .int (y)), (2, .ref (q 1)), (3, .ref (q 2)), (4, .ref (q 3)), (5, .ref (q 4)), (6, .ref (q 5)), (7, .ref (q 6)), (8, .ref (q 7)), (9, .ref (q 8)), (10, .ref (q 9))]) S.1 S.2.1 dL_isTold_26 hl (by decide) rfl (fun ls hl => ?_)
        refine lv_iconst (v := nI 0) S.1 S.2.1 dL_isTold_28 (by decide) ?_
        refine lv_istore (lv' := [(15, .int (nI (0))), (14, .int (nI (0))), (13, .int (its)), (11, .int (nI (bk))), (12, .int (nI (kc))), (0, .ref (q 0)), (1, .int (y)), (2, .ref (q 1)), (3, .ref (q 2)), (4, .ref (q 3)), (5, .ref (q 4)), (6, .ref (q 5)), (7, .ref (q 6)), (8, .ref (q 7)), (9, .ref (q 8)), (10, .ref (q 9))]) S.1 S.2.1 dL_isTold_29 hl (by decide) rfl (fun ls hl => ?_)
        refine lv_iconst (v := nI 0) S.1 S.2.1 dL_isTold_31 (by decide) ?_
        refine lv_istore (lv' := [(16, .int (nI (0))), (15, .int (nI (0))), (14, .int (nI (0))), (13, .int (its)), (11, .int (nI (bk))), (12, .int (nI (kc))), (0, .ref (q 0)), (1, .int (y)), (2, .ref (q 1)), (3, .ref (q 2)), (4, .ref (q 3)), (5, .ref (q 4)), (6, .ref (q 5)), (7, .ref (q 6)), (8, .ref (q 7)), (9, .ref (q 8)), (10, .ref (q 9))]) S.1 S.2.1 dL_isTold_32 hl (by decide) rfl (fun ls hl => ?_)
        have lp34 : ∀ (n34 : Nat) (bl : Nat) (nn : Nat) (rn : Nat) (lv : Nat) (ls : Array Slot), 8 - lv < n34 → lv ≤ 8 → bl = fb_sm (sp_bl (sK T (sW T))) (8 * kc + lv) → rn = fb_sm (sp_er (sK T (sW T)) kc) lv → (lv ≤ 7 → nn = fb_sm (fun j => if sp_ri (sK T (sW T)) kc j = rn then 1 else 0) lv) → nn ≤ lv → rn ≤ lv → lv_has ls 21 [(11, .int (nI (bl))), (16, .int (nI (lv))), (15, .int (nI (nn))), (14, .int (nI (rn))), (13, .int (its)), (12, .int (nI (kc))), (0, .ref (q 0)), (1, .int (y)), (2, .ref (q 1)), (3, .ref (q 2)), (4, .ref (q 3)), (5, .ref (q 4)), (6, .ref (q 5)), (7, .ref (q 6)), (8, .ref (q 7)), (9, .ref (q 8)), (10, .ref (q 9))] → W p l e (mi_rq 10 60 360) s m ([.ref (q 0), .int (y), .ref (q 1), .ref (q 2), .ref (q 3), .ref (q 4), .ref (q 5), .ref (q 6), .ref (q 7), .ref (q 8), .ref (q 9)] : List Value).toArray below meth c H locs (2 * kc) (12 * kc) (MQ below (mi_Qi A (fun r H => r = nI 1 ∧ mj_I D A q H)) ([.ref (q 0), .int (y), .ref (q 1), .ref (q 2), .ref (q 3), .ref (q 4), .ref (q 5), .ref (q 6), .ref (q 7), .ref (q 8), .ref (q 9)] : List Value).toArray s 60 360 A) (F0 m 34 ls []) := by
          intro n34
          induction n34 with
          | zero => intro bl nn rn lv ls hm hl8 hbl hr hn hnn hrn  hl; exact absurd hm (Nat.not_lt_zero _)
          | succ n34 ih34 =>
            intro bl nn rn lv ls hm hl8 hbl hr hn hnn hrn  hl
            refine lv_iload S.1 S.2.1 dL_isTold_34 (lv_at hl 1 rfl) ?_
            refine lv_bipush (v := nI 8) S.1 S.2.1 dL_isTold_36 (by decide) ?_
            refine mi_icmp_ge (tgt := 148) S (by omega) (by omega) dL_isTold_38 (by decide) (fun c38_53 => ?_) (fun c38_53 => ?_)
            · have hrs : rn = sp_runs (sK T (sW T)) kc := by rw [hr, show lv = 8 by omega]; exact sp_er_all (sK T (sW T)) kc
              have hrb : sp_runs (sK T (sW T)) kc ≤ 8 := by have := sp_ri_le (sK T (sW T)) kc 7; unfold sp_runs; omega
              have hhl := sp_h_le (sK T (sW T)) kc 8
              refine lv_aload_n S.1 S.2.1 dL_isTold_148 rfl (lv_at hl 6 rfl) ?_
              refine lv_iload S.1 S.2.1 dL_isTold_149 (lv_at hl 5 rfl) ?_
              refine mi_cR (mi_runV (P := mj_W D A q T gl gi) (As := [.int (nI (kc))]) (rest := []) S E hS hM (q 0) (j_runs l D A hst q hO (by omega)) (hM.recv E) mw_612 mw_609 mw_610 mw_611 mw_18 ⟨by decide, by decide, by decide +kernel⟩ ⟨rfl, rfl, Nat.le_of_ble_eq_true rfl, Nat.le_of_ble_eq_true rfl⟩ (n := 1) rfl hl.1 rfl (Nat.le_of_ble_eq_true rfl) dL_isTold_151 ⟨by show _ ≤ (60 : Nat); omega, by show _ ≤ (360 : Nat); omega⟩) (fun r9 e9 => ?_)
              subst e9
              refine lv_iload S.1 S.2.1 dL_isTold_154 (lv_at hl 3 rfl) ?_
              refine mi_icmp_ne (tgt := 198) S (by omega) (by omega) dL_isTold_156 (by decide) (fun c156_54 => by exfalso; omega) (fun c156_54 => ?_)
              refine lv_aload_n S.1 S.2.1 dL_isTold_159 rfl (lv_at hl 6 rfl) ?_
              refine lv_iload S.1 S.2.1 dL_isTold_160 (lv_at hl 5 rfl) ?_
              refine lv_iload S.1 S.2.1 dL_isTold_162 (lv_at hl 3 rfl) ?_
              refine mi_cMi (mi_runSH (P := mj_W D A q T gl gi) (As := [.ref (q 0), .int (nI (kc)), .int (nI (rn))]) (rest := []) S E hS hM (j_runLength_x2 l D A hst q hO (by omega) (lj_tn (by omega) (by omega))) mw_591 mw_589 mw_590 mw_17 ⟨by decide, by decide, by decide +kernel⟩ ⟨rfl, rfl, Nat.le_of_ble_eq_true rfl, Nat.le_of_ble_eq_true rfl⟩ (n := 3) rfl hl.1 rfl (Nat.le_of_ble_eq_true rfl) dL_isTold_164 ⟨(by show _ ≤ (60 : Nat); omega), (by show _ ≤ (360 : Nat); omega)⟩) hS (fun r9 H locs hp9 hS hz9 => ?_)
              obtain ⟨e9, hM⟩ := hp9
              refine mi_top (v' := .int (-71)) (by rw [e9]) ?_
              refine lv_bipush (v := (-71)) S.1 S.2.1 dL_isTold_167 (by decide) ?_
              refine lv_icmp_ne (tgt := 198) S.1 S.2.1 dL_isTold_169 (by decide) (fun c169_55 => absurd rfl c169_55) (fun _ => ?_)
              refine lv_aload_n S.1 S.2.1 dL_isTold_172 rfl (lv_at hl 6 rfl) ?_
              refine lv_iload S.1 S.2.1 dL_isTold_173 (lv_at hl 5 rfl) ?_
              refine lv_iconst (v := (-1)) S.1 S.2.1 dL_isTold_175 (by decide) ?_
              refine mi_cMi (mi_runSH (P := mj_W D A q T gl gi) (As := [.ref (q 0), .int (nI (kc)), .int (-1)]) (rest := []) S E hS hM (j_runLength_x2 l D A hst q hO (by omega) lj_m1) mw_591 mw_589 mw_590 mw_17 ⟨by decide, by decide, by decide +kernel⟩ ⟨rfl, rfl, Nat.le_of_ble_eq_true rfl, Nat.le_of_ble_eq_true rfl⟩ (n := 3) rfl hl.1 rfl (Nat.le_of_ble_eq_true rfl) dL_isTold_176 ⟨(by show _ ≤ (60 : Nat); omega), (by show _ ≤ (360 : Nat); omega)⟩) hS (fun r9 H locs hp9 hS hz9 => ?_)
              obtain ⟨e9, hM⟩ := hp9
              refine mi_top (v' := .int (-71)) (by rw [e9]) ?_
              refine lv_bipush (v := (-71)) S.1 S.2.1 dL_isTold_179 (by decide) ?_
              refine lv_icmp_ne (tgt := 198) S.1 S.2.1 dL_isTold_181 (by decide) (fun c181_56 => absurd rfl c181_56) (fun _ => ?_)
              refine lv_aload_n S.1 S.2.1 dL_isTold_184 rfl (lv_at hl 6 rfl) ?_
              refine lv_iload S.1 S.2.1 dL_isTold_185 (lv_at hl 5 rfl) ?_
              refine mi_cR (mi_runV (P := mj_W D A q T gl gi) (As := [.int (nI (kc))]) (rest := []) S E hS hM (q 0) (j_height l D A hst q hO (by omega)) (hM.recv E) mw_616 mw_613 mw_614 mw_615 mw_18 ⟨by decide, by decide, by decide +kernel⟩ ⟨rfl, rfl, Nat.le_of_ble_eq_true rfl, Nat.le_of_ble_eq_true rfl⟩ (n := 1) rfl hl.1 rfl (Nat.le_of_ble_eq_true rfl) dL_isTold_187 ⟨by show _ ≤ (60 : Nat); omega, by show _ ≤ (360 : Nat); omega⟩) (fun r9 e9 => ?_)
              subst e9
              refine lv_iload S.1 S.2.1 dL_isTold_190 (lv_at hl 4 rfl) ?_
              refine mi_cR (mi_runS (P := mj_W D A q T gl gi) (As := [.int (its)]) (rest := [.int (nI (sp_h (sK T (sW T)) kc 8))]) S E hS hM (c_Lheight l D A (mj_W D A q T gl gi) hits (fun l1 h1 => hKb _ (by omega))) mw_504 mw_502 mw_503 mw_17 ⟨by decide, by decide, by decide +kernel⟩ ⟨rfl, rfl, Nat.le_of_ble_eq_true rfl, Nat.le_of_ble_eq_true rfl⟩ (n := 1) rfl hl.1 rfl (Nat.le_of_ble_eq_true rfl) dL_isTold_192 ⟨by show _ ≤ (60 : Nat); omega, by show _ ≤ (360 : Nat); omega⟩) (fun r9 e9 => ?_)
              subst e9
              refine mi_icmp_eq (tgt := 200) S (by omega) (by omega) dL_isTold_195 (by decide) (fun c195_57 => ?_) (fun c195_57 => by exfalso; omega)
              refine lv_iinc (v := nI (kc + 1)) (lv' := [(12, .int (nI (kc + 1))), (11, .int (nI (bl))), (16, .int (nI (lv))), (15, .int (nI (nn))), (14, .int (nI (rn))), (13, .int (its)), (0, .ref (q 0)), (1, .int (y)), (2, .ref (q 1)), (3, .ref (q 2)), (4, .ref (q 3)), (5, .ref (q 4)), (6, .ref (q 5)), (7, .ref (q 6)), (8, .ref (q 7)), (9, .ref (q 8)), (10, .ref (q 9))]) S.1 S.2.1 dL_isTold_200 hl (k := 5) rfl (mi_inc _) (by decide) rfl (fun ls hl => ?_)
              refine lv_goto (tgt := 6) S.1 S.2.1 dL_isTold_203 (by decide) ?_
              refine W.widen (k := 2 * (kc + 1)) (n := 12 * (kc + 1)) (by omega) (by omega) ?_
              exact ih6 bl (kc + 1) _ _ _ (by omega) (by omega) (by rw [hbl, show lv = 8 by omega]; rfl) hM hS (lv_sub hl [1, 0, 6, 7, 8, 9, 10, 11, 12, 13, 14, 15, 16] rfl)
            · have mg61_59 : ∀ (b2 : Nat) (ls : Array Slot), b2 = fb_sm (sp_bl (sK T (sW T))) (8 * kc + (lv + 1)) → lv_has ls 21 [(16, .int (nI (lv))), (15, .int (nI (nn))), (14, .int (nI (rn))), (13, .int (its)), (12, .int (nI (kc))), (0, .ref (q 0)), (1, .int (y)), (2, .ref (q 1)), (3, .ref (q 2)), (4, .ref (q 3)), (5, .ref (q 4)), (6, .ref (q 5)), (7, .ref (q 6)), (8, .ref (q 7)), (9, .ref (q 8)), (10, .ref (q 9))] → W p l e (mi_rq 10 60 360) s m ([.ref (q 0), .int (y), .ref (q 1), .ref (q 2), .ref (q 3), .ref (q 4), .ref (q 5), .ref (q 6), .ref (q 7), .ref (q 8), .ref (q 9)] : List Value).toArray below meth c H locs (2 * kc) (12 * kc) (MQ below (mi_Qi A (fun r H => r = nI 1 ∧ mj_I D A q H)) ([.ref (q 0), .int (y), .ref (q 1), .ref (q 2), .ref (q 3), .ref (q 4), .ref (q 5), .ref (q 6), .ref (q 7), .ref (q 8), .ref (q 9)] : List Value).toArray s 60 360 A) (F0 m 61 ls [.int (nI (b2))]) := by
                intro b2 ls hb2  hl
                refine lv_istore (lv' := [(11, .int (nI (b2))), (16, .int (nI (lv))), (15, .int (nI (nn))), (14, .int (nI (rn))), (13, .int (its)), (12, .int (nI (kc))), (0, .ref (q 0)), (1, .int (y)), (2, .ref (q 1)), (3, .ref (q 2)), (4, .ref (q 3)), (5, .ref (q 4)), (6, .ref (q 5)), (7, .ref (q 6)), (8, .ref (q 7)), (9, .ref (q 8)), (10, .ref (q 9))]) S.1 S.2.1 dL_isTold_61 hl (by decide) rfl (fun ls hl => ?_)
                have hkb := hKb (8 * kc + lv) (by omega)
                refine lv_aload_n S.1 S.2.1 dL_isTold_63 rfl (lv_at hl 6 rfl) ?_
                refine lv_iload S.1 S.2.1 dL_isTold_64 (lv_at hl 5 rfl) ?_
                refine lv_iload S.1 S.2.1 dL_isTold_66 (lv_at hl 1 rfl) ?_
                refine mi_cR (mi_runSH (P := mj_W D A q T gl gi) (As := [.ref (q 0), .int (nI (kc)), .int (nI (lv))]) (rest := []) S E hS hM (j_kind l D A hst q hO (by omega) (by omega)) mw_583 mw_581 mw_582 mw_17 ⟨by decide, by decide, by decide +kernel⟩ ⟨rfl, rfl, Nat.le_of_ble_eq_true rfl, Nat.le_of_ble_eq_true rfl⟩ (n := 3) rfl hl.1 rfl (Nat.le_of_ble_eq_true rfl) dL_isTold_68 ⟨by show _ ≤ (60 : Nat); omega, by show _ ≤ (360 : Nat); omega⟩) (fun r9 e9 => ?_)
                subst e9
                refine lv_iload S.1 S.2.1 dL_isTold_71 (lv_at hl 4 rfl) ?_
                refine lv_iconst (v := nI 2) S.1 S.2.1 dL_isTold_73 (by decide) ?_
                refine lv_iload S.1 S.2.1 dL_isTold_74 (lv_at hl 1 rfl) ?_
                refine mi_imul S dL_isTold_76 ?_
                refine lv_ishr S.1 S.2.1 dL_isTold_77 ?_
                refine lv_iconst (v := nI 3) S.1 S.2.1 dL_isTold_78 (by decide) ?_
                refine lv_iand S.1 S.2.1 dL_isTold_79 ?_
                refine mi_top (v' := .int (nI (sK T (sW T) (8 * kc + lv)))) (congrArg Value.int (hits.1 (lv) (by omega))) ?_
                refine mi_icmp_eq (tgt := 85) S (by omega) (by omega) dL_isTold_80 (by decide) (fun c80_59 => ?_) (fun c80_59 => by exfalso; omega)
                refine lv_iinc (v := nI (nn + 1)) (lv' := [(15, .int (nI (nn + 1))), (11, .int (nI (b2))), (16, .int (nI (lv))), (14, .int (nI (rn))), (13, .int (its)), (12, .int (nI (kc))), (0, .ref (q 0)), (1, .int (y)), (2, .ref (q 1)), (3, .ref (q 2)), (4, .ref (q 3)), (5, .ref (q 4)), (6, .ref (q 5)), (7, .ref (q 6)), (8, .ref (q 7)), (9, .ref (q 8)), (10, .ref (q 9))]) S.1 S.2.1 dL_isTold_85 hl (k := 2) rfl (mi_inc _) (by decide) rfl (fun ls hl => ?_)
                refine lv_iload S.1 S.2.1 dL_isTold_88 (lv_at hl 2 rfl) ?_
                refine lv_bipush (v := nI 7) S.1 S.2.1 dL_isTold_90 (by decide) ?_
                refine mi_icmp_ge (tgt := 121) S (by omega) (by omega) dL_isTold_92 (by decide) (fun c92_60 => ?_) (fun c92_60 => ?_)
                · have hri : rn = sp_ri (sK T (sW T)) kc lv := by rw [hr]; exact sp_er_sum (sK T (sW T)) kc (by omega)
                  have hl7 : lv = 7 := by omega
                  have her : sp_er (sK T (sW T)) kc lv = 1 := by rw [hl7]; exact sp_er_7 (sK T (sW T)) kc
                  have hen : lv = 7 ∨ sp_ri (sK T (sW T)) kc (lv + 1) = sp_ri (sK T (sW T)) kc lv + 1 := Or.inl hl7
                  have hlen : sp_rl (sK T (sW T)) kc rn = nn + 1 := by rw [hn (by omega), hri]; exact sq_len (by omega) hen
                  have hrm := sp_ri_mono (K := (sK T (sW T))) (c := kc) (show lv ≤ 7 by omega)
                  have hru : rn < sp_runs (sK T (sW T)) kc := by unfold sp_runs; omega
                  refine lv_aload_n S.1 S.2.1 dL_isTold_121 rfl (lv_at hl 6 rfl) ?_
                  refine lv_iload S.1 S.2.1 dL_isTold_122 (lv_at hl 5 rfl) ?_
                  refine lv_iload S.1 S.2.1 dL_isTold_124 (lv_at hl 3 rfl) ?_
                  refine mi_cR (mi_runSH (P := mj_W D A q T gl gi) (As := [.ref (q 0), .int (nI (kc)), .int (nI (rn))]) (rest := []) S E hS hM (j_runLength l D A hst q hO (by omega) hru) mw_591 mw_589 mw_590 mw_17 ⟨by decide, by decide, by decide +kernel⟩ ⟨rfl, rfl, Nat.le_of_ble_eq_true rfl, Nat.le_of_ble_eq_true rfl⟩ (n := 3) rfl hl.1 rfl (Nat.le_of_ble_eq_true rfl) dL_isTold_126 ⟨by show _ ≤ (60 : Nat); omega, by show _ ≤ (360 : Nat); omega⟩) (fun r9 e9 => ?_)
                  subst e9
                  refine lv_iload S.1 S.2.1 dL_isTold_129 (lv_at hl 0 rfl) ?_
                  refine mi_icmp_eq (tgt := 136) S (by omega) (by omega) dL_isTold_131 (by decide) (fun c131_61 => ?_) (fun c131_61 => by exfalso; omega)
                  refine lv_iinc (v := nI (rn + 1)) (lv' := [(14, .int (nI (rn + 1))), (15, .int (nI (nn + 1))), (11, .int (nI (b2))), (16, .int (nI (lv))), (13, .int (its)), (12, .int (nI (kc))), (0, .ref (q 0)), (1, .int (y)), (2, .ref (q 1)), (3, .ref (q 2)), (4, .ref (q 3)), (5, .ref (q 4)), (6, .ref (q 5)), (7, .ref (q 6)), (8, .ref (q 7)), (9, .ref (q 8)), (10, .ref (q 9))]) S.1 S.2.1 dL_isTold_136 hl (k := 3) rfl (mi_inc _) (by decide) rfl (fun ls hl => ?_)
                  refine lv_iconst (v := nI 0) S.1 S.2.1 dL_isTold_139 (by decide) ?_
                  refine lv_istore (lv' := [(15, .int (nI (0))), (14, .int (nI (rn + 1))), (11, .int (nI (b2))), (16, .int (nI (lv))), (13, .int (its)), (12, .int (nI (kc))), (0, .ref (q 0)), (1, .int (y)), (2, .ref (q 1)), (3, .ref (q 2)), (4, .ref (q 3)), (5, .ref (q 4)), (6, .ref (q 5)), (7, .ref (q 6)), (8, .ref (q 7)), (9, .ref (q 8)), (10, .ref (q 9))]) S.1 S.2.1 dL_isTold_140 hl (by decide) rfl (fun ls hl => ?_)
                  refine lv_iinc (v := nI (lv + 1)) (lv' := [(16, .int (nI (lv + 1))), (15, .int (nI (0))), (14, .int (nI (rn + 1))), (11, .int (nI (b2))), (13, .int (its)), (12, .int (nI (kc))), (0, .ref (q 0)), (1, .int (y)), (2, .ref (q 1)), (3, .ref (q 2)), (4, .ref (q 3)), (5, .ref (q 4)), (6, .ref (q 5)), (7, .ref (q 6)), (8, .ref (q 7)), (9, .ref (q 8)), (10, .ref (q 9))]) S.1 S.2.1 dL_isTold_142 hl (k := 3) rfl (mi_inc _) (by decide) rfl (fun ls hl => ?_)
                  refine lv_goto (tgt := 34) S.1 S.2.1 dL_isTold_145 (by decide) ?_
                  exact ih34 b2 0 (rn + 1) (lv + 1) _ (by omega) (by omega) (hb2) (by rw [fb_sm_succ, her, ← hr]) (fun z => absurd z (by omega)) (by omega) (by omega)  (lv_sub hl [3, 0, 1, 2, 4, 5, 6, 7, 8, 9, 10, 11, 12, 13, 14, 15, 16] rfl)
                · have hkb1 := hKb (8 * kc + lv + 1) (by omega)
                  refine lv_iload S.1 S.2.1 dL_isTold_95 (lv_at hl 4 rfl) ?_
                  refine lv_iconst (v := nI 2) S.1 S.2.1 dL_isTold_97 (by decide) ?_
                  refine lv_iload S.1 S.2.1 dL_isTold_98 (lv_at hl 2 rfl) ?_
                  refine mi_imul S dL_isTold_100 ?_
                  refine lv_ishr S.1 S.2.1 dL_isTold_101 ?_
                  refine lv_iconst (v := nI 3) S.1 S.2.1 dL_isTold_102 (by decide) ?_
                  refine lv_iand S.1 S.2.1 dL_isTold_103 ?_
                  refine mi_top (v' := .int (nI (sK T (sW T) (8 * kc + lv)))) (congrArg Value.int (hits.1 (lv) (by omega))) ?_
                  refine lv_iload S.1 S.2.1 dL_isTold_104 (lv_at hl 4 rfl) ?_
                  refine lv_iconst (v := nI 2) S.1 S.2.1 dL_isTold_106 (by decide) ?_
                  refine lv_iload S.1 S.2.1 dL_isTold_107 (lv_at hl 2 rfl) ?_
                  refine mi_imul S dL_isTold_109 ?_
                  refine lv_iconst (v := nI 2) S.1 S.2.1 dL_isTold_110 (by decide) ?_
                  refine mi_iadd S dL_isTold_111 ?_
                  refine lv_ishr S.1 S.2.1 dL_isTold_112 ?_
                  refine lv_iconst (v := nI 3) S.1 S.2.1 dL_isTold_113 (by decide) ?_
                  refine lv_iand S.1 S.2.1 dL_isTold_114 ?_
                  refine mi_top (v' := .int (nI (sK T (sW T) (8 * kc + lv + 1)))) (by rw [show 2 * lv + 2 = 2 * (lv + 1) by omega]; exact congrArg Value.int (hits.1 (lv + 1) (by omega))) ?_
                  refine mi_icmp_ne (tgt := 121) S (by omega) (by omega) dL_isTold_115 (by decide) (fun c115_62 => ?_) (fun c115_62 => ?_)
                  · have hri : rn = sp_ri (sK T (sW T)) kc lv := by rw [hr]; exact sp_er_sum (sK T (sW T)) kc (by omega)
                    have hne : sp_ne (sK T (sW T)) (8 * kc + lv) = 1 := if_neg c115_62
                    have her : sp_er (sK T (sW T)) kc lv = 1 := by rw [sp_er_n (sK T (sW T)) kc (by omega)]; exact hne
                    have hrs1 : sp_ri (sK T (sW T)) kc (lv + 1) = sp_ri (sK T (sW T)) kc lv + 1 := by rw [sp_ri_succ, hne]
                    have hen : lv = 7 ∨ sp_ri (sK T (sW T)) kc (lv + 1) = sp_ri (sK T (sW T)) kc lv + 1 := Or.inr hrs1
                    have hlen : sp_rl (sK T (sW T)) kc rn = nn + 1 := by rw [hn (by omega), hri]; exact sq_len (by omega) hen
                    have hrm := sp_ri_mono (K := (sK T (sW T))) (c := kc) (show lv ≤ 7 by omega)
                    have hru : rn < sp_runs (sK T (sW T)) kc := by unfold sp_runs; omega
                    refine lv_aload_n S.1 S.2.1 dL_isTold_121 rfl (lv_at hl 6 rfl) ?_
                    refine lv_iload S.1 S.2.1 dL_isTold_122 (lv_at hl 5 rfl) ?_
                    refine lv_iload S.1 S.2.1 dL_isTold_124 (lv_at hl 3 rfl) ?_
                    refine mi_cR (mi_runSH (P := mj_W D A q T gl gi) (As := [.ref (q 0), .int (nI (kc)), .int (nI (rn))]) (rest := []) S E hS hM (j_runLength l D A hst q hO (by omega) hru) mw_591 mw_589 mw_590 mw_17 ⟨by decide, by decide, by decide +kernel⟩ ⟨rfl, rfl, Nat.le_of_ble_eq_true rfl, Nat.le_of_ble_eq_true rfl⟩ (n := 3) rfl hl.1 rfl (Nat.le_of_ble_eq_true rfl) dL_isTold_126 ⟨by show _ ≤ (60 : Nat); omega, by show _ ≤ (360 : Nat); omega⟩) (fun r9 e9 => ?_)
                    subst e9
                    refine lv_iload S.1 S.2.1 dL_isTold_129 (lv_at hl 0 rfl) ?_
                    refine mi_icmp_eq (tgt := 136) S (by omega) (by omega) dL_isTold_131 (by decide) (fun c131_63 => ?_) (fun c131_63 => by exfalso; omega)
                    refine lv_iinc (v := nI (rn + 1)) (lv' := [(14, .int (nI (rn + 1))), (15, .int (nI (nn + 1))), (11, .int (nI (b2))), (16, .int (nI (lv))), (13, .int (its)), (12, .int (nI (kc))), (0, .ref (q 0)), (1, .int (y)), (2, .ref (q 1)), (3, .ref (q 2)), (4, .ref (q 3)), (5, .ref (q 4)), (6, .ref (q 5)), (7, .ref (q 6)), (8, .ref (q 7)), (9, .ref (q 8)), (10, .ref (q 9))]) S.1 S.2.1 dL_isTold_136 hl (k := 3) rfl (mi_inc _) (by decide) rfl (fun ls hl => ?_)
                    refine lv_iconst (v := nI 0) S.1 S.2.1 dL_isTold_139 (by decide) ?_
                    refine lv_istore (lv' := [(15, .int (nI (0))), (14, .int (nI (rn + 1))), (11, .int (nI (b2))), (16, .int (nI (lv))), (13, .int (its)), (12, .int (nI (kc))), (0, .ref (q 0)), (1, .int (y)), (2, .ref (q 1)), (3, .ref (q 2)), (4, .ref (q 3)), (5, .ref (q 4)), (6, .ref (q 5)), (7, .ref (q 6)), (8, .ref (q 7)), (9, .ref (q 8)), (10, .ref (q 9))]) S.1 S.2.1 dL_isTold_140 hl (by decide) rfl (fun ls hl => ?_)
                    refine lv_iinc (v := nI (lv + 1)) (lv' := [(16, .int (nI (lv + 1))), (15, .int (nI (0))), (14, .int (nI (rn + 1))), (11, .int (nI (b2))), (13, .int (its)), (12, .int (nI (kc))), (0, .ref (q 0)), (1, .int (y)), (2, .ref (q 1)), (3, .ref (q 2)), (4, .ref (q 3)), (5, .ref (q 4)), (6, .ref (q 5)), (7, .ref (q 6)), (8, .ref (q 7)), (9, .ref (q 8)), (10, .ref (q 9))]) S.1 S.2.1 dL_isTold_142 hl (k := 3) rfl (mi_inc _) (by decide) rfl (fun ls hl => ?_)
                    refine lv_goto (tgt := 34) S.1 S.2.1 dL_isTold_145 (by decide) ?_
                    exact ih34 b2 0 (rn + 1) (lv + 1) _ (by omega) (by omega) (hb2) (by rw [fb_sm_succ, her, ← hr]) (fun _ => by rw [show rn + 1 = sp_ri (sK T (sW T)) kc (lv + 1) by omega]; exact (sq_new hrs1).symm) (by omega) (by omega)  (lv_sub hl [3, 0, 1, 2, 4, 5, 6, 7, 8, 9, 10, 11, 12, 13, 14, 15, 16] rfl)
                  · have hri : rn = sp_ri (sK T (sW T)) kc lv := by rw [hr]; exact sp_er_sum (sK T (sW T)) kc (by omega)
                    have hne : sp_ne (sK T (sW T)) (8 * kc + lv) = 0 := if_pos c115_62
                    have her : sp_er (sK T (sW T)) kc lv = 0 := by rw [sp_er_n (sK T (sW T)) kc (by omega)]; exact hne
                    have hrs1 : sp_ri (sK T (sW T)) kc (lv + 1) = sp_ri (sK T (sW T)) kc lv := by rw [sp_ri_succ, hne, Nat.add_zero]
                    refine lv_goto (tgt := 142) S.1 S.2.1 dL_isTold_118 (by decide) ?_
                    refine lv_iinc (v := nI (lv + 1)) (lv' := [(16, .int (nI (lv + 1))), (15, .int (nI (nn + 1))), (11, .int (nI (b2))), (14, .int (nI (rn))), (13, .int (its)), (12, .int (nI (kc))), (0, .ref (q 0)), (1, .int (y)), (2, .ref (q 1)), (3, .ref (q 2)), (4, .ref (q 3)), (5, .ref (q 4)), (6, .ref (q 5)), (7, .ref (q 6)), (8, .ref (q 7)), (9, .ref (q 8)), (10, .ref (q 9))]) S.1 S.2.1 dL_isTold_142 hl (k := 2) rfl (mi_inc _) (by decide) rfl (fun ls hl => ?_)
                    refine lv_goto (tgt := 34) S.1 S.2.1 dL_isTold_145 (by decide) ?_
                    exact ih34 b2 (nn + 1) rn (lv + 1) _ (by omega) (by omega) (hb2) (by rw [fb_sm_succ, her, ← hr, Nat.add_zero]) (fun _ => by rw [hn (by omega), hri, ← sq_same hrs1, hrs1]) (by omega) (by omega)  (lv_sub hl [2, 0, 1, 3, 4, 5, 6, 7, 8, 9, 10, 11, 12, 13, 14, 15, 16] rfl)
              have hkb := hKb (8 * kc + lv) (by omega)
              refine lv_iload S.1 S.2.1 dL_isTold_41 (lv_at hl 0 rfl) ?_
              refine lv_iload S.1 S.2.1 dL_isTold_43 (lv_at hl 4 rfl) ?_
              refine lv_iconst (v := nI 2) S.1 S.2.1 dL_isTold_45 (by decide) ?_
              refine lv_iload S.1 S.2.1 dL_isTold_46 (lv_at hl 1 rfl) ?_
              refine mi_imul S dL_isTold_48 ?_
              refine lv_ishr S.1 S.2.1 dL_isTold_49 ?_
              refine lv_iconst (v := nI 3) S.1 S.2.1 dL_isTold_50 (by decide) ?_
              refine lv_iand S.1 S.2.1 dL_isTold_51 ?_
              refine mi_top (v' := .int (nI (sK T (sW T) (8 * kc + lv)))) (congrArg Value.int (hits.1 (lv) (by omega))) ?_
              refine mi_if_le (tgt := 59) S (by omega) dL_isTold_52 (by decide) (fun c52_64 => ?_) (fun c52_64 => ?_)
              · refine lv_iconst (v := nI 0) S.1 S.2.1 dL_isTold_59 (by decide) ?_
                refine mi_iadd S dL_isTold_60 ?_
                exact mg61_59 ((bl + 0))  _ (by rw [← Nat.add_assoc, fb_sm_succ]; first | rw [sp_bl_0 (by omega), ← hbl] | rw [sp_bl_1 (by omega), ← hbl])  (lv_sub hl [1, 2, 3, 4, 5, 6, 7, 8, 9, 10, 11, 12, 13, 14, 15, 16] rfl)
              · refine lv_iconst (v := nI 1) S.1 S.2.1 dL_isTold_55 (by decide) ?_
                refine lv_goto (tgt := 60) S.1 S.2.1 dL_isTold_56 (by decide) ?_
                refine mi_iadd S dL_isTold_60 ?_
                exact mg61_59 ((bl + 1))  _ (by rw [← Nat.add_assoc, fb_sm_succ]; first | rw [sp_bl_0 (by omega), ← hbl] | rw [sp_bl_1 (by omega), ← hbl])  (lv_sub hl [1, 2, 3, 4, 5, 6, 7, 8, 9, 10, 11, 12, 13, 14, 15, 16] rfl)
        exact lp34 _ bk 0 0 0 _ (Nat.lt_succ_self _) (by omega) (hb) (rfl) (fun _ => rfl) (by omega) (by omega)  (lv_sub hl [4, 0, 1, 2, 3, 5, 6, 7, 8, 9, 10, 11, 12, 13, 14, 15, 16] rfl)
  refine W.widen (k := 2 * 0) (n := 12 * 0) (by omega) (by omega) ?_
  exact lp6 _ 0 0 _ _ _ (Nat.lt_succ_self _) (by omega) (rfl) hM hS (lv_sub hl [1, 0, 2, 3, 4, 5, 6, 7, 8, 9, 10, 11, 12] rfl)
