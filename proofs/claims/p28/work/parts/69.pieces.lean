/-! the law's pieces, walked -/
theorem lp_or0 (n : Nat) : nI n ||| nI 0 = nI n := b_ext (fun i _ => by rw [b_or, show bt (nI 0) i = false from b_0 i, Bool.or_false])
theorem lp_or1 {n : Nat} (h : n ≤ 1) : nI n ||| nI 1 = nI 1 := by
  rcases (show n = 0 ∨ n = 1 by omega) with rfl | rfl <;> decide
set_option maxHeartbeats 4000000 in
set_option maxRecDepth 100000 in
theorem c_Lpieces (l : Launch) (D : va_G) (A : Nat → Prop) {q : Nat → Nat} {T : sT} {gl : Nat → Nat → Int64} {gi : Nat → Nat → Int32} (h0 : gi 9 0 = nI (sW T)) (hw : sW T < 16) (hc : ∀ c, c < 16 → mo_pk (lj_col (gl 1) (sW T) c) (sK T (sW T)) c) (hKb : ∀ j, j < 128 → sK T (sW T) j < 4) {k9 : Nat} (hct9 : pc_ct (pc_lst (sK T (sW T))) 128 k9) : mi_Mi l yL_pieces (Cond.code yL_pieces cL_pieces 9 (some Jvm.ClassFile.FieldType.int)) (mi_rm 1) D A (mj_W D A q T gl gi) [.ref (q 1), .ref (q 7), .ref (q 8), .ref (q 9)] 0 0 (fun r H => r = nI k9 ∧ ∃ vv ff, mj_W D A q T gl (va_up (va_up gi 7 vv) 8 ff) H) := by
  refine mi_start (cc := cL_pieces) (nL := 9) (ret := (some Jvm.ClassFile.FieldType.int)) rfl (by decide) (Nat.le_of_ble_eq_true rfl) ?_
  intro p e s m below meth c ls S E hM hS hr hk hn hl
  have S : CallFix p m c cL_pieces 9 s _ ((Cond.code yL_pieces cL_pieces 9 (some Jvm.ClassFile.FieldType.int)) :: mi_G) RL := S
  have hl : lv_has ls 9 [(0, .ref (q 1)), (1, .ref (q 7)), (2, .ref (q 8)), (3, .ref (q 9))] := hl
  refine lv_iconst (v := nI 0) S.1 S.2.1 dL_pieces_0 (by decide) ?_
  refine lv_istore (lv' := [(4, .int (nI (0))), (0, .ref (q 1)), (1, .ref (q 7)), (2, .ref (q 8)), (3, .ref (q 9))]) S.1 S.2.1 dL_pieces_1 hl (by decide) rfl (fun ls hl => ?_)
  have lp3 : ∀ (n3 : Nat) (vv : Nat → Int32) (j : Nat) (H : Heap) (locs : List Loc) (ls : Array Slot), 16 - j < n3 → j ≤ 16 → (∀ c, c < j → lj_so (vv c) (sK T (sW T)) c 8) → mj_W D A q T gl (va_up gi 7 vv) H → va_S A s.heap H locs → lv_has ls 9 [(4, .int (nI (j))), (0, .ref (q 1)), (1, .ref (q 7)), (2, .ref (q 8)), (3, .ref (q 9))] → W p l e (mi_rm 1) s m ([.ref (q 1), .ref (q 7), .ref (q 8), .ref (q 9)] : List Value).toArray below meth c H locs 0 0 (MQ below (mi_Qi A (fun r H => r = nI k9 ∧ ∃ vv ff, mj_W D A q T gl (va_up (va_up gi 7 vv) 8 ff) H)) ([.ref (q 1), .ref (q 7), .ref (q 8), .ref (q 9)] : List Value).toArray s 0 0 A) (F0 m 3 ls []) := by
    intro n3
    induction n3 with
    | zero => intro vv j H locs ls hm hj hvs hM hS hl; exact absurd hm (Nat.not_lt_zero _)
    | succ n3 ih3 =>
      intro vv j H locs ls hm hj hvs hM hS hl
      refine lv_iload S.1 S.2.1 dL_pieces_3 (lv_at hl 0 rfl) ?_
      refine lv_bipush (v := nI 16) S.1 S.2.1 dL_pieces_5 (by decide) ?_
      refine mi_icmp_ge (tgt := 32) S (by omega) (by omega) dL_pieces_7 (by decide) (fun c7_0 => ?_) (fun c7_0 => ?_)
      · refine lv_iconst (v := nI 0) S.1 S.2.1 dL_pieces_32 (by decide) ?_
        refine lv_istore (lv' := [(4, .int (nI (0))), (0, .ref (q 1)), (1, .ref (q 7)), (2, .ref (q 8)), (3, .ref (q 9))]) S.1 S.2.1 dL_pieces_33 hl (by decide) rfl (fun ls hl => ?_)
        refine lv_iconst (v := nI 0) S.1 S.2.1 dL_pieces_35 (by decide) ?_
        refine lv_istore (lv' := [(5, .int (nI (0))), (4, .int (nI (0))), (0, .ref (q 1)), (1, .ref (q 7)), (2, .ref (q 8)), (3, .ref (q 9))]) S.1 S.2.1 dL_pieces_36 hl (by decide) rfl (fun ls hl => ?_)
        have lp38 : ∀ (n38 : Nat) (vv : Nat → Int32) (ff : Nat → Int32) (k : Nat) (a : Nat) (H : Heap) (locs : List Loc) (ls : Array Slot), 16 - a < n38 → a ≤ 16 → lp_s vv (pc_X (sK T (sW T)) (8 * a)) → pc_ct (pc_lst (sK T (sW T))) (8 * a) k → mj_W D A q T gl (va_up (va_up gi 7 vv) 8 ff) H → va_S A s.heap H locs → lv_has ls 9 [(4, .int (nI (k))), (5, .int (nI (a))), (0, .ref (q 1)), (1, .ref (q 7)), (2, .ref (q 8)), (3, .ref (q 9))] → W p l e (mi_rm 1) s m ([.ref (q 1), .ref (q 7), .ref (q 8), .ref (q 9)] : List Value).toArray below meth c H locs 0 0 (MQ below (mi_Qi A (fun r H => r = nI k9 ∧ ∃ vv ff, mj_W D A q T gl (va_up (va_up gi 7 vv) 8 ff) H)) ([.ref (q 1), .ref (q 7), .ref (q 8), .ref (q 9)] : List Value).toArray s 0 0 A) (F0 m 38 ls []) := by
          intro n38
          induction n38 with
          | zero => intro vv ff k a H locs ls hm ha hv hct hM hS hl; exact absurd hm (Nat.not_lt_zero _)
          | succ n38 ih38 =>
            intro vv ff k a H locs ls hm ha hv hct hM hS hl
            refine lv_iload S.1 S.2.1 dL_pieces_38 (lv_at hl 1 rfl) ?_
            refine lv_bipush (v := nI 16) S.1 S.2.1 dL_pieces_40 (by decide) ?_
            refine mi_icmp_ge (tgt := 285) S (by omega) (by omega) dL_pieces_42 (by decide) (fun c42_1 => ?_) (fun c42_1 => ?_)
            · refine lv_iload S.1 S.2.1 dL_pieces_285 (lv_at hl 0 rfl) ?_
              exact mi_retMi S hr hk hS dL_pieces_287 (Nat.le_refl _) (Nat.le_refl _) ⟨by rw [pc_ct_fun (by rw [show 128 = 8 * a by omega]; exact hct : pc_ct (pc_lst (sK T (sW T))) 128 k) hct9], vv, ff, hM⟩
            · have lp45 : ∀ (n45 : Nat) (vv : Nat → Int32) (ff : Nat → Int32) (k : Nat) (p0 : Nat) (H : Heap) (locs : List Loc) (ls : Array Slot), 8 * a + 9 - p0 < n45 → 8 * a ≤ p0 ∧ p0 ≤ 8 * a + 8 → lp_s vv (pc_X (sK T (sW T)) p0) → pc_ct (pc_lst (sK T (sW T))) p0 k → mj_W D A q T gl (va_up (va_up gi 7 vv) 8 ff) H → va_S A s.heap H locs → lv_has ls 9 [(4, .int (nI (k))), (5, .int (nI (a))), (0, .ref (q 1)), (1, .ref (q 7)), (2, .ref (q 8)), (3, .ref (q 9))] → W p l e (mi_rm 1) s m ([.ref (q 1), .ref (q 7), .ref (q 8), .ref (q 9)] : List Value).toArray below meth c H locs 0 0 (MQ below (mi_Qi A (fun r H => r = nI k9 ∧ ∃ vv ff, mj_W D A q T gl (va_up (va_up gi 7 vv) 8 ff) H)) ([.ref (q 1), .ref (q 7), .ref (q 8), .ref (q 9)] : List Value).toArray s 0 0 A) (F0 m 45 ls []) := by
                intro n45
                induction n45 with
                | zero => intro vv ff k p0 H locs ls hm hp hv hct hM hS hl; exact absurd hm (Nat.not_lt_zero _)
                | succ n45 ih45 =>
                  intro vv ff k p0 H locs ls hm hp hv hct hM hS hl
                  refine lv_aload_n S.1 S.2.1 dL_pieces_45 rfl (lv_at hl 3 rfl) ?_
                  refine lv_iload S.1 S.2.1 dL_pieces_46 (lv_at hl 1 rfl) ?_
                  refine mj_ild S E hM 7 (by omega) (by show _ < 16; omega) dL_pieces_48 ?_
                  refine mi_top (v' := .int (vv a)) (rfl) ?_
                  refine mi_xif_eq (tgt := 279) S (rfl : (vv a).toInt = _) dL_pieces_49 (by decide) (fun c49_2 => ?_) (fun c49_2 => ?_)
                  · refine lv_iinc (v := nI (a + 1)) (lv' := [(5, .int (nI (a + 1))), (4, .int (nI (k))), (0, .ref (q 1)), (1, .ref (q 7)), (2, .ref (q 8)), (3, .ref (q 9))]) S.1 S.2.1 dL_pieces_279 hl (k := 1) rfl (mi_inc _) (by decide) rfl (fun ls hl => ?_)
                    refine lv_goto (tgt := 38) S.1 S.2.1 dL_pieces_282 (by decide) ?_
                    exact ih38 vv ff k (a + 1) _ _ _ (by omega) (by omega) ((lp_zero (by omega) hv hp.1 hp.2 (Int32.toInt_inj.mp (c49_2.trans (show (0 : Int) = (0 : Int32).toInt from by decide))) hct).1) ((lp_zero (by omega) hv hp.1 hp.2 (Int32.toInt_inj.mp (c49_2.trans (show (0 : Int) = (0 : Int32).toInt from by decide))) hct).2) hM hS (lv_sub hl [1, 0, 2, 3, 4, 5] rfl)
                  · have hne : vv a ≠ 0 := fun z => c49_2 (by rw [z]; rfl)
                    obtain ⟨r, hr8, hpr, hv, hct, hXr, hbr⟩ := lp_root (by omega) hv hp.1 hne hct
                    refine lv_iinc (v := nI (k + 1)) (lv' := [(4, .int (nI (k + 1))), (5, .int (nI (a))), (0, .ref (q 1)), (1, .ref (q 7)), (2, .ref (q 8)), (3, .ref (q 9))]) S.1 S.2.1 dL_pieces_52 hl (k := 0) rfl (mi_inc _) (by decide) rfl (fun ls hl => ?_)
                    refine lv_iconst (v := nI 0) S.1 S.2.1 dL_pieces_55 (by decide) ?_
                    refine lv_istore (lv' := [(6, .int (nI (0))), (4, .int (nI (k + 1))), (5, .int (nI (a))), (0, .ref (q 1)), (1, .ref (q 7)), (2, .ref (q 8)), (3, .ref (q 9))]) S.1 S.2.1 dL_pieces_56 hl (by decide) rfl (fun ls hl => ?_)
                    have lp58 : ∀ (n58 : Nat) (ff : Nat → Int32) (j : Nat) (H : Heap) (locs : List Loc) (ls : Array Slot), 16 - j < n58 → j ≤ 16 → (∀ c, c < j → ff c = 0) → mj_W D A q T gl (va_up (va_up gi 7 vv) 8 ff) H → va_S A s.heap H locs → lv_has ls 9 [(6, .int (nI (j))), (4, .int (nI (k + 1))), (5, .int (nI (a))), (0, .ref (q 1)), (1, .ref (q 7)), (2, .ref (q 8)), (3, .ref (q 9))] → W p l e (mi_rm 1) s m ([.ref (q 1), .ref (q 7), .ref (q 8), .ref (q 9)] : List Value).toArray below meth c H locs 0 0 (MQ below (mi_Qi A (fun r H => r = nI k9 ∧ ∃ vv ff, mj_W D A q T gl (va_up (va_up gi 7 vv) 8 ff) H)) ([.ref (q 1), .ref (q 7), .ref (q 8), .ref (q 9)] : List Value).toArray s 0 0 A) (F0 m 58 ls []) := by
                      intro n58
                      induction n58 with
                      | zero => intro ff j H locs ls hm hj hf hM hS hl; exact absurd hm (Nat.not_lt_zero _)
                      | succ n58 ih58 =>
                        intro ff j H locs ls hm hj hf hM hS hl
                        refine lv_iload S.1 S.2.1 dL_pieces_58 (lv_at hl 0 rfl) ?_
                        refine lv_bipush (v := nI 16) S.1 S.2.1 dL_pieces_60 (by decide) ?_
                        refine mi_icmp_ge (tgt := 76) S (by omega) (by omega) dL_pieces_62 (by decide) (fun c62_3 => ?_) (fun c62_3 => ?_)
                        · refine lv_aload_n S.1 S.2.1 dL_pieces_76 rfl (lv_at hl 5 rfl) ?_
                          refine lv_iload S.1 S.2.1 dL_pieces_77 (lv_at hl 2 rfl) ?_
                          refine lv_aload_n S.1 S.2.1 dL_pieces_79 rfl (lv_at hl 4 rfl) ?_
                          refine lv_iload S.1 S.2.1 dL_pieces_80 (lv_at hl 2 rfl) ?_
                          refine mj_ild S E hM 7 (by omega) (by show _ < 16; omega) dL_pieces_82 ?_
                          refine mi_top (v' := .int (vv a)) (rfl) ?_
                          refine lv_aload_n S.1 S.2.1 dL_pieces_83 rfl (lv_at hl 4 rfl) ?_
                          refine lv_iload S.1 S.2.1 dL_pieces_84 (lv_at hl 2 rfl) ?_
                          refine mj_ild S E hM 7 (by omega) (by show _ < 16; omega) dL_pieces_86 ?_
                          refine mi_top (v' := .int (vv a)) (rfl) ?_
                          refine lv_ineg S.1 S.2.1 dL_pieces_87 ?_
                          refine lv_iand S.1 S.2.1 dL_pieces_88 ?_
                          refine mj_ist S E hS hM 8 (by omega) (by show _ < 16; omega) dL_pieces_89 (fun H locs hM hS => ?_)
                          rw [mi_up_up] at hM
                          have hM : mj_W D A q T gl (va_up (va_up gi 7 vv) 8 ((upd ff (a) ((vv a) &&& (-(vv a)))))) H := hM
                          refine lv_iconst (v := nI 1) S.1 S.2.1 dL_pieces_90 (by decide) ?_
                          refine lv_istore (lv' := [(6, .int (nI (1))), (4, .int (nI (k + 1))), (5, .int (nI (a))), (0, .ref (q 1)), (1, .ref (q 7)), (2, .ref (q 8)), (3, .ref (q 9))]) S.1 S.2.1 dL_pieces_91 hl (by decide) rfl (fun ls hl => ?_)
                          have lp93 : ∀ (n93 : Nat) (fg : Nat → Int32) (F : Nat → Prop) (gr : Nat) (H : Heap) (locs : List Loc) (ls : Array Slot), 2 * (128 - lp_n fg) + gr < n93 → gr ≤ 1 → lp_I (sK T (sW T)) (8 * a + r) fg F → (gr = 0 → ∀ c, c < 16 → ∀ i, i < 8 → pc_X (sK T (sW T)) (8 * a + r) (8 * c + i) → lp_nr F c i → F (8 * c + i)) → mj_W D A q T gl (va_up (va_up gi 7 vv) 8 fg) H → va_S A s.heap H locs → lv_has ls 9 [(6, .int (nI (gr))), (4, .int (nI (k + 1))), (5, .int (nI (a))), (0, .ref (q 1)), (1, .ref (q 7)), (2, .ref (q 8)), (3, .ref (q 9))] → W p l e (mi_rm 1) s m ([.ref (q 1), .ref (q 7), .ref (q 8), .ref (q 9)] : List Value).toArray below meth c H locs 0 0 (MQ below (mi_Qi A (fun r H => r = nI k9 ∧ ∃ vv ff, mj_W D A q T gl (va_up (va_up gi 7 vv) 8 ff) H)) ([.ref (q 1), .ref (q 7), .ref (q 8), .ref (q 9)] : List Value).toArray s 0 0 A) (F0 m 93 ls []) := by
                            intro n93
                            induction n93 with
                            | zero => intro fg F gr H locs ls hm hgr hI hcl hM hS hl; exact absurd hm (Nat.not_lt_zero _)
                            | succ n93 ih93 =>
                              intro fg F gr H locs ls hm hgr hI hcl hM hS hl
                              refine lv_iload S.1 S.2.1 dL_pieces_93 (lv_at hl 0 rfl) ?_
                              refine mi_if_eq (tgt := 247) S (by omega) dL_pieces_95 (by decide) (fun c95_4 => ?_) (fun c95_4 => ?_)
                              · have hall := lp_all hI hXr (hcl c95_4)
                                refine lv_iconst (v := nI 0) S.1 S.2.1 dL_pieces_247 (by decide) ?_
                                refine lv_istore (lv' := [(7, .int (nI (0))), (6, .int (nI (gr))), (4, .int (nI (k + 1))), (5, .int (nI (a))), (0, .ref (q 1)), (1, .ref (q 7)), (2, .ref (q 8)), (3, .ref (q 9))]) S.1 S.2.1 dL_pieces_248 hl (by decide) rfl (fun ls hl => ?_)
                                have lp250 : ∀ (n250 : Nat) (vw : Nat → Int32) (j : Nat) (H : Heap) (locs : List Loc) (ls : Array Slot), 16 - j < n250 → j ≤ 16 → (∀ c, c < 16 → vw c = if c < j then vv c &&& (fg c ^^^ (-1)) else vv c) → mj_W D A q T gl (va_up (va_up gi 7 vw) 8 fg) H → va_S A s.heap H locs → lv_has ls 9 [(7, .int (nI (j))), (4, .int (nI (k + 1))), (5, .int (nI (a))), (0, .ref (q 1)), (1, .ref (q 7)), (2, .ref (q 8)), (3, .ref (q 9))] → W p l e (mi_rm 1) s m ([.ref (q 1), .ref (q 7), .ref (q 8), .ref (q 9)] : List Value).toArray below meth c H locs 0 0 (MQ below (mi_Qi A (fun r H => r = nI k9 ∧ ∃ vv ff, mj_W D A q T gl (va_up (va_up gi 7 vv) 8 ff) H)) ([.ref (q 1), .ref (q 7), .ref (q 8), .ref (q 9)] : List Value).toArray s 0 0 A) (F0 m 250 ls []) := by
                                  intro n250
                                  induction n250 with
                                  | zero => intro vw j H locs ls hm hj hw9 hM hS hl; exact absurd hm (Nat.not_lt_zero _)
                                  | succ n250 ih250 =>
                                    intro vw j H locs ls hm hj hw9 hM hS hl
                                    refine lv_iload S.1 S.2.1 dL_pieces_250 (lv_at hl 0 rfl) ?_
                                    refine lv_bipush (v := nI 16) S.1 S.2.1 dL_pieces_252 (by decide) ?_
                                    refine mi_icmp_ge (tgt := 276) S (by omega) (by omega) dL_pieces_254 (by decide) (fun c254_5 => ?_) (fun c254_5 => ?_)
                                    · refine lv_goto (tgt := 45) S.1 S.2.1 dL_pieces_276 (by decide) ?_
                                      exact ih45 vw fg (k + 1) (8 * a + r + 1) _ _ _ (by omega) (by omega) (lp_rest hv hI hXr hall (fun c hc => by rw [hw9 c hc, if_pos (by omega)])) (pc_ct_y hct hXr) hM hS (lv_sub hl [1, 2, 3, 4, 5, 6] rfl)
                                    · refine lv_aload_n S.1 S.2.1 dL_pieces_257 rfl (lv_at hl 4 rfl) ?_
                                      refine lv_iload S.1 S.2.1 dL_pieces_258 (lv_at hl 0 rfl) ?_
                                      refine lv_dup2_11 S.1 S.2.1 dL_pieces_260 rfl rfl ?_
                                      refine mj_ild S E hM 7 (by omega) (by show _ < 16; omega) dL_pieces_261 ?_
                                      refine mi_top (v' := .int (vw j)) (rfl) ?_
                                      refine lv_aload_n S.1 S.2.1 dL_pieces_262 rfl (lv_at hl 5 rfl) ?_
                                      refine lv_iload S.1 S.2.1 dL_pieces_263 (lv_at hl 0 rfl) ?_
                                      refine mj_ild S E hM 8 (by omega) (by show _ < 16; omega) dL_pieces_265 ?_
                                      refine mi_top (v' := .int (fg j)) (rfl) ?_
                                      refine lv_iconst (v := (-1)) S.1 S.2.1 dL_pieces_266 (by decide) ?_
                                      refine lv_ixor S.1 S.2.1 dL_pieces_267 ?_
                                      refine lv_iand S.1 S.2.1 dL_pieces_268 ?_
                                      refine mj_ist S E hS hM 7 (by omega) (by show _ < 16; omega) dL_pieces_269 (fun H locs hM hS => ?_)
                                      rw [mj_sw7] at hM
                                      have hM : mj_W D A q T gl (va_up (va_up gi 7 ((upd vw (j) ((vw j) &&& ((fg j) ^^^ (-1)))))) 8 fg) H := hM
                                      refine lv_iinc (v := nI (j + 1)) (lv' := [(7, .int (nI (j + 1))), (4, .int (nI (k + 1))), (5, .int (nI (a))), (0, .ref (q 1)), (1, .ref (q 7)), (2, .ref (q 8)), (3, .ref (q 9))]) S.1 S.2.1 dL_pieces_270 hl (k := 0) rfl (mi_inc _) (by decide) rfl (fun ls hl => ?_)
                                      refine lv_goto (tgt := 250) S.1 S.2.1 dL_pieces_273 (by decide) ?_
                                      exact ih250 ((upd vw (j) ((vw j) &&& ((fg j) ^^^ (-1))))) (j + 1) _ _ _ (by omega) (by omega) (fun c hc => if z : c = j then by subst z; rw [pk_us, hw9 c hc, if_neg (Nat.lt_irrefl c), if_pos (Nat.lt_succ_self c)] else by rw [pk_un z, hw9 c hc]; exact if y : c < j then by rw [if_pos y, if_pos (by omega)] else by rw [if_neg y, if_neg (by omega)]) hM hS (lv_sub hl [0, 1, 2, 3, 4, 5, 6] rfl)
                                exact lp250 _ vv 0 _ _ _ (Nat.lt_succ_self _) (by omega) (fun c _ => (if_neg (Nat.not_lt_zero c)).symm) hM hS (lv_sub hl [0, 2, 3, 4, 5, 6, 7] rfl)
                              · refine lv_iconst (v := nI 0) S.1 S.2.1 dL_pieces_98 (by decide) ?_
                                refine lv_istore (lv' := [(6, .int (nI (0))), (4, .int (nI (k + 1))), (5, .int (nI (a))), (0, .ref (q 1)), (1, .ref (q 7)), (2, .ref (q 8)), (3, .ref (q 9))]) S.1 S.2.1 dL_pieces_99 hl (by decide) rfl (fun ls hl => ?_)
                                refine lv_iconst (v := nI 0) S.1 S.2.1 dL_pieces_101 (by decide) ?_
                                refine lv_istore (lv' := [(7, .int (nI (0))), (6, .int (nI (0))), (4, .int (nI (k + 1))), (5, .int (nI (a))), (0, .ref (q 1)), (1, .ref (q 7)), (2, .ref (q 8)), (3, .ref (q 9))]) S.1 S.2.1 dL_pieces_102 hl (by decide) rfl (fun ls hl => ?_)
                                have lp104 : ∀ (n104 : Nat) (fh : Nat → Int32) (G : Nat → Prop) (gs : Nat) (j : Nat) (H : Heap) (locs : List Loc) (ls : Array Slot), 16 - j < n104 → j ≤ 16 → gs ≤ 1 → lp_I (sK T (sW T)) (8 * a + r) fh G → (gs = 0 → ∀ c, c < j → ∀ i, i < 8 → pc_X (sK T (sW T)) (8 * a + r) (8 * c + i) → lp_nr G c i → G (8 * c + i)) → lp_n fg ≤ lp_n fh → (gs = 1 → lp_n fg < lp_n fh) → mj_W D A q T gl (va_up (va_up gi 7 vv) 8 fh) H → va_S A s.heap H locs → lv_has ls 9 [(6, .int (nI (gs))), (7, .int (nI (j))), (4, .int (nI (k + 1))), (5, .int (nI (a))), (0, .ref (q 1)), (1, .ref (q 7)), (2, .ref (q 8)), (3, .ref (q 9))] → W p l e (mi_rm 1) s m ([.ref (q 1), .ref (q 7), .ref (q 8), .ref (q 9)] : List Value).toArray below meth c H locs 0 0 (MQ below (mi_Qi A (fun r H => r = nI k9 ∧ ∃ vv ff, mj_W D A q T gl (va_up (va_up gi 7 vv) 8 ff) H)) ([.ref (q 1), .ref (q 7), .ref (q 8), .ref (q 9)] : List Value).toArray s 0 0 A) (F0 m 104 ls []) := by
                                  intro n104
                                  induction n104 with
                                  | zero => intro fh G gs j H locs ls hm hj hgs hI2 hc2 hn0 hn1 hM hS hl; exact absurd hm (Nat.not_lt_zero _)
                                  | succ n104 ih104 =>
                                    intro fh G gs j H locs ls hm hj hgs hI2 hc2 hn0 hn1 hM hS hl
                                    have hb1 : lp_n fg ≤ 128 := fb_ct_le _ _
                                    have hb2 : lp_n fh ≤ 128 := fb_ct_le _ _
                                    refine lv_iload S.1 S.2.1 dL_pieces_104 (lv_at hl 1 rfl) ?_
                                    refine lv_bipush (v := nI 16) S.1 S.2.1 dL_pieces_106 (by decide) ?_
                                    refine mi_icmp_ge (tgt := 244) S (by omega) (by omega) dL_pieces_108 (by decide) (fun c108_6 => ?_) (fun c108_6 => ?_)
                                    · refine lv_goto (tgt := 93) S.1 S.2.1 dL_pieces_244 (by decide) ?_
                                      exact ih93 fh G gs _ _ _ (by omega) (by omega) (hI2) (fun z c hc => hc2 z c (by omega)) hM hS (lv_sub hl [0, 2, 3, 4, 5, 6, 7] rfl)
                                    · refine lv_aload_n S.1 S.2.1 dL_pieces_111 rfl (lv_at hl 6 rfl) ?_
                                      refine lv_iload S.1 S.2.1 dL_pieces_112 (lv_at hl 1 rfl) ?_
                                      refine mj_ild S E hM 8 (by omega) (by show _ < 16; omega) dL_pieces_114 ?_
                                      refine mi_top (v' := .int (fh j)) (rfl) ?_
                                      refine lv_aload_n S.1 S.2.1 dL_pieces_115 rfl (lv_at hl 6 rfl) ?_
                                      refine lv_iload S.1 S.2.1 dL_pieces_116 (lv_at hl 1 rfl) ?_
                                      refine mj_ild S E hM 8 (by omega) (by show _ < 16; omega) dL_pieces_118 ?_
                                      refine mi_top (v' := .int (fh j)) (rfl) ?_
                                      refine lv_iconst (v := nI 1) S.1 S.2.1 dL_pieces_119 (by decide) ?_
                                      refine lv_ishl S.1 S.2.1 dL_pieces_120 ?_
                                      refine lv_ior S.1 S.2.1 dL_pieces_121 ?_
                                      refine lv_aload_n S.1 S.2.1 dL_pieces_122 rfl (lv_at hl 6 rfl) ?_
                                      refine lv_iload S.1 S.2.1 dL_pieces_123 (lv_at hl 1 rfl) ?_
                                      refine mj_ild S E hM 8 (by omega) (by show _ < 16; omega) dL_pieces_125 ?_
                                      refine mi_top (v' := .int (fh j)) (rfl) ?_
                                      refine lv_iconst (v := nI 1) S.1 S.2.1 dL_pieces_126 (by decide) ?_
                                      refine lv_ishr S.1 S.2.1 dL_pieces_127 ?_
                                      refine lv_ior S.1 S.2.1 dL_pieces_128 ?_
                                      refine lv_istore (lv' := [(8, .int (((fh j) ||| ((fh j) <<< ((nI (1)) &&& 31))) ||| ((fh j) >>> ((nI (1)) &&& 31)))), (6, .int (nI (gs))), (7, .int (nI (j))), (4, .int (nI (k + 1))), (5, .int (nI (a))), (0, .ref (q 1)), (1, .ref (q 7)), (2, .ref (q 8)), (3, .ref (q 9))]) S.1 S.2.1 dL_pieces_129 hl (by decide) rfl (fun ls hl => ?_)
                                      have mg149_8 : ∀ (z2 : Int32) (H : Heap) (locs : List Loc) (ls : Array Slot), (z2 = if 0 < j % 4 then lp_z1 fh j ||| fh (j - 1) else lp_z1 fh j) → mj_W D A q T gl (va_up (va_up gi 7 vv) 8 fh) H → va_S A s.heap H locs → lv_has ls 9 [(8, .int (z2)), (6, .int (nI (gs))), (7, .int (nI (j))), (4, .int (nI (k + 1))), (5, .int (nI (a))), (0, .ref (q 1)), (1, .ref (q 7)), (2, .ref (q 8)), (3, .ref (q 9))] → W p l e (mi_rm 1) s m ([.ref (q 1), .ref (q 7), .ref (q 8), .ref (q 9)] : List Value).toArray below meth c H locs 0 0 (MQ below (mi_Qi A (fun r H => r = nI k9 ∧ ∃ vv ff, mj_W D A q T gl (va_up (va_up gi 7 vv) 8 ff) H)) ([.ref (q 1), .ref (q 7), .ref (q 8), .ref (q 9)] : List Value).toArray s 0 0 A) (F0 m 149 ls []) := by
                                        intro z2 H locs ls e2 hM hS hl
                                        have mg168_9 : ∀ (z3 : Int32) (H : Heap) (locs : List Loc) (ls : Array Slot), (z3 = if j % 4 < 3 then z2 ||| fh (j + 1) else z2) → mj_W D A q T gl (va_up (va_up gi 7 vv) 8 fh) H → va_S A s.heap H locs → lv_has ls 9 [(8, .int (z3)), (6, .int (nI (gs))), (7, .int (nI (j))), (4, .int (nI (k + 1))), (5, .int (nI (a))), (0, .ref (q 1)), (1, .ref (q 7)), (2, .ref (q 8)), (3, .ref (q 9))] → W p l e (mi_rm 1) s m ([.ref (q 1), .ref (q 7), .ref (q 8), .ref (q 9)] : List Value).toArray below meth c H locs 0 0 (MQ below (mi_Qi A (fun r H => r = nI k9 ∧ ∃ vv ff, mj_W D A q T gl (va_up (va_up gi 7 vv) 8 ff) H)) ([.ref (q 1), .ref (q 7), .ref (q 8), .ref (q 9)] : List Value).toArray s 0 0 A) (F0 m 168 ls []) := by
                                          intro z3 H locs ls e3 hM hS hl
                                          have mg185_10 : ∀ (z4 : Int32) (H : Heap) (locs : List Loc) (ls : Array Slot), (z4 = if 3 < j then z3 ||| fh (j - 4) else z3) → mj_W D A q T gl (va_up (va_up gi 7 vv) 8 fh) H → va_S A s.heap H locs → lv_has ls 9 [(8, .int (z4)), (6, .int (nI (gs))), (7, .int (nI (j))), (4, .int (nI (k + 1))), (5, .int (nI (a))), (0, .ref (q 1)), (1, .ref (q 7)), (2, .ref (q 8)), (3, .ref (q 9))] → W p l e (mi_rm 1) s m ([.ref (q 1), .ref (q 7), .ref (q 8), .ref (q 9)] : List Value).toArray below meth c H locs 0 0 (MQ below (mi_Qi A (fun r H => r = nI k9 ∧ ∃ vv ff, mj_W D A q T gl (va_up (va_up gi 7 vv) 8 ff) H)) ([.ref (q 1), .ref (q 7), .ref (q 8), .ref (q 9)] : List Value).toArray s 0 0 A) (F0 m 185 ls []) := by
                                            intro z4 H locs ls e4 hM hS hl
                                            have mg203_11 : ∀ (z5 : Int32) (H : Heap) (locs : List Loc) (ls : Array Slot), (z5 = if j < 12 then z4 ||| fh (j + 4) else z4) → mj_W D A q T gl (va_up (va_up gi 7 vv) 8 fh) H → va_S A s.heap H locs → lv_has ls 9 [(8, .int (z5)), (6, .int (nI (gs))), (7, .int (nI (j))), (4, .int (nI (k + 1))), (5, .int (nI (a))), (0, .ref (q 1)), (1, .ref (q 7)), (2, .ref (q 8)), (3, .ref (q 9))] → W p l e (mi_rm 1) s m ([.ref (q 1), .ref (q 7), .ref (q 8), .ref (q 9)] : List Value).toArray below meth c H locs 0 0 (MQ below (mi_Qi A (fun r H => r = nI k9 ∧ ∃ vv ff, mj_W D A q T gl (va_up (va_up gi 7 vv) 8 ff) H)) ([.ref (q 1), .ref (q 7), .ref (q 8), .ref (q 9)] : List Value).toArray s 0 0 A) (F0 m 203 ls []) := by
                                              intro z5 H locs ls e5 hM hS hl
                                              have hz5 := fun i (hi : i < 8) => lp_near hI2.1 (c := j) (by omega) e2 e3 e4 e5 hi
                                              obtain ⟨k1, k2, k3, k4⟩ := lp_step (c := j) (z := z5) (by omega) hv hI2 hz5
                                              refine lv_iload S.1 S.2.1 dL_pieces_203 (lv_at hl 1 rfl) ?_
                                              refine lv_iload S.1 S.2.1 dL_pieces_205 (lv_at hl 0 rfl) ?_
                                              refine lv_aload_n S.1 S.2.1 dL_pieces_207 rfl (lv_at hl 6 rfl) ?_
                                              refine lv_iload S.1 S.2.1 dL_pieces_208 (lv_at hl 2 rfl) ?_
                                              refine mj_ild S E hM 7 (by omega) (by show _ < 16; omega) dL_pieces_210 ?_
                                              refine mi_top (v' := .int (vv j)) (rfl) ?_
                                              refine lv_iand S.1 S.2.1 dL_pieces_211 ?_
                                              refine lv_aload_n S.1 S.2.1 dL_pieces_212 rfl (lv_at hl 7 rfl) ?_
                                              refine lv_iload S.1 S.2.1 dL_pieces_213 (lv_at hl 2 rfl) ?_
                                              refine mj_ild S E hM 8 (by omega) (by show _ < 16; omega) dL_pieces_215 ?_
                                              refine mi_top (v' := .int (fh j)) (rfl) ?_
                                              refine mi_xcmp_eq (tgt := 223) S (rfl : (z5 &&& (vv j)).toInt = _) (rfl : (fh j).toInt = _) dL_pieces_216 (by decide) (fun c216_11 => ?_) (fun c216_11 => ?_)
                                              · have heq : z5 &&& vv j = fh j := Int32.toInt_inj.mp c216_11
                                                refine lv_iconst (v := nI 0) S.1 S.2.1 dL_pieces_223 (by decide) ?_
                                                refine lv_ior S.1 S.2.1 dL_pieces_224 ?_
                                                refine mi_top (v' := .int (nI (gs))) (congrArg Value.int (lp_or0 gs)) ?_
                                                refine lv_istore (lv' := [(6, .int (nI (gs))), (8, .int (z5)), (7, .int (nI (j))), (4, .int (nI (k + 1))), (5, .int (nI (a))), (0, .ref (q 1)), (1, .ref (q 7)), (2, .ref (q 8)), (3, .ref (q 9))]) S.1 S.2.1 dL_pieces_225 hl (by decide) rfl (fun ls hl => ?_)
                                                refine lv_aload_n S.1 S.2.1 dL_pieces_227 rfl (lv_at hl 7 rfl) ?_
                                                refine lv_iload S.1 S.2.1 dL_pieces_228 (lv_at hl 2 rfl) ?_
                                                refine lv_iload S.1 S.2.1 dL_pieces_230 (lv_at hl 1 rfl) ?_
                                                refine lv_aload_n S.1 S.2.1 dL_pieces_232 rfl (lv_at hl 6 rfl) ?_
                                                refine lv_iload S.1 S.2.1 dL_pieces_233 (lv_at hl 2 rfl) ?_
                                                refine mj_ild S E hM 7 (by omega) (by show _ < 16; omega) dL_pieces_235 ?_
                                                refine mi_top (v' := .int (vv j)) (rfl) ?_
                                                refine lv_iand S.1 S.2.1 dL_pieces_236 ?_
                                                refine mj_ist S E hS hM 8 (by omega) (by show _ < 16; omega) dL_pieces_237 (fun H locs hM hS => ?_)
                                                rw [mi_up_up] at hM
                                                have hM : mj_W D A q T gl (va_up (va_up gi 7 vv) 8 ((upd fh (j) (z5 &&& (vv j))))) H := hM
                                                refine lv_iinc (v := nI (j + 1)) (lv' := [(7, .int (nI (j + 1))), (6, .int (nI (gs))), (8, .int (z5)), (4, .int (nI (k + 1))), (5, .int (nI (a))), (0, .ref (q 1)), (1, .ref (q 7)), (2, .ref (q 8)), (3, .ref (q 9))]) S.1 S.2.1 dL_pieces_238 hl (k := 2) rfl (mi_inc _) (by decide) rfl (fun ls hl => ?_)
                                                refine lv_goto (tgt := 104) S.1 S.2.1 dL_pieces_241 (by decide) ?_
                                                exact ih104 ((upd fh (j) (z5 &&& (vv j)))) G gs (j + 1) _ _ _ (by omega) (by omega) (by omega) (lp_I_row hI2 (fun c hc => if z : c = j then by subst z; rw [pk_us]; exact heq else pk_un z)) (fun z c hc => if y : c = j then by subst y; exact k4 heq else hc2 z c (by omega)) (by omega) (fun z => by have := hn1 z; omega) hM hS (lv_sub hl [1, 0, 3, 4, 5, 6, 7, 8] rfl)
                                              · have k5 := k3 (fun z => c216_11 (congrArg Int32.toInt z))
                                                refine lv_iconst (v := nI 1) S.1 S.2.1 dL_pieces_219 (by decide) ?_
                                                refine lv_goto (tgt := 224) S.1 S.2.1 dL_pieces_220 (by decide) ?_
                                                refine lv_ior S.1 S.2.1 dL_pieces_224 ?_
                                                refine mi_top (v' := .int (nI (1))) (congrArg Value.int (lp_or1 hgs)) ?_
                                                refine lv_istore (lv' := [(6, .int (nI (1))), (8, .int (z5)), (7, .int (nI (j))), (4, .int (nI (k + 1))), (5, .int (nI (a))), (0, .ref (q 1)), (1, .ref (q 7)), (2, .ref (q 8)), (3, .ref (q 9))]) S.1 S.2.1 dL_pieces_225 hl (by decide) rfl (fun ls hl => ?_)
                                                refine lv_aload_n S.1 S.2.1 dL_pieces_227 rfl (lv_at hl 7 rfl) ?_
                                                refine lv_iload S.1 S.2.1 dL_pieces_228 (lv_at hl 2 rfl) ?_
                                                refine lv_iload S.1 S.2.1 dL_pieces_230 (lv_at hl 1 rfl) ?_
                                                refine lv_aload_n S.1 S.2.1 dL_pieces_232 rfl (lv_at hl 6 rfl) ?_
                                                refine lv_iload S.1 S.2.1 dL_pieces_233 (lv_at hl 2 rfl) ?_
                                                refine mj_ild S E hM 7 (by omega) (by show _ < 16; omega) dL_pieces_235 ?_
                                                refine mi_top (v' := .int (vv j)) (rfl) ?_
                                                refine lv_iand S.1 S.2.1 dL_pieces_236 ?_
                                                refine mj_ist S E hS hM 8 (by omega) (by show _ < 16; omega) dL_pieces_237 (fun H locs hM hS => ?_)
                                                rw [mi_up_up] at hM
                                                have hM : mj_W D A q T gl (va_up (va_up gi 7 vv) 8 ((upd fh (j) (z5 &&& (vv j))))) H := hM
                                                refine lv_iinc (v := nI (j + 1)) (lv' := [(7, .int (nI (j + 1))), (6, .int (nI (1))), (8, .int (z5)), (4, .int (nI (k + 1))), (5, .int (nI (a))), (0, .ref (q 1)), (1, .ref (q 7)), (2, .ref (q 8)), (3, .ref (q 9))]) S.1 S.2.1 dL_pieces_238 hl (k := 2) rfl (mi_inc _) (by decide) rfl (fun ls hl => ?_)
                                                refine lv_goto (tgt := 104) S.1 S.2.1 dL_pieces_241 (by decide) ?_
                                                exact ih104 ((upd fh (j) (z5 &&& (vv j)))) ((lp_G (sK T (sW T)) (8 * a + r) G j)) 1 (j + 1) _ _ _ (by omega) (by omega) (by omega) (k1) (fun z => absurd z (by omega)) (by omega) (fun _ => by omega) hM hS (lv_sub hl [1, 0, 3, 4, 5, 6, 7, 8] rfl)
                                            refine lv_iload S.1 S.2.1 dL_pieces_185 (lv_at hl 2 rfl) ?_
                                            refine lv_bipush (v := nI 12) S.1 S.2.1 dL_pieces_187 (by decide) ?_
                                            refine mi_icmp_ge (tgt := 203) S (by omega) (by omega) dL_pieces_189 (by decide) (fun c189_12 => ?_) (fun c189_12 => ?_)
                                            · exact mg203_11 z4 _ _ _ (by first | exact (if_pos (by omega)).symm | exact (if_neg (by omega)).symm) hM hS (lv_sub hl [0, 1, 2, 3, 4, 5, 6, 7, 8] rfl)
                                            · refine lv_iload S.1 S.2.1 dL_pieces_192 (lv_at hl 0 rfl) ?_
                                              refine lv_aload_n S.1 S.2.1 dL_pieces_194 rfl (lv_at hl 7 rfl) ?_
                                              refine lv_iload S.1 S.2.1 dL_pieces_195 (lv_at hl 2 rfl) ?_
                                              refine lv_iconst (v := nI 4) S.1 S.2.1 dL_pieces_197 (by decide) ?_
                                              refine mi_iadd S dL_pieces_198 ?_
                                              refine mj_ild S E hM 8 (by omega) (by show _ < 16; omega) dL_pieces_199 ?_
                                              refine mi_top (v' := .int (fh (j + 4))) (rfl) ?_
                                              refine lv_ior S.1 S.2.1 dL_pieces_200 ?_
                                              refine lv_istore (lv' := [(8, .int (z4 ||| (fh (j + 4)))), (6, .int (nI (gs))), (7, .int (nI (j))), (4, .int (nI (k + 1))), (5, .int (nI (a))), (0, .ref (q 1)), (1, .ref (q 7)), (2, .ref (q 8)), (3, .ref (q 9))]) S.1 S.2.1 dL_pieces_201 hl (by decide) rfl (fun ls hl => ?_)
                                              exact mg203_11 ((z4 ||| (fh (j + 4)))) _ _ _ (by first | exact (if_pos (by omega)).symm | exact (if_neg (by omega)).symm) hM hS (lv_sub hl [0, 1, 2, 3, 4, 5, 6, 7, 8] rfl)
                                          refine lv_iload S.1 S.2.1 dL_pieces_168 (lv_at hl 2 rfl) ?_
                                          refine lv_iconst (v := nI 3) S.1 S.2.1 dL_pieces_170 (by decide) ?_
                                          refine mi_icmp_le (tgt := 185) S (by omega) (by omega) dL_pieces_171 (by decide) (fun c171_13 => ?_) (fun c171_13 => ?_)
                                          · exact mg185_10 z3 _ _ _ (by first | exact (if_pos (by omega)).symm | exact (if_neg (by omega)).symm) hM hS (lv_sub hl [0, 1, 2, 3, 4, 5, 6, 7, 8] rfl)
                                          · refine lv_iload S.1 S.2.1 dL_pieces_174 (lv_at hl 0 rfl) ?_
                                            refine lv_aload_n S.1 S.2.1 dL_pieces_176 rfl (lv_at hl 7 rfl) ?_
                                            refine lv_iload S.1 S.2.1 dL_pieces_177 (lv_at hl 2 rfl) ?_
                                            refine lv_iconst (v := nI 4) S.1 S.2.1 dL_pieces_179 (by decide) ?_
                                            refine mi_isub S (by omega) dL_pieces_180 ?_
                                            refine mj_ild S E hM 8 (by omega) (by show _ < 16; omega) dL_pieces_181 ?_
                                            refine mi_top (v' := .int (fh (j - 4))) (rfl) ?_
                                            refine lv_ior S.1 S.2.1 dL_pieces_182 ?_
                                            refine lv_istore (lv' := [(8, .int (z3 ||| (fh (j - 4)))), (6, .int (nI (gs))), (7, .int (nI (j))), (4, .int (nI (k + 1))), (5, .int (nI (a))), (0, .ref (q 1)), (1, .ref (q 7)), (2, .ref (q 8)), (3, .ref (q 9))]) S.1 S.2.1 dL_pieces_183 hl (by decide) rfl (fun ls hl => ?_)
                                            exact mg185_10 ((z3 ||| (fh (j - 4)))) _ _ _ (by first | exact (if_pos (by omega)).symm | exact (if_neg (by omega)).symm) hM hS (lv_sub hl [0, 1, 2, 3, 4, 5, 6, 7, 8] rfl)
                                        refine lv_iload S.1 S.2.1 dL_pieces_149 (lv_at hl 2 rfl) ?_
                                        refine lv_iconst (v := nI 4) S.1 S.2.1 dL_pieces_151 (by decide) ?_
                                        refine mi_irem S (by omega) (by omega) (by omega) dL_pieces_152 ?_
                                        refine lv_iconst (v := nI 3) S.1 S.2.1 dL_pieces_153 (by decide) ?_
                                        refine mi_icmp_ge (tgt := 168) S (by omega) (by omega) dL_pieces_154 (by decide) (fun c154_14 => ?_) (fun c154_14 => ?_)
                                        · exact mg168_9 z2 _ _ _ (by first | exact (if_pos (by omega)).symm | exact (if_neg (by omega)).symm) hM hS (lv_sub hl [0, 1, 2, 3, 4, 5, 6, 7, 8] rfl)
                                        · refine lv_iload S.1 S.2.1 dL_pieces_157 (lv_at hl 0 rfl) ?_
                                          refine lv_aload_n S.1 S.2.1 dL_pieces_159 rfl (lv_at hl 7 rfl) ?_
                                          refine lv_iload S.1 S.2.1 dL_pieces_160 (lv_at hl 2 rfl) ?_
                                          refine lv_iconst (v := nI 1) S.1 S.2.1 dL_pieces_162 (by decide) ?_
                                          refine mi_iadd S dL_pieces_163 ?_
                                          refine mj_ild S E hM 8 (by omega) (by show _ < 16; omega) dL_pieces_164 ?_
                                          refine mi_top (v' := .int (fh (j + 1))) (rfl) ?_
                                          refine lv_ior S.1 S.2.1 dL_pieces_165 ?_
                                          refine lv_istore (lv' := [(8, .int (z2 ||| (fh (j + 1)))), (6, .int (nI (gs))), (7, .int (nI (j))), (4, .int (nI (k + 1))), (5, .int (nI (a))), (0, .ref (q 1)), (1, .ref (q 7)), (2, .ref (q 8)), (3, .ref (q 9))]) S.1 S.2.1 dL_pieces_166 hl (by decide) rfl (fun ls hl => ?_)
                                          exact mg168_9 ((z2 ||| (fh (j + 1)))) _ _ _ (by first | exact (if_pos (by omega)).symm | exact (if_neg (by omega)).symm) hM hS (lv_sub hl [0, 1, 2, 3, 4, 5, 6, 7, 8] rfl)
                                      refine lv_iload S.1 S.2.1 dL_pieces_131 (lv_at hl 2 rfl) ?_
                                      refine lv_iconst (v := nI 4) S.1 S.2.1 dL_pieces_133 (by decide) ?_
                                      refine mi_irem S (by omega) (by omega) (by omega) dL_pieces_134 ?_
                                      refine mi_if_le (tgt := 149) S (by omega) dL_pieces_135 (by decide) (fun c135_15 => ?_) (fun c135_15 => ?_)
                                      · exact mg149_8 ((((fh j) ||| ((fh j) <<< ((nI (1)) &&& 31))) ||| ((fh j) >>> ((nI (1)) &&& 31)))) _ _ _ (by first | exact (if_pos (by omega)).symm | exact (if_neg (by omega)).symm) hM hS (lv_sub hl [0, 1, 2, 3, 4, 5, 6, 7, 8] rfl)
                                      · refine lv_iload S.1 S.2.1 dL_pieces_138 (lv_at hl 0 rfl) ?_
                                        refine lv_aload_n S.1 S.2.1 dL_pieces_140 rfl (lv_at hl 7 rfl) ?_
                                        refine lv_iload S.1 S.2.1 dL_pieces_141 (lv_at hl 2 rfl) ?_
                                        refine lv_iconst (v := nI 1) S.1 S.2.1 dL_pieces_143 (by decide) ?_
                                        refine mi_isub S (by omega) dL_pieces_144 ?_
                                        refine mj_ild S E hM 8 (by omega) (by show _ < 16; omega) dL_pieces_145 ?_
                                        refine mi_top (v' := .int (fh (j - 1))) (rfl) ?_
                                        refine lv_ior S.1 S.2.1 dL_pieces_146 ?_
                                        refine lv_istore (lv' := [(8, .int ((((fh j) ||| ((fh j) <<< ((nI (1)) &&& 31))) ||| ((fh j) >>> ((nI (1)) &&& 31))) ||| (fh (j - 1)))), (6, .int (nI (gs))), (7, .int (nI (j))), (4, .int (nI (k + 1))), (5, .int (nI (a))), (0, .ref (q 1)), (1, .ref (q 7)), (2, .ref (q 8)), (3, .ref (q 9))]) S.1 S.2.1 dL_pieces_147 hl (by decide) rfl (fun ls hl => ?_)
                                        exact mg149_8 (((((fh j) ||| ((fh j) <<< ((nI (1)) &&& 31))) ||| ((fh j) >>> ((nI (1)) &&& 31))) ||| (fh (j - 1)))) _ _ _ (by first | exact (if_pos (by omega)).symm | exact (if_neg (by omega)).symm) hM hS (lv_sub hl [0, 1, 2, 3, 4, 5, 6, 7, 8] rfl)
                                exact lp104 _ fg F 0 0 _ _ _ (Nat.lt_succ_self _) (by omega) (by omega) (hI) (fun _ c hc => absurd hc (Nat.not_lt_zero c)) (Nat.le_refl _) (fun z => absurd z (by omega)) hM hS (lv_sub hl [1, 0, 2, 3, 4, 5, 6, 7] rfl)
                          exact lp93 _ ((upd ff (a) ((vv a) &&& (-(vv a))))) ((fun y => y = 8 * a + r)) 1 _ _ _ (Nat.lt_succ_self _) (by omega) (lp_I_0 (by omega) hr8 hXr (fun c hc => hf c (by omega)) hbr) (fun z => absurd z (by omega)) hM hS (lv_sub hl [0, 1, 2, 3, 4, 5, 6] rfl)
                        · refine lv_aload_n S.1 S.2.1 dL_pieces_65 rfl (lv_at hl 5 rfl) ?_
                          refine lv_iload S.1 S.2.1 dL_pieces_66 (lv_at hl 0 rfl) ?_
                          refine lv_iconst (v := nI 0) S.1 S.2.1 dL_pieces_68 (by decide) ?_
                          refine mj_ist S E hS hM 8 (by omega) (by show _ < 16; omega) dL_pieces_69 (fun H locs hM hS => ?_)
                          rw [mi_up_up] at hM
                          have hM : mj_W D A q T gl (va_up (va_up gi 7 vv) 8 ((upd ff (j) (nI (0))))) H := hM
                          refine lv_iinc (v := nI (j + 1)) (lv' := [(6, .int (nI (j + 1))), (4, .int (nI (k + 1))), (5, .int (nI (a))), (0, .ref (q 1)), (1, .ref (q 7)), (2, .ref (q 8)), (3, .ref (q 9))]) S.1 S.2.1 dL_pieces_70 hl (k := 0) rfl (mi_inc _) (by decide) rfl (fun ls hl => ?_)
                          refine lv_goto (tgt := 58) S.1 S.2.1 dL_pieces_73 (by decide) ?_
                          exact ih58 ((upd ff (j) (nI (0)))) (j + 1) _ _ _ (by omega) (by omega) (fun c hc => if z : c = j then by subst z; rw [pk_us]; exact nI_0 else by rw [pk_un z]; exact hf c (by omega)) hM hS (lv_sub hl [0, 1, 2, 3, 4, 5, 6] rfl)
                    exact lp58 _ ff 0 _ _ _ (Nat.lt_succ_self _) (by omega) (fun c hc => absurd hc (Nat.not_lt_zero c)) hM hS (lv_sub hl [0, 1, 2, 3, 4, 5, 6] rfl)
              exact lp45 _ vv ff k (8 * a) _ _ _ (Nat.lt_succ_self _) (by omega) (hv) (hct) hM hS (lv_sub hl [0, 1, 2, 3, 4, 5] rfl)
        exact lp38 _ vv ((gi 8)) 0 0 _ _ _ (Nat.lt_succ_self _) (by omega) (lp_begin (fun c hc => hvs c (by omega))) (pc_ct_0 _) (by rw [show va_up (va_up gi 7 vv) 8 (gi 8) = va_up gi 7 vv from mj_up_id (va_up gi 7 vv) 8]; exact hM) hS (lv_sub hl [1, 0, 2, 3, 4, 5] rfl)
      · refine lv_aload_n S.1 S.2.1 dL_pieces_10 rfl (lv_at hl 2 rfl) ?_
        refine lv_iload S.1 S.2.1 dL_pieces_11 (lv_at hl 0 rfl) ?_
        refine lv_aload_n S.1 S.2.1 dL_pieces_13 rfl (lv_at hl 1 rfl) ?_
        refine lv_aload_n S.1 S.2.1 dL_pieces_14 rfl (lv_at hl 4 rfl) ?_
        refine lv_iconst (v := nI 0) S.1 S.2.1 dL_pieces_15 (by decide) ?_
        refine mj_ild S E hM 9 (by omega) (by show _ < 4; omega) dL_pieces_16 ?_
        refine mi_top (v' := .int (nI (sW T))) (congrArg Value.int h0) ?_
        refine lv_iload S.1 S.2.1 dL_pieces_17 (lv_at hl 0 rfl) ?_
        refine mi_cR (mi_runS (P := mj_W D A q T gl ((va_up gi 7 vv))) (As := [.ref (q 1), .int (nI (sW T)), .int (nI (j))]) (rest := [.int (nI (j)), .ref (q 7)]) S E hS hM (c_Lcolumn l D A hw (by omega)) mw_350 mw_348 mw_349 mw_17 ⟨by decide, by decide, by decide +kernel⟩ ⟨rfl, rfl, Nat.le_of_ble_eq_true rfl, Nat.le_of_ble_eq_true rfl⟩ (n := 3) rfl hl.1 rfl (Nat.le_of_ble_eq_true rfl) dL_pieces_19 ⟨Nat.le_of_ble_eq_true rfl, Nat.le_of_ble_eq_true rfl⟩) (fun r9 e9 => ?_)
        subst e9
        refine mi_cR (mi_runS (P := mj_W D A q T gl ((va_up gi 7 vv))) (As := [.int (lj_col (gl 1) (sW T) j)]) (rest := [.int (nI (j)), .ref (q 7)]) S E hS hM (c_Lsolid l D A (mj_W D A q T gl ((va_up gi 7 vv))) (hc j (by omega)) (fun l hl => hKb _ (by omega))) mw_435 mw_433 mw_434 mw_17 ⟨by decide, by decide, by decide +kernel⟩ ⟨rfl, rfl, Nat.le_of_ble_eq_true rfl, Nat.le_of_ble_eq_true rfl⟩ (n := 1) rfl hl.1 rfl (Nat.le_of_ble_eq_true rfl) dL_pieces_22 ⟨Nat.le_of_ble_eq_true rfl, Nat.le_of_ble_eq_true rfl⟩) (fun r9 e9 => ?_)
        refine mj_ist S E hS hM 7 (by omega) (by show _ < 16; omega) dL_pieces_25 (fun H locs hM hS => ?_)
        rw [mi_up_up] at hM
        have hM : mj_W D A q T gl (va_up gi 7 ((upd vv (j) (r9)))) H := hM
        refine lv_iinc (v := nI (j + 1)) (lv' := [(4, .int (nI (j + 1))), (0, .ref (q 1)), (1, .ref (q 7)), (2, .ref (q 8)), (3, .ref (q 9))]) S.1 S.2.1 dL_pieces_26 hl (k := 0) rfl (mi_inc _) (by decide) rfl (fun ls hl => ?_)
        refine lv_goto (tgt := 3) S.1 S.2.1 dL_pieces_29 (by decide) ?_
        exact ih3 ((upd vv (j) (r9))) (j + 1) _ _ _ (by omega) (by omega) (fun c hc => if z : c = j then by subst z; rw [pk_us]; exact e9 else by rw [pk_un z]; exact hvs c (by omega)) hM hS (lv_sub hl [0, 1, 2, 3, 4] rfl)
  exact lp3 _ ((gi 7)) 0 _ _ _ (Nat.lt_succ_self _) (by omega) (fun c hc => absurd hc (Nat.not_lt_zero c)) (by rw [mj_up_id]; exact hM) hS (lv_sub hl [0, 1, 2, 3, 4] rfl)
