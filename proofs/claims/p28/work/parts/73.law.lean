/-! the law -/
def lw_w0 : Cond := Cond.initialized "VoxelmintLaw"
theorem c_Lchanges (l : Launch) (D : va_G) (A : Nat → Prop) {q : Nat → Nat} {T : sT} {gl : Nat → Nat → Int64} {gi : Nat → Nat → Int32} (hst : l.stackTraces = false) (hAu : ∀ a b, A a → a ≤ b → A b) (hL : lr T gl gi) {act : Nat} (hact : act < 14) {y z : Int32} : mi_Mi l yL_changes (Cond.code yL_changes cL_changes 14 (some Jvm.ClassFile.FieldType.boolean)) (mi_rq 10 12 2100) D A (mj_W D A q T gl gi) [.ref (q 0), .int (nI act), .int y, .int z, .ref (q 1), .ref (q 2), .ref (q 9)] 12 2100 (fun r H => r = nI 1 ∧ mj_I D A q H) := by
  by_cases h1 : act < 6
  · exact c_Lch_set l D A hst hAu hL h1
  · by_cases h2 : act < 9
    · exact c_Lch_raise l D A hst hAu hL ⟨by omega, h2⟩
    · by_cases h3 : act = 9
      · exact c_Lch_layer l D A hst hAu hL h3
      · by_cases h4 : act = 10
        · exact c_Lch_visit l D A hst hAu hL h4
        · by_cases h5 : act = 11
          · exact c_Lch_undo l D A hst hAu hL h5
          · exact c_Lch_redo l D A hst hAu hL ⟨by omega, hact⟩
theorem c_Lmints (l : Launch) (D : va_G) (A : Nat → Prop) {q : Nat → Nat} {T : sT} {gl : Nat → Nat → Int64} {gi : Nat → Nat → Int32} (hst : l.stackTraces = false) (hAu : ∀ a b, A a → a ≤ b → A b) (hL : lr T gl gi) {act : Nat} (hact : act < 8) {y z : Int32} : mi_Mi l yL_mints (Cond.code yL_mints cL_mints 15 (some Jvm.ClassFile.FieldType.boolean)) (mi_rq 10 12 2100) D A (mj_W D A q T gl gi) [.ref (q 0), .int (nI act), .int y, .int z, .ref (q 1), .ref (q 3), .ref (q 4), .ref (q 5), .ref (q 6), .ref (q 7), .ref (q 8), .ref (q 9)] 12 2100 (fun r H => r = nI 1 ∧ mj_I D A q H) := by
  by_cases h1 : act = 0
  · exact c_Lmi_cut l D A hst hAu hL h1
  · by_cases h2 : act < 5
    · exact c_Lmi_strike l D A hst hAu hL ⟨by omega, h2⟩
    · exact c_Lmi_forge l D A hst hAu hL ⟨by omega, hact⟩
section MLW
variable {p : Program} {l : Launch} {e : Env} {R : Room} {s : State} {m : MethodId} {args : Array Value} {below : List Frame} {meth : Method} {c : Code} {H : Heap} {locs : List Loc} {cells slots : Nat} {Q : State → Prop}
variable {cc : ByteArray} {pc nL : Nat} {ls : Array Slot} {rest st0 : List Value} {w0 : Cond} {own : String}
variable {y : MethodName} {bytes : ByteArray} {maxL mc ms n idx : Nat} {ret : Option FieldType} {rm : Room} {Qc : Array Value → State → Outcome → State → Prop} {free : Addr → Prop} {As : List Value} {Pc : Array Value → State → Prop}
theorem mi_runSP (S : CallFix p m c cc nL s args (w0 :: mi_G) own) (hM : Met l y (Cond.code y bytes maxL ret :: mi_G) rm Pc Qc mc ms free) (hP : PreS s H Pc As) (hc : Cond.code y bytes maxL ret ∈ mi_G) (hl : Cond.methodLink own idx y ∈ mi_G) (hst : Cond.static y ∈ mi_G) (hi : Cond.initialized y.cls ∈ mi_G)
    (hd : y.cls ≠ "java/lang/invoke/MethodHandle" ∧ y.cls ≠ "java/lang/invoke/VarHandle" ∧ (parseMethodDescriptor y.desc).map (fun d => d.parameters.length) = some n) (hR : rm.cells = mc ∧ rm.slots = ms ∧ rm.frames + 1 ≤ R.frames ∧ 8 + (maxL + 11) + rm.locals ≤ R.locals) (hn : As.length = n) (hsize : ls.size = nL) (hstack : st0 = As.reverse ++ rest) (hrest : (rest.map fun v => v.category).sum ≤ 8) (hdg : decode cc pc = .ok (.invokestatic idx, 3)) (hf : cells + mc ≤ R.cells ∧ slots + ms ≤ R.slots) :
    va_Run p l e R s m args below meth c H locs cells slots mc ms (F0 m pc ls st0) rest (Qc As.toArray) free :=
  va_runS (n := n) S hM ⟨mi_callB S hc hl hi hd hR, S.2.2.2.2 _ (List.mem_cons_of_mem _ hst)⟩ hP rfl hn hsize hstack (lv_room hrest) hdg hf
theorem lw_preX {b L : Nat} {xs : Nat → Int32} {k : Nat} (hX : va_X b L xs s H) : PreS s H (va_Pc [.ref b, .int (nI k)] (fun U => va_X b L xs U U.heap)) [.ref b, .int (nI k)] :=
  ⟨fun _ U g mk h => ⟨h.1, va_X.moved (State.WarmedH.refl U).alike h.2⟩, fun U hU hWU => ⟨rfl, by show va_X b L xs U U.heap; rw [hU]; exact va_X.moved hWU.alike hX⟩⟩
end MLW
/-- rows as they are made -/
def lw_N (D : va_G) (ad2 : Nat → Nat) (cf2 : Nat → Option va_E) (ad : Nat → Nat) (cf : Nat → Option va_E) (a : Nat → Nat) (n : Nat) : Prop :=
  (∀ r, r < 1000 → cf r = cf2 r ∧ ad r = ad2 r) ∧ ∀ k, 1 ≤ k → k ≤ n → ad (1000 + k) = a k ∧ (mj_ik k → cf (1000 + k) = some (mi_ai D (mj_n k) (fun _ => 0))) ∧ (mj_lk k → cf (1000 + k) = some (mi_al D (mj_n k) (fun _ => 0)))
theorem lw_N_0 {D : va_G} {ad2 : Nat → Nat} {cf2 : Nat → Option va_E} : lw_N D ad2 cf2 ad2 cf2 (fun _ => 0) 0 := ⟨fun _ _ => ⟨rfl, rfl⟩, fun k h1 h2 => absurd h1 (by omega)⟩
theorem lw_N_s {D : va_G} {ad2 ad : Nat → Nat} {cf2 cf : Nat → Option va_E} {a : Nat → Nat} {n x : Nat} {e : va_E} (h : lw_N D ad2 cf2 ad cf a n) (hi : mj_ik (n + 1) → e = mi_ai D (mj_n (n + 1)) (fun _ => 0)) (hl : mj_lk (n + 1) → e = mi_al D (mj_n (n + 1)) (fun _ => 0)) : lw_N D ad2 cf2 (va_up ad (1000 + (n + 1)) x) (va_up cf (1000 + (n + 1)) (some e)) (mi_un a (n + 1) x) (n + 1) := by
  refine ⟨fun r hr => ⟨(mi_up_n (by omega)).trans (h.1 r hr).1, (mi_up_n (by omega)).trans (h.1 r hr).2⟩, fun k h1 h2 => ?_⟩
  by_cases z : k = n + 1
  · subst z
    rw [mi_up_s, mi_up_s, mi_un_s]
    exact ⟨rfl, fun q => by rw [hi q], fun q => by rw [hl q]⟩
  · rw [mi_up_n (by omega), mi_up_n (by omega), mi_un_n z]
    exact h.2 k h1 (by omega)
def lz_l : Nat → Nat → Int64 := fun _ _ => 0
def lz_i : Nat → Nat → Int32 := fun _ _ => 0
theorem lz_col (i c : Nat) : lj_col (lz_l 1) i c = 0 := b_ext (fun j hj => by rw [lj_col_bt _ _ _ hj, show lz_l 1 (4 * i + c / 4) = 0 from rfl, lb_0, Bool.and_false, b_0])
theorem lr_start : lr st_0 lz_l (va_up (va_up lz_i 9 (upd (lz_i 9) (1) (nI (1)))) 2 (upd (va_up lz_i 9 (upd (lz_i 9) (1) (nI (1))) 2) (0) (-1))) := by
  refine ⟨⟨rfl, rfl, rfl, rfl⟩, by show 1 ≤ 16; omega, fun i h1 h2 => ?_, fun i c h1 h2 => ?_, fun d h1 => absurd h1 (Nat.not_lt_zero d), fun d h1 => absurd h1 (Nat.not_lt_zero d)⟩
  · have h2 : i < 1 := h2
    omega
  · have h1 : i < 1 := h1
    rw [lz_col]
    refine ⟨fun l hl => ?_, fun j _ => b_0 j⟩
    rw [mo_kd_0 hl]
    congr 1
set_option maxHeartbeats 4000000 in
set_option maxRecDepth 100000 in
theorem law_body {p : Program} {l : Launch} {e : Env} {s : State} {m : MethodId} {below : List Frame} {meth : Method} {c : Code} {b L : Nat} {xs : Nat → Int32} {D : va_G} {A : Nat → Prop} (hst : l.stackTraces = false) (S : CallFix p m c cL_law 16 s #[Value.ref b] (lw_w0 :: mi_G) RL) (hX9 : va_X b L xs s s.heap) (hbl : b < s.heap.size) (hL9 : L ≤ 260) (E : mi_E D A s) (hAu : ∀ a b, A a → a ≤ b → A b) (hA2 : ∀ a, A a → s.heap.size ≤ a) (hbA : b < s.heap.size → ¬ A b) (hb : c.code = code) (hr : meth.sig.returnType = ret) (hlocks : meth.locks = false) {q : Nat → Nat} {H : Heap} {locs : List Loc} {ls : Array Slot} {k0 n0 : Nat} (hk0 : k0 ≤ 100) (hn0 : n0 ≤ 2500) (hM : mj_W D A q st_0 lz_l lz_i H) (hS : va_S A s.heap H locs) (hl : lv_has ls 16 [(1, .ref (q 0)), (2, .ref (q 1)), (3, .ref (q 2)), (4, .ref (q 3)), (5, .ref (q 4)), (6, .ref (q 5)), (7, .ref (q 6)), (8, .ref (q 7)), (9, .ref (q 8)), (10, .ref (q 9)), (0, .ref (b))]) : W p l e room_1 s m #[Value.ref b] below meth c H locs k0 n0 (lw_Z below #[Value.ref b] s) (F0 m 59 ls []) := by
  refine lv_aload S.1 S.2.1 dL_law_59 (lv_at hl 9 rfl) ?_
  refine lv_iconst (v := nI 1) S.1 S.2.1 dL_law_61 (by decide) ?_
  refine lv_iconst (v := nI 1) S.1 S.2.1 dL_law_62 (by decide) ?_
  refine mj_ist S E hS hM 9 (by omega) (by show _ < 4; omega) dL_law_63 (fun H locs hM hS => ?_)
  refine lv_aload_n S.1 S.2.1 dL_law_64 rfl (lv_at hl 2 rfl) ?_
  refine lv_iconst (v := nI 0) S.1 S.2.1 dL_law_65 (by decide) ?_
  refine lv_iconst (v := (-1)) S.1 S.2.1 dL_law_66 (by decide) ?_
  refine mj_ist S E hS hM 2 (by omega) (by show _ < 16; omega) dL_law_67 (fun H locs hM hS => ?_)
  refine lv_aload_n S.1 S.2.1 dL_law_68 rfl (lv_at hl 0 rfl) ?_
  refine lv_iconst (v := nI 2) S.1 S.2.1 dL_law_69 (by decide) ?_
  refine lv_aload_n S.1 S.2.1 dL_law_70 rfl (lv_at hl 1 rfl) ?_
  refine lv_aload_n S.1 S.2.1 dL_law_71 rfl (lv_at hl 2 rfl) ?_
  refine lv_aload S.1 S.2.1 dL_law_72 (lv_at hl 3 rfl) ?_
  refine lv_aload S.1 S.2.1 dL_law_74 (lv_at hl 4 rfl) ?_
  refine lv_aload S.1 S.2.1 dL_law_76 (lv_at hl 5 rfl) ?_
  refine lv_aload S.1 S.2.1 dL_law_78 (lv_at hl 6 rfl) ?_
  refine lv_aload S.1 S.2.1 dL_law_80 (lv_at hl 7 rfl) ?_
  refine lv_aload S.1 S.2.1 dL_law_82 (lv_at hl 8 rfl) ?_
  refine lv_aload S.1 S.2.1 dL_law_84 (lv_at hl 9 rfl) ?_
  refine mi_cMi (mi_runS (P := mj_W D A q st_0 lz_l ((va_up ((va_up lz_i 9 (upd (lz_i 9) (1) (nI (1))))) 2 (upd (((va_up lz_i 9 (upd (lz_i 9) (1) (nI (1))))) 2) (0) (-1))))) (As := [.ref (q 0), .int (nI (2)), .ref (q 1), .ref (q 2), .ref (q 3), .ref (q 4), .ref (q 5), .ref (q 6), .ref (q 7), .ref (q 8), .ref (q 9)]) (rest := []) S E hS hM (c_LisTold l D A hst lr_start) mw_580 mw_578 mw_579 mw_17 ⟨by decide, by decide, by decide +kernel⟩ ⟨rfl, rfl, Nat.le_of_ble_eq_true rfl, Nat.le_of_ble_eq_true rfl⟩ (n := 11) rfl hl.1 rfl (Nat.le_of_ble_eq_true rfl) dL_law_86 ⟨by show _ ≤ (797281 : Nat); omega, by show _ ≤ (6709625 : Nat); omega⟩) hS (fun r9 H locs hp9 hS hz9 => ?_)
  obtain ⟨e9, T1, gl1, gi1, hL1, hM⟩ := hp9
  refine mi_top (v' := .int (nI 1)) (by rw [e9]) ?_
  refine mi_if_ne (tgt := 94) S (by omega) dL_law_89 (by decide) (fun c89_1 => ?_) (fun c89_1 => by exfalso; omega)
  refine lv_iconst (v := nI 0) S.1 S.2.1 dL_law_94 (by decide) ?_
  refine lv_istore (lv' := [(11, .int (nI (0))), (1, .ref (q 0)), (2, .ref (q 1)), (3, .ref (q 2)), (4, .ref (q 3)), (5, .ref (q 4)), (6, .ref (q 5)), (7, .ref (q 6)), (8, .ref (q 7)), (9, .ref (q 8)), (10, .ref (q 9)), (0, .ref (b))]) S.1 S.2.1 dL_law_95 hl (by decide) rfl (fun ls hl => ?_)
  have lp97 : ∀ (n97 : Nat) (T : sT) (gl : Nat → Nat → Int64) (gi : Nat → Nat → Int32) (tn : Nat) (H : Heap) (locs : List Loc) (ls : Array Slot), 90 - tn < n97 → tn ≤ 90 → lr T gl gi → mj_W D A q T gl gi H → va_S A s.heap H locs → lv_has ls 16 [(11, .int (nI (tn))), (1, .ref (q 0)), (2, .ref (q 1)), (3, .ref (q 2)), (4, .ref (q 3)), (5, .ref (q 4)), (6, .ref (q 5)), (7, .ref (q 6)), (8, .ref (q 7)), (9, .ref (q 8)), (10, .ref (q 9)), (0, .ref (b))] → W p l e room_1 s m #[Value.ref b] below meth c H locs (200 + 72 * tn) (3000 + 2460 * tn) (lw_Z below #[Value.ref b] s) (F0 m 97 ls []) := by
    intro n97
    induction n97 with
    | zero => intro T gl gi tn H locs ls hm htn hL hM hS hl; exact absurd hm (Nat.not_lt_zero _)
    | succ n97 ih97 =>
      intro T gl gi tn H locs ls hm htn hL hM hS hl
      refine lv_iload S.1 S.2.1 dL_law_97 (lv_at hl 0 rfl) ?_
      refine lv_bipush (v := nI 90) S.1 S.2.1 dL_law_99 (by decide) ?_
      refine mi_icmp_ge (tgt := 243) S (by omega) (by omega) dL_law_101 (by decide) (fun c101_2 => ?_) (fun c101_2 => ?_)
      · refine lv_iconst (v := nI 1) S.1 S.2.1 dL_law_243 (by decide) ?_
        refine mi_top (v' := .int 1) rfl ?_
        refine va_forget (fun q hq => hA2 _ (hS.2.2 q hq)) ?_
        refine W.widen (k := 797281) (n := 6709625) (by omega) (by omega) ?_
        exact lw_ret S.1 hb hr hlocks dL_law_244
      · refine lv_aload_n S.1 S.2.1 dL_law_104 rfl (lv_at hl 11 rfl) ?_
        refine lv_iconst (v := nI 3) S.1 S.2.1 dL_law_105 (by decide) ?_
        refine lv_iload S.1 S.2.1 dL_law_106 (lv_at hl 0 rfl) ?_
        refine mi_imul S dL_law_108 ?_
        refine mi_cR (mi_runSP (As := [.ref b, .int (nI (3 * tn))]) (rest := []) S (c_Lcell l (xs := xs) (b := b) (L := L) (show 3 * tn < 1000 by omega) hL9) (lw_preX (hX9.kept (hS.2.1 b hbl (hbA hbl)))) mw_182 mw_180 mw_181 mw_17 ⟨by decide, by decide, by decide +kernel⟩ ⟨rfl, rfl, Nat.le_of_ble_eq_true rfl, Nat.le_of_ble_eq_true rfl⟩ (n := 2) rfl hl.1 rfl (Nat.le_of_ble_eq_true rfl) dL_law_109 ⟨by show _ ≤ (797281 : Nat); omega, by show _ ≤ (6709625 : Nat); omega⟩) (fun x9 _ => ?_)
        refine lv_istore (lv' := [(12, .int (x9)), (11, .int (nI (tn))), (1, .ref (q 0)), (2, .ref (q 1)), (3, .ref (q 2)), (4, .ref (q 3)), (5, .ref (q 4)), (6, .ref (q 5)), (7, .ref (q 6)), (8, .ref (q 7)), (9, .ref (q 8)), (10, .ref (q 9)), (0, .ref (b))]) S.1 S.2.1 dL_law_112 hl (by decide) rfl (fun ls hl => ?_)
        refine lv_aload_n S.1 S.2.1 dL_law_114 rfl (lv_at hl 12 rfl) ?_
        refine lv_iconst (v := nI 3) S.1 S.2.1 dL_law_115 (by decide) ?_
        refine lv_iload S.1 S.2.1 dL_law_116 (lv_at hl 1 rfl) ?_
        refine mi_imul S dL_law_118 ?_
        refine lv_iconst (v := nI 1) S.1 S.2.1 dL_law_119 (by decide) ?_
        refine mi_iadd S dL_law_120 ?_
        refine mi_cR (mi_runSP (As := [.ref b, .int (nI ((3 * tn) + 1))]) (rest := []) S (c_Lcell l (xs := xs) (b := b) (L := L) (show (3 * tn) + 1 < 1000 by omega) hL9) (lw_preX (hX9.kept (hS.2.1 b hbl (hbA hbl)))) mw_182 mw_180 mw_181 mw_17 ⟨by decide, by decide, by decide +kernel⟩ ⟨rfl, rfl, Nat.le_of_ble_eq_true rfl, Nat.le_of_ble_eq_true rfl⟩ (n := 2) rfl hl.1 rfl (Nat.le_of_ble_eq_true rfl) dL_law_121 ⟨by show _ ≤ (797281 : Nat); omega, by show _ ≤ (6709625 : Nat); omega⟩) (fun y9 _ => ?_)
        refine lv_istore (lv' := [(13, .int (y9)), (12, .int (x9)), (11, .int (nI (tn))), (1, .ref (q 0)), (2, .ref (q 1)), (3, .ref (q 2)), (4, .ref (q 3)), (5, .ref (q 4)), (6, .ref (q 5)), (7, .ref (q 6)), (8, .ref (q 7)), (9, .ref (q 8)), (10, .ref (q 9)), (0, .ref (b))]) S.1 S.2.1 dL_law_124 hl (by decide) rfl (fun ls hl => ?_)
        refine lv_aload_n S.1 S.2.1 dL_law_126 rfl (lv_at hl 13 rfl) ?_
        refine lv_iconst (v := nI 3) S.1 S.2.1 dL_law_127 (by decide) ?_
        refine lv_iload S.1 S.2.1 dL_law_128 (lv_at hl 2 rfl) ?_
        refine mi_imul S dL_law_130 ?_
        refine lv_iconst (v := nI 2) S.1 S.2.1 dL_law_131 (by decide) ?_
        refine mi_iadd S dL_law_132 ?_
        refine mi_cR (mi_runSP (As := [.ref b, .int (nI ((3 * tn) + 2))]) (rest := []) S (c_Lcell l (xs := xs) (b := b) (L := L) (show (3 * tn) + 2 < 1000 by omega) hL9) (lw_preX (hX9.kept (hS.2.1 b hbl (hbA hbl)))) mw_182 mw_180 mw_181 mw_17 ⟨by decide, by decide, by decide +kernel⟩ ⟨rfl, rfl, Nat.le_of_ble_eq_true rfl, Nat.le_of_ble_eq_true rfl⟩ (n := 2) rfl hl.1 rfl (Nat.le_of_ble_eq_true rfl) dL_law_133 ⟨by show _ ≤ (797281 : Nat); omega, by show _ ≤ (6709625 : Nat); omega⟩) (fun z9 _ => ?_)
        refine lv_istore (lv' := [(14, .int (z9)), (13, .int (y9)), (12, .int (x9)), (11, .int (nI (tn))), (1, .ref (q 0)), (2, .ref (q 1)), (3, .ref (q 2)), (4, .ref (q 3)), (5, .ref (q 4)), (6, .ref (q 5)), (7, .ref (q 6)), (8, .ref (q 7)), (9, .ref (q 8)), (10, .ref (q 9)), (0, .ref (b))]) S.1 S.2.1 dL_law_136 hl (by decide) rfl (fun ls hl => ?_)
        refine lv_iload S.1 S.2.1 dL_law_138 (lv_at hl 2 rfl) ?_
        refine lv_bipush (v := nI 22) S.1 S.2.1 dL_law_140 (by decide) ?_
        refine mi_cR (mi_runS (P := mj_W D A q T gl gi) (As := [.int (x9), .int (nI (22))]) (rest := []) S E hS hM (c_Llow l D A (mj_W D A q T gl gi) (by omega) (by omega)) mw_186 mw_184 mw_185 mw_17 ⟨by decide, by decide, by decide +kernel⟩ ⟨rfl, rfl, Nat.le_of_ble_eq_true rfl, Nat.le_of_ble_eq_true rfl⟩ (n := 2) rfl hl.1 rfl (Nat.le_of_ble_eq_true rfl) dL_law_142 ⟨by show _ ≤ (797281 : Nat); omega, by show _ ≤ (6709625 : Nat); omega⟩) (fun r9 e9 => ?_)
        obtain ⟨ac, hac, rfl⟩ := e9
        refine lv_istore (lv' := [(15, .int (nI (ac))), (14, .int (z9)), (13, .int (y9)), (12, .int (x9)), (11, .int (nI (tn))), (1, .ref (q 0)), (2, .ref (q 1)), (3, .ref (q 2)), (4, .ref (q 3)), (5, .ref (q 4)), (6, .ref (q 5)), (7, .ref (q 6)), (8, .ref (q 7)), (9, .ref (q 8)), (10, .ref (q 9)), (0, .ref (b))]) S.1 S.2.1 dL_law_145 hl (by decide) rfl (fun ls hl => ?_)
        refine lv_iload S.1 S.2.1 dL_law_147 (lv_at hl 0 rfl) ?_
        refine lv_bipush (v := nI 14) S.1 S.2.1 dL_law_149 (by decide) ?_
        refine mi_icmp_ge (tgt := 174) S (by omega) (by omega) dL_law_151 (by decide) (fun c151_3 => ?_) (fun c151_3 => ?_)
        · refine lv_aload_n S.1 S.2.1 dL_law_174 rfl (lv_at hl 5 rfl) ?_
          refine lv_iload S.1 S.2.1 dL_law_175 (lv_at hl 0 rfl) ?_
          refine lv_bipush (v := nI 14) S.1 S.2.1 dL_law_177 (by decide) ?_
          refine mi_isub S (by omega) dL_law_179 ?_
          refine lv_iload S.1 S.2.1 dL_law_180 (lv_at hl 2 rfl) ?_
          refine lv_iload S.1 S.2.1 dL_law_182 (lv_at hl 1 rfl) ?_
          refine lv_aload_n S.1 S.2.1 dL_law_184 rfl (lv_at hl 6 rfl) ?_
          refine lv_aload S.1 S.2.1 dL_law_185 (lv_at hl 8 rfl) ?_
          refine lv_aload S.1 S.2.1 dL_law_187 (lv_at hl 9 rfl) ?_
          refine lv_aload S.1 S.2.1 dL_law_189 (lv_at hl 10 rfl) ?_
          refine lv_aload S.1 S.2.1 dL_law_191 (lv_at hl 11 rfl) ?_
          refine lv_aload S.1 S.2.1 dL_law_193 (lv_at hl 12 rfl) ?_
          refine lv_aload S.1 S.2.1 dL_law_195 (lv_at hl 13 rfl) ?_
          refine lv_aload S.1 S.2.1 dL_law_197 (lv_at hl 14 rfl) ?_
          refine mi_cMi (mi_runS (P := mj_W D A q T gl gi) (As := [.ref (q 0), .int (nI (ac - 14)), .int (y9), .int (z9), .ref (q 1), .ref (q 3), .ref (q 4), .ref (q 5), .ref (q 6), .ref (q 7), .ref (q 8), .ref (q 9)]) (rest := []) S E hS hM (c_Lmints l D A hst hAu hL (by omega)) mw_429 mw_427 mw_428 mw_17 ⟨by decide, by decide, by decide +kernel⟩ ⟨rfl, rfl, Nat.le_of_ble_eq_true rfl, Nat.le_of_ble_eq_true rfl⟩ (n := 12) rfl hl.1 rfl (Nat.le_of_ble_eq_true rfl) dL_law_199 ⟨by show _ ≤ (797281 : Nat); omega, by show _ ≤ (6709625 : Nat); omega⟩) hS (fun r9 H locs hp9 hS hz9 => ?_)
          obtain ⟨e9, T5, gl5, gi5, hL5, hM⟩ := hp9
          refine mi_top (v' := .int (nI 1)) (by rw [e9]) ?_
          refine mi_if_eq (tgt := 235) S (by omega) dL_law_202 (by decide) (fun c202_5 => by exfalso; omega) (fun c202_5 => ?_)
          refine lv_aload_n S.1 S.2.1 dL_law_205 rfl (lv_at hl 5 rfl) ?_
          refine lv_iload S.1 S.2.1 dL_law_206 (lv_at hl 3 rfl) ?_
          refine lv_iconst (v := nI 5) S.1 S.2.1 dL_law_208 (by decide) ?_
          refine lv_ishr S.1 S.2.1 dL_law_209 ?_
          refine lv_iload S.1 S.2.1 dL_law_210 (lv_at hl 2 rfl) ?_
          refine lv_ixor S.1 S.2.1 dL_law_212 ?_
          refine lv_aload_n S.1 S.2.1 dL_law_213 rfl (lv_at hl 6 rfl) ?_
          refine lv_aload_n S.1 S.2.1 dL_law_214 rfl (lv_at hl 7 rfl) ?_
          refine lv_aload S.1 S.2.1 dL_law_215 (lv_at hl 8 rfl) ?_
          refine lv_aload S.1 S.2.1 dL_law_217 (lv_at hl 9 rfl) ?_
          refine lv_aload S.1 S.2.1 dL_law_219 (lv_at hl 10 rfl) ?_
          refine lv_aload S.1 S.2.1 dL_law_221 (lv_at hl 11 rfl) ?_
          refine lv_aload S.1 S.2.1 dL_law_223 (lv_at hl 12 rfl) ?_
          refine lv_aload S.1 S.2.1 dL_law_225 (lv_at hl 13 rfl) ?_
          refine lv_aload S.1 S.2.1 dL_law_227 (lv_at hl 14 rfl) ?_
          refine mi_cMi (mi_runS (P := mj_W D A q T5 gl5 gi5) (As := [.ref (q 0), .int ((x9 >>> ((nI (5)) &&& 31)) ^^^ y9), .ref (q 1), .ref (q 2), .ref (q 3), .ref (q 4), .ref (q 5), .ref (q 6), .ref (q 7), .ref (q 8), .ref (q 9)]) (rest := []) S E hS hM (c_LisTold l D A hst hL5) mw_580 mw_578 mw_579 mw_17 ⟨by decide, by decide, by decide +kernel⟩ ⟨rfl, rfl, Nat.le_of_ble_eq_true rfl, Nat.le_of_ble_eq_true rfl⟩ (n := 11) rfl hl.1 rfl (Nat.le_of_ble_eq_true rfl) dL_law_229 ⟨by show _ ≤ (797281 : Nat); omega, by show _ ≤ (6709625 : Nat); omega⟩) hS (fun r9 H locs hp9 hS hz9 => ?_)
          obtain ⟨e9, T7, gl7, gi7, hL7, hM⟩ := hp9
          refine mi_top (v' := .int (nI 1)) (by rw [e9]) ?_
          refine mi_if_ne (tgt := 237) S (by omega) dL_law_232 (by decide) (fun c232_7 => ?_) (fun c232_7 => by exfalso; omega)
          refine lv_iinc (v := nI (tn + 1)) (lv' := [(11, .int (nI (tn + 1))), (15, .int (nI (ac))), (14, .int (z9)), (13, .int (y9)), (12, .int (x9)), (1, .ref (q 0)), (2, .ref (q 1)), (3, .ref (q 2)), (4, .ref (q 3)), (5, .ref (q 4)), (6, .ref (q 5)), (7, .ref (q 6)), (8, .ref (q 7)), (9, .ref (q 8)), (10, .ref (q 9)), (0, .ref (b))]) S.1 S.2.1 dL_law_237 hl (k := 4) rfl (mi_inc _) (by decide) rfl (fun ls hl => ?_)
          refine lv_goto (tgt := 97) S.1 S.2.1 dL_law_240 (by decide) ?_
          refine W.widen (k := 200 + 72 * (tn + 1)) (n := 3000 + 2460 * (tn + 1)) (by omega) (by omega) ?_
          exact ih97 T7 gl7 gi7 (tn + 1) _ _ _ (by omega) (by omega) (hL7) hM hS (lv_sub hl [0, 5, 6, 7, 8, 9, 10, 11, 12, 13, 14, 15] rfl)
        · refine lv_aload_n S.1 S.2.1 dL_law_154 rfl (lv_at hl 5 rfl) ?_
          refine lv_iload S.1 S.2.1 dL_law_155 (lv_at hl 0 rfl) ?_
          refine lv_iload S.1 S.2.1 dL_law_157 (lv_at hl 2 rfl) ?_
          refine lv_iload S.1 S.2.1 dL_law_159 (lv_at hl 1 rfl) ?_
          refine lv_aload_n S.1 S.2.1 dL_law_161 rfl (lv_at hl 6 rfl) ?_
          refine lv_aload_n S.1 S.2.1 dL_law_162 rfl (lv_at hl 7 rfl) ?_
          refine lv_aload S.1 S.2.1 dL_law_163 (lv_at hl 14 rfl) ?_
          refine mi_cMi (mi_runS (P := mj_W D A q T gl gi) (As := [.ref (q 0), .int (nI (ac)), .int (y9), .int (z9), .ref (q 1), .ref (q 2), .ref (q 9)]) (rest := []) S E hS hM (c_Lchanges l D A hst hAu hL (by omega)) mw_189 mw_187 mw_188 mw_17 ⟨by decide, by decide, by decide +kernel⟩ ⟨rfl, rfl, Nat.le_of_ble_eq_true rfl, Nat.le_of_ble_eq_true rfl⟩ (n := 7) rfl hl.1 rfl (Nat.le_of_ble_eq_true rfl) dL_law_165 ⟨by show _ ≤ (797281 : Nat); omega, by show _ ≤ (6709625 : Nat); omega⟩) hS (fun r9 H locs hp9 hS hz9 => ?_)
          obtain ⟨e9, T9, gl9, gi9, hL9, hM⟩ := hp9
          refine mi_top (v' := .int (nI 1)) (by rw [e9]) ?_
          refine mi_if_eq (tgt := 235) S (by omega) dL_law_168 (by decide) (fun c168_9 => by exfalso; omega) (fun c168_9 => ?_)
          refine lv_goto (tgt := 205) S.1 S.2.1 dL_law_171 (by decide) ?_
          refine lv_aload_n S.1 S.2.1 dL_law_205 rfl (lv_at hl 5 rfl) ?_
          refine lv_iload S.1 S.2.1 dL_law_206 (lv_at hl 3 rfl) ?_
          refine lv_iconst (v := nI 5) S.1 S.2.1 dL_law_208 (by decide) ?_
          refine lv_ishr S.1 S.2.1 dL_law_209 ?_
          refine lv_iload S.1 S.2.1 dL_law_210 (lv_at hl 2 rfl) ?_
          refine lv_ixor S.1 S.2.1 dL_law_212 ?_
          refine lv_aload_n S.1 S.2.1 dL_law_213 rfl (lv_at hl 6 rfl) ?_
          refine lv_aload_n S.1 S.2.1 dL_law_214 rfl (lv_at hl 7 rfl) ?_
          refine lv_aload S.1 S.2.1 dL_law_215 (lv_at hl 8 rfl) ?_
          refine lv_aload S.1 S.2.1 dL_law_217 (lv_at hl 9 rfl) ?_
          refine lv_aload S.1 S.2.1 dL_law_219 (lv_at hl 10 rfl) ?_
          refine lv_aload S.1 S.2.1 dL_law_221 (lv_at hl 11 rfl) ?_
          refine lv_aload S.1 S.2.1 dL_law_223 (lv_at hl 12 rfl) ?_
          refine lv_aload S.1 S.2.1 dL_law_225 (lv_at hl 13 rfl) ?_
          refine lv_aload S.1 S.2.1 dL_law_227 (lv_at hl 14 rfl) ?_
          refine mi_cMi (mi_runS (P := mj_W D A q T9 gl9 gi9) (As := [.ref (q 0), .int ((x9 >>> ((nI (5)) &&& 31)) ^^^ y9), .ref (q 1), .ref (q 2), .ref (q 3), .ref (q 4), .ref (q 5), .ref (q 6), .ref (q 7), .ref (q 8), .ref (q 9)]) (rest := []) S E hS hM (c_LisTold l D A hst hL9) mw_580 mw_578 mw_579 mw_17 ⟨by decide, by decide, by decide +kernel⟩ ⟨rfl, rfl, Nat.le_of_ble_eq_true rfl, Nat.le_of_ble_eq_true rfl⟩ (n := 11) rfl hl.1 rfl (Nat.le_of_ble_eq_true rfl) dL_law_229 ⟨by show _ ≤ (797281 : Nat); omega, by show _ ≤ (6709625 : Nat); omega⟩) hS (fun r9 H locs hp9 hS hz9 => ?_)
          obtain ⟨e9, T11, gl11, gi11, hL11, hM⟩ := hp9
          refine mi_top (v' := .int (nI 1)) (by rw [e9]) ?_
          refine mi_if_ne (tgt := 237) S (by omega) dL_law_232 (by decide) (fun c232_11 => ?_) (fun c232_11 => by exfalso; omega)
          refine lv_iinc (v := nI (tn + 1)) (lv' := [(11, .int (nI (tn + 1))), (15, .int (nI (ac))), (14, .int (z9)), (13, .int (y9)), (12, .int (x9)), (1, .ref (q 0)), (2, .ref (q 1)), (3, .ref (q 2)), (4, .ref (q 3)), (5, .ref (q 4)), (6, .ref (q 5)), (7, .ref (q 6)), (8, .ref (q 7)), (9, .ref (q 8)), (10, .ref (q 9)), (0, .ref (b))]) S.1 S.2.1 dL_law_237 hl (k := 4) rfl (mi_inc _) (by decide) rfl (fun ls hl => ?_)
          refine lv_goto (tgt := 97) S.1 S.2.1 dL_law_240 (by decide) ?_
          refine W.widen (k := 200 + 72 * (tn + 1)) (n := 3000 + 2460 * (tn + 1)) (by omega) (by omega) ?_
          exact ih97 T11 gl11 gi11 (tn + 1) _ _ _ (by omega) (by omega) (hL11) hM hS (lv_sub hl [0, 5, 6, 7, 8, 9, 10, 11, 12, 13, 14, 15] rfl)
  refine W.widen (k := 200 + 72 * 0) (n := 3000 + 2460 * 0) (by omega) (by omega) ?_
  exact lp97 _ T1 gl1 gi1 0 _ _ _ (Nat.lt_succ_self _) (by omega) (hL1) hM hS (lv_sub hl [0, 1, 2, 3, 4, 5, 6, 7, 8, 9, 10, 11] rfl)
set_option maxHeartbeats 4000000 in
set_option maxRecDepth 100000 in
/-- THE LAW, from its entry -/
theorem whole_start {p : Program} {e : Env} {s : State} {m : MethodId} {below : List Frame} {meth : Method} {c : Code} (l : Launch) (hflags : l.flags = flags0) {b L : Nat} {xs : Nat → Int32} (hL : L ≤ 260) (C0 : lw_At p s m meth c b L xs) : W p l e room_1 s m #[Value.ref b] below meth c s.heap [] 0 0 (lw_Z below #[Value.ref b] s) (entryFrame m ([Value.ref b] : List Value).toArray 16) := by
  have hst : l.stackTraces = false := by unfold Launch.stackTraces; rw [hflags]; decide +kernel
  obtain ⟨D, E⟩ := lw_env C0
  obtain ⟨hx, hb, hr, hml, hown, hts, hX9, hbl, hlocks, hgv⟩ := C0
  have S9 : CallFix p m c cL_law 16 s #[Value.ref b] (lw_w0 :: mi_G) RL := ⟨hx, hb, hml, hown, List.forall_mem_cons.mpr ⟨hts _ (lw_inG mw_17), fun w hw => hts w (lw_inG hw)⟩⟩
  have hA : ∀ q : Nat, s.heap.size ≤ q → (fun q => s.heap.size ≤ q) q := fun _ h => h
  have hAu : ∀ a b : Nat, (fun q => s.heap.size ≤ q) a → a ≤ b → (fun q => s.heap.size ≤ q) b := fun a b h1 h2 => Nat.le_trans h1 h2
  have hS : va_S (fun q => s.heap.size ≤ q) s.heap s.heap [] := va_S.rf
  have hW : mi_W D (fun q => s.heap.size ≤ q) (fun _ => 0) (fun _ => none) s.heap := ⟨fun r e h => (by cases h), fun r r9 e e9 h => (by cases h)⟩
  have hl := lv_entry ([.ref b]) (n := 16) (Nat.le_of_ble_eq_true rfl)
  rw [lg_entry_eq]
  generalize (lg_sl ([.ref b]) ++ List.replicate (16 - (lg_sl ([.ref b])).length) Slot.unset).toArray = ls at hl ⊢
  have hl : lv_has ls 16 [(0, .ref b)] := hl
  refine mi_new (ci := 5) (fs := [.null, .null, .null, .null, .null]) S9 E hS hA hW 0 rfl (mg_X4 _) tyX4 tyX4_ok (fun j hj => by rcases (show j = 0 ∨ j = 1 ∨ j = 2 ∨ j = 3 ∨ j = 4 by omega) with rfl | rfl | rfl | rfl | rfl <;> rfl) (List.mem_cons_of_mem _ mw_38) (List.mem_cons_of_mem _ mw_39) (List.mem_cons_of_mem _ mw_18) (Nat.le_of_ble_eq_true rfl) (Nat.le_of_ble_eq_true rfl) dL_law_0 (fun H hW hS hz => ?_)
  obtain ⟨ad1, had1⟩ : ∃ z, z = va_up (fun _ => 0 : Nat → Nat) 0 s.heap.size := ⟨_, rfl⟩
  obtain ⟨cf1, hcf1⟩ : ∃ z, z = va_up (fun _ => none : Nat → Option va_E) 0 (some (.inr (5, [.null, .null, .null, .null, .null]))) := ⟨_, rfl⟩
  rw [← had1, ← hcf1] at hW
  have he1 : cf1 0 = some (.inr (5, [.null, .null, .null, .null, .null])) := by rw [hcf1]; exact mi_up_s
  have ha1 : ad1 0 = s.heap.size := by rw [had1]; exact mi_up_s
  refine lv_dup S9.1 S9.2.1 dL_law_3 rfl ?_
  refine mi_cMv (mi_runI (P := mi_W D (fun q => s.heap.size ≤ q) ad1 cf1) (As := []) (rest := [.ref s.heap.size]) S9 E hS hW (s.heap.size) (c_vinit l D (fun q => s.heap.size ≤ q) hAu ha1 he1 (by rw [hcf1]; rfl)) mw_42 mw_40 mw_41 mw_18 rfl ⟨by decide, by decide, by decide +kernel⟩ ⟨rfl, rfl, Nat.le_of_ble_eq_true rfl, Nat.le_of_ble_eq_true rfl⟩ (n := 0) rfl hl.1 rfl (Nat.le_of_ble_eq_true rfl) dL_law_4 ⟨Nat.le_of_ble_eq_true rfl, Nat.le_of_ble_eq_true rfl⟩) hS (fun H locs hp9 hS hz => ?_)
  obtain ⟨ad2, cf2, hW, hX2, fr2, a20⟩ := hp9
  have ha2 : ad2 0 = s.heap.size := a20.trans ha1
  refine lv_astore_n (lv' := [(1, .ref s.heap.size), (0, .ref b)]) S9.1 S9.2.1 dL_law_7 rfl hl (by decide) rfl (fun ls hl => ?_)
  have hN := lw_N_0 (D := D) (ad2 := ad2) (cf2 := cf2)
  refine lv_bipush (v := nI 64) S9.1 S9.2.1 dL_law_8 (by decide) ?_
  obtain ⟨a1, hn1⟩ : ∃ z, z = H.size := ⟨_, rfl⟩
  refine mi_newl (n := 64) S9 E hS hA hW (1000 + 1) (List.mem_cons_of_mem _ mw_691) (by omega) (Nat.le_of_ble_eq_true rfl) (Nat.le_of_ble_eq_true rfl) dL_law_10 (fun H9 hW hS hz => ?_)
  rw [← hn1] at hW hz ⊢
  obtain ⟨H, rfl⟩ : ∃ z, z = H9 := ⟨_, rfl⟩
  have hN := lw_N_s (x := a1) (e := mi_al D 64 (fun _ => 0)) hN (fun q => absurd q (by decide)) (fun q => rfl)
  refine lv_astore_n (lv' := [(2, .ref a1), (1, .ref s.heap.size), (0, .ref b)]) S9.1 S9.2.1 dL_law_12 rfl hl (by decide) rfl (fun ls hl => ?_)
  refine lv_bipush (v := nI 16) S9.1 S9.2.1 dL_law_13 (by decide) ?_
  obtain ⟨a2, hn2⟩ : ∃ z, z = H.size := ⟨_, rfl⟩
  refine mi_newi (n := 16) S9 E hS hA hW (1000 + 2) (List.mem_cons_of_mem _ mw_88) (by omega) (Nat.le_of_ble_eq_true rfl) (Nat.le_of_ble_eq_true rfl) dL_law_15 (fun H9 hW hS hz => ?_)
  rw [← hn2] at hW hz ⊢
  obtain ⟨H, rfl⟩ : ∃ z, z = H9 := ⟨_, rfl⟩
  have hN := lw_N_s (x := a2) (e := mi_ai D 16 (fun _ => 0)) hN (fun q => rfl) (fun q => absurd q (by decide))
  refine lv_astore_n (lv' := [(3, .ref a2), (2, .ref a1), (1, .ref s.heap.size), (0, .ref b)]) S9.1 S9.2.1 dL_law_17 rfl hl (by decide) rfl (fun ls hl => ?_)
  refine lv_bipush (v := nI 8) S9.1 S9.2.1 dL_law_18 (by decide) ?_
  obtain ⟨a3, hn3⟩ : ∃ z, z = H.size := ⟨_, rfl⟩
  refine mi_newl (n := 8) S9 E hS hA hW (1000 + 3) (List.mem_cons_of_mem _ mw_691) (by omega) (Nat.le_of_ble_eq_true rfl) (Nat.le_of_ble_eq_true rfl) dL_law_20 (fun H9 hW hS hz => ?_)
  rw [← hn3] at hW hz ⊢
  obtain ⟨H, rfl⟩ : ∃ z, z = H9 := ⟨_, rfl⟩
  have hN := lw_N_s (x := a3) (e := mi_al D 8 (fun _ => 0)) hN (fun q => absurd q (by decide)) (fun q => rfl)
  refine lv_astore (lv' := [(4, .ref a3), (3, .ref a2), (2, .ref a1), (1, .ref s.heap.size), (0, .ref b)]) S9.1 S9.2.1 dL_law_22 hl (by decide) rfl (fun ls hl => ?_)
  refine lv_bipush (v := nI 60) S9.1 S9.2.1 dL_law_24 (by decide) ?_
  obtain ⟨a4, hn4⟩ : ∃ z, z = H.size := ⟨_, rfl⟩
  refine mi_newl (n := 60) S9 E hS hA hW (1000 + 4) (List.mem_cons_of_mem _ mw_691) (by omega) (Nat.le_of_ble_eq_true rfl) (Nat.le_of_ble_eq_true rfl) dL_law_26 (fun H9 hW hS hz => ?_)
  rw [← hn4] at hW hz ⊢
  obtain ⟨H, rfl⟩ : ∃ z, z = H9 := ⟨_, rfl⟩
  have hN := lw_N_s (x := a4) (e := mi_al D 60 (fun _ => 0)) hN (fun q => absurd q (by decide)) (fun q => rfl)
  refine lv_astore (lv' := [(5, .ref a4), (4, .ref a3), (3, .ref a2), (2, .ref a1), (1, .ref s.heap.size), (0, .ref b)]) S9.1 S9.2.1 dL_law_28 hl (by decide) rfl (fun ls hl => ?_)
  refine lv_bipush (v := nI 8) S9.1 S9.2.1 dL_law_30 (by decide) ?_
  obtain ⟨a5, hn5⟩ : ∃ z, z = H.size := ⟨_, rfl⟩
  refine mi_newi (n := 8) S9 E hS hA hW (1000 + 5) (List.mem_cons_of_mem _ mw_88) (by omega) (Nat.le_of_ble_eq_true rfl) (Nat.le_of_ble_eq_true rfl) dL_law_32 (fun H9 hW hS hz => ?_)
  rw [← hn5] at hW hz ⊢
  obtain ⟨H, rfl⟩ : ∃ z, z = H9 := ⟨_, rfl⟩
  have hN := lw_N_s (x := a5) (e := mi_ai D 8 (fun _ => 0)) hN (fun q => rfl) (fun q => absurd q (by decide))
  refine lv_astore (lv' := [(6, .ref a5), (5, .ref a4), (4, .ref a3), (3, .ref a2), (2, .ref a1), (1, .ref s.heap.size), (0, .ref b)]) S9.1 S9.2.1 dL_law_34 hl (by decide) rfl (fun ls hl => ?_)
  refine lv_bipush (v := nI 60) S9.1 S9.2.1 dL_law_36 (by decide) ?_
  obtain ⟨a6, hn6⟩ : ∃ z, z = H.size := ⟨_, rfl⟩
  refine mi_newi (n := 60) S9 E hS hA hW (1000 + 6) (List.mem_cons_of_mem _ mw_88) (by omega) (Nat.le_of_ble_eq_true rfl) (Nat.le_of_ble_eq_true rfl) dL_law_38 (fun H9 hW hS hz => ?_)
  rw [← hn6] at hW hz ⊢
  obtain ⟨H, rfl⟩ : ∃ z, z = H9 := ⟨_, rfl⟩
  have hN := lw_N_s (x := a6) (e := mi_ai D 60 (fun _ => 0)) hN (fun q => rfl) (fun q => absurd q (by decide))
  refine lv_astore (lv' := [(7, .ref a6), (6, .ref a5), (5, .ref a4), (4, .ref a3), (3, .ref a2), (2, .ref a1), (1, .ref s.heap.size), (0, .ref b)]) S9.1 S9.2.1 dL_law_40 hl (by decide) rfl (fun ls hl => ?_)
  refine lv_bipush (v := nI 16) S9.1 S9.2.1 dL_law_42 (by decide) ?_
  obtain ⟨a7, hn7⟩ : ∃ z, z = H.size := ⟨_, rfl⟩
  refine mi_newi (n := 16) S9 E hS hA hW (1000 + 7) (List.mem_cons_of_mem _ mw_88) (by omega) (Nat.le_of_ble_eq_true rfl) (Nat.le_of_ble_eq_true rfl) dL_law_44 (fun H9 hW hS hz => ?_)
  rw [← hn7] at hW hz ⊢
  obtain ⟨H, rfl⟩ : ∃ z, z = H9 := ⟨_, rfl⟩
  have hN := lw_N_s (x := a7) (e := mi_ai D 16 (fun _ => 0)) hN (fun q => rfl) (fun q => absurd q (by decide))
  refine lv_astore (lv' := [(8, .ref a7), (7, .ref a6), (6, .ref a5), (5, .ref a4), (4, .ref a3), (3, .ref a2), (2, .ref a1), (1, .ref s.heap.size), (0, .ref b)]) S9.1 S9.2.1 dL_law_46 hl (by decide) rfl (fun ls hl => ?_)
  refine lv_bipush (v := nI 16) S9.1 S9.2.1 dL_law_48 (by decide) ?_
  obtain ⟨a8, hn8⟩ : ∃ z, z = H.size := ⟨_, rfl⟩
  refine mi_newi (n := 16) S9 E hS hA hW (1000 + 8) (List.mem_cons_of_mem _ mw_88) (by omega) (Nat.le_of_ble_eq_true rfl) (Nat.le_of_ble_eq_true rfl) dL_law_50 (fun H9 hW hS hz => ?_)
  rw [← hn8] at hW hz ⊢
  obtain ⟨H, rfl⟩ : ∃ z, z = H9 := ⟨_, rfl⟩
  have hN := lw_N_s (x := a8) (e := mi_ai D 16 (fun _ => 0)) hN (fun q => rfl) (fun q => absurd q (by decide))
  refine lv_astore (lv' := [(9, .ref a8), (8, .ref a7), (7, .ref a6), (6, .ref a5), (5, .ref a4), (4, .ref a3), (3, .ref a2), (2, .ref a1), (1, .ref s.heap.size), (0, .ref b)]) S9.1 S9.2.1 dL_law_52 hl (by decide) rfl (fun ls hl => ?_)
  refine lv_iconst (v := nI 4) S9.1 S9.2.1 dL_law_54 (by decide) ?_
  obtain ⟨a9, hn9⟩ : ∃ z, z = H.size := ⟨_, rfl⟩
  refine mi_newi (n := 4) S9 E hS hA hW (1000 + 9) (List.mem_cons_of_mem _ mw_88) (by omega) (Nat.le_of_ble_eq_true rfl) (Nat.le_of_ble_eq_true rfl) dL_law_55 (fun H9 hW hS hz => ?_)
  rw [← hn9] at hW hz ⊢
  obtain ⟨H, rfl⟩ : ∃ z, z = H9 := ⟨_, rfl⟩
  have hN := lw_N_s (x := a9) (e := mi_ai D 4 (fun _ => 0)) hN (fun q => rfl) (fun q => absurd q (by decide))
  refine lv_astore (lv' := [(10, .ref a9), (9, .ref a8), (8, .ref a7), (7, .ref a6), (6, .ref a5), (5, .ref a4), (4, .ref a3), (3, .ref a2), (2, .ref a1), (1, .ref s.heap.size), (0, .ref b)]) S9.1 S9.2.1 dL_law_57 hl (by decide) rfl (fun ls hl => ?_)
  have hM : mj_W D (fun q => s.heap.size ≤ q) (fun k => if k = 0 then s.heap.size else (mi_un (mi_un (mi_un (mi_un (mi_un (mi_un (mi_un (mi_un (mi_un (fun _ => 0) 1 a1) 2 a2) 3 a3) 4 a4) 5 a5) 6 a6) 7 a7) 8 a8) 9 a9) k) st_0 lz_l lz_i H := ⟨st_ok_st0, _, _, hW, hX2.same st_ok_st0 (fun k hk => hN.1 k hk), ((hN.1 0 (by omega)).2).trans ha2, fun k h1 h2 => (hN.2 k h1 h2).1.trans (if_neg (by omega)).symm, fun k hk => (hN.2 k (by omega) (by omega)).2.1 hk, fun k hk => (hN.2 k (by omega) (by omega)).2.2 hk⟩
  exact law_body hst S9 hX9 hbl hL E hAu (fun a h => h) (fun h => Nat.not_le.mpr h) hb hr hlocks (q := fun k => if k = 0 then s.heap.size else (mi_un (mi_un (mi_un (mi_un (mi_un (mi_un (mi_un (mi_un (mi_un (fun _ => 0) 1 a1) 2 a2) 3 a3) 4 a4) 5 a5) 6 a6) 7 a7) 8 a8) 9 a9) k) (by omega) (by omega) hM hS (lv_sub hl [9, 8, 7, 6, 5, 4, 3, 2, 1, 0, 10] rfl)
