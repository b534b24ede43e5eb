/-! the law's small methods -/
theorem mj_up_id {α : Type} (f : Nat → α) (k : Nat) : va_up f k (f k) = f := by
  funext j
  by_cases h : j = k
  · subst h
    exact mi_up_s
  · exact mi_up_n h
theorem mw_c68 : (Jvm.Cond.constantLong "VoxelmintLaw" (68 : Nat) (65535 : Int64)) ∈ mi_G := mi_t2 94 rfl rfl
theorem mw_c70 : (Jvm.Cond.constantLong "VoxelmintLaw" (70 : Nat) (-1 : Int64)) ∈ mi_G := mi_t2 98 rfl rfl
theorem mw_c81 : (Jvm.Cond.constantLong "VoxelmintLaw" (81 : Nat) (15 : Int64)) ∈ mi_G := mi_t3 64 rfl rfl
theorem mw_c7 : (Jvm.Cond.constant "VoxelmintLaw" (7 : Nat) (1172031465 : Int32)) ∈ mi_G := mi_t1 166 rfl rfl
theorem lj_ush (x : Int32) : ∃ t, t < 2 ^ 31 ∧ (x.toUInt32 >>> ((nI 1).toUInt32 &&& Int32.toUInt32 31)).toInt32 = nI t := by
  have h1 : (x.toUInt32 >>> ((nI 1).toUInt32 &&& Int32.toUInt32 31)).toNat = x.toUInt32.toNat / 2 := by
    rw [UInt32.toNat_shiftRight, show ((nI 1).toUInt32 &&& Int32.toUInt32 31).toNat % 32 = 1 by decide +kernel, Nat.shiftRight_eq_div_pow]
  have h2 := x.toUInt32.toNat_lt
  refine ⟨x.toUInt32.toNat / 2, by omega, Int32.toBitVec_inj.mp (BitVec.eq_of_toNat_eq ?_)⟩
  show (x.toUInt32 >>> ((nI 1).toUInt32 &&& Int32.toUInt32 31)).toNat = (BitVec.ofNat 32 (x.toUInt32.toNat / 2)).toNat
  rw [h1, BitVec.toNat_ofNat, Nat.mod_eq_of_lt (by omega)]
abbrev mi_Rl (l : Launch) (y : MethodName) (w : Cond) (rm : Room) (D : va_G) (A : Nat → Prop) (P : Heap → Prop) (av : List Value) (post : Int64 → Prop) : Prop := Met l y (w :: mi_G) rm (mi_Pc D A P av) (vp_Sl post) 0 0 (fun _ => False)
section MJL
variable {p : Program} {l : Launch} {e : Env} {R : Room} {s : State} {m : MethodId} {args : Array Value} {below : List Frame} {meth : Method} {c : Code} {H : Heap} {locs : List Loc} {cells slots : Nat} {Q : State → Prop}
variable {cc : ByteArray} {pc nL : Nat} {ls : Array Slot} {rest st0 : List Value} {w0 : Cond} {own : String} {a : Array Value}
theorem mi_cL {post : Int64 → Prop} (hr : va_Run p l e R s m args below meth c H locs cells slots 0 0 (F0 m pc ls st0) rest (vp_Sl post a) (fun _ => False))
    (kk : ∀ r : Int64, post r → W p l e R s m args below meth c H locs cells slots Q (F0 m (pc + 3) ls (.long r :: rest))) : W p l e R s m args below meth c H locs cells slots Q (F0 m pc ls st0) := by
  intro T hT X
  obtain ⟨v, st₀, t, T', L, h0, X', hL, e1, e2, ⟨r, hv, hp, hb⟩, st⟩ := hr T hT X
  cases hv
  have hL0 : L = [] := by
    cases L with
    | nil => rfl
    | cons q L => exact absurd (hL q List.mem_cons_self) (fun h => h)
  subst hL0
  rw [List.append_nil] at X'
  obtain ⟨t2, a1, b1⟩ := kk r hp T' (by rw [e1, hb, h0]) X'
  exact ⟨t2, st t2 a1, b1⟩
end MJL
set_option maxHeartbeats 4000000 in
set_option maxRecDepth 100000 in
theorem c_Llow (l : Launch) (D : va_G) (A : Nat → Prop) (P : Heap → Prop) {x : Int32} {n : Nat} (hn0 : 0 < n) (hn : n < 2 ^ 31) : mi_Rd l yL_low (Cond.code yL_low cL_low 2 (some Jvm.ClassFile.FieldType.int)) (mi_rm 0) D A (P) [.int (x), .int (nI (n))] (fun r => ∃ t, t < n ∧ r = nI t) := by
  refine mi_start (cc := cL_low) (nL := 2) (ret := (some Jvm.ClassFile.FieldType.int)) rfl (by decide) (Nat.le_of_ble_eq_true rfl) ?_
  intro p e s m below meth c ls S E hW hS hr hk hn hl
  have S : CallFix p m c cL_low 2 s _ ((Cond.code yL_low cL_low 2 (some Jvm.ClassFile.FieldType.int)) :: mi_G) RL := S
  have hl : lv_has ls 2 [(0, .int (x)), (1, .int (nI (n)))] := hl
  refine lv_iload_n S.1 S.2.1 dL_low_0 rfl (lv_at hl 0 rfl) ?_
  refine lv_iconst (v := nI 1) S.1 S.2.1 dL_low_1 (by decide) ?_
  refine lv_iushr (v := ((x).toUInt32 >>> ((nI (1)).toUInt32 &&& Int32.toUInt32 31)).toInt32) S.1 S.2.1 dL_low_2 rfl ?_
  obtain ⟨t9, ht9, et9⟩ := lj_ush x
  refine mi_top (v' := .int (nI (t9))) (by rw [et9]) ?_
  refine lv_iload_n S.1 S.2.1 dL_low_3 rfl (lv_at hl 1 rfl) ?_
  refine mi_irem S (by omega) (by omega) (by omega) dL_low_4 ?_
  exact mi_retR S hr hk dL_low_5 (⟨t9 % n, Nat.mod_lt _ hn0, rfl⟩)
set_option maxHeartbeats 4000000 in
set_option maxRecDepth 100000 in
theorem c_Lcolumn (l : Launch) (D : va_G) (A : Nat → Prop) {q : Nat → Nat} {T : sT} {gl : Nat → Nat → Int64} {gi : Nat → Nat → Int32} {i c9 : Nat} (hi : i < 16) (hc : c9 < 16) : mi_Rd l yL_column (Cond.code yL_column cL_column 3 (some Jvm.ClassFile.FieldType.int)) (mi_rm 0) D A (mj_W D A q T gl gi) [.ref (q 1), .int (nI (i)), .int (nI (c9))] (fun r => r = lj_col (gl 1) i c9) := by
  refine mi_start (cc := cL_column) (nL := 3) (ret := (some Jvm.ClassFile.FieldType.int)) rfl (by decide) (Nat.le_of_ble_eq_true rfl) ?_
  intro p e s m below meth c ls S E hM hS hr hk hn hl
  have S : CallFix p m c cL_column 3 s _ ((Cond.code yL_column cL_column 3 (some Jvm.ClassFile.FieldType.int)) :: mi_G) RL := S
  have hl : lv_has ls 3 [(0, .ref (q 1)), (1, .int (nI (i))), (2, .int (nI (c9)))] := hl
  refine lv_aload_n S.1 S.2.1 dL_column_0 rfl (lv_at hl 0 rfl) ?_
  refine lv_iconst (v := nI 4) S.1 S.2.1 dL_column_1 (by decide) ?_
  refine lv_iload_n S.1 S.2.1 dL_column_2 rfl (lv_at hl 1 rfl) ?_
  refine mi_imul S dL_column_3 ?_
  refine lv_iload_n S.1 S.2.1 dL_column_4 rfl (lv_at hl 2 rfl) ?_
  refine lv_iconst (v := nI 4) S.1 S.2.1 dL_column_5 (by decide) ?_
  refine mi_idiv S (by omega) (by omega) (by omega) dL_column_6 ?_
  refine mi_iadd S dL_column_7 ?_
  refine mj_lld S E hM 1 (by omega) (by show _ < 64; omega) dL_column_8 ?_
  refine lv_bipush (v := nI 16) S.1 S.2.1 dL_column_9 (by decide) ?_
  refine lv_iload_n S.1 S.2.1 dL_column_11 rfl (lv_at hl 2 rfl) ?_
  refine lv_iconst (v := nI 4) S.1 S.2.1 dL_column_12 (by decide) ?_
  refine mi_irem S (by omega) (by omega) (by omega) dL_column_13 ?_
  refine mi_imul S dL_column_14 ?_
  refine lv_lshr S.1 S.2.1 dL_column_15 rfl ?_
  refine lv_ldc2 (v := 65535) S.1 S.2.1 S.2.2.2.1 (S.2.2.2.2 _ (List.mem_cons_of_mem _ mw_c68)) dL_column_16 ?_
  refine lv_land S.1 S.2.1 dL_column_19 ?_
  refine lv_l2i (v := (((gl 1 ((4 * i) + (c9 / 4))) >>> ((nI (16 * (c9 % 4))).toInt64 &&& 63)) &&& 65535).toInt32) S.1 S.2.1 dL_column_20 rfl ?_
  exact mi_retR S hr hk dL_column_21 (rfl)
set_option maxHeartbeats 4000000 in
set_option maxRecDepth 100000 in
theorem c_Llay (l : Launch) (D : va_G) (A : Nat → Prop) {q : Nat → Nat} {T : sT} {gl : Nat → Nat → Int64} {gi : Nat → Nat → Int32} {i c9 : Nat} {x : Int32} (hi : i < 16) (hc : c9 < 16) : mi_Mv l yL_lay (Cond.code yL_lay cL_lay 6 none) (mi_rm 0) D A (mj_W D A q T gl gi) [.ref (q 1), .int (nI (i)), .int (nI (c9)), .int (x)] 0 0 (fun H => mj_W D A q T (va_up gl 1 (lj_lay (gl 1) i c9 x)) gi H) := by
  refine mi_start (cc := cL_lay) (nL := 6) (ret := none) rfl (by decide) (Nat.le_of_ble_eq_true rfl) ?_
  intro p e s m below meth c ls S E hM hS hr hk hn hl
  have S : CallFix p m c cL_lay 6 s _ ((Cond.code yL_lay cL_lay 6 none) :: mi_G) RL := S
  have hl : lv_has ls 6 [(0, .ref (q 1)), (1, .int (nI (i))), (2, .int (nI (c9))), (3, .int (x))] := hl
  refine lv_iconst (v := nI 4) S.1 S.2.1 dL_lay_0 (by decide) ?_
  refine lv_iload_n S.1 S.2.1 dL_lay_1 rfl (lv_at hl 1 rfl) ?_
  refine mi_imul S dL_lay_2 ?_
  refine lv_iload_n S.1 S.2.1 dL_lay_3 rfl (lv_at hl 2 rfl) ?_
  refine lv_iconst (v := nI 4) S.1 S.2.1 dL_lay_4 (by decide) ?_
  refine mi_idiv S (by omega) (by omega) (by omega) dL_lay_5 ?_
  refine mi_iadd S dL_lay_6 ?_
  refine lv_istore (lv' := [(4, .int (nI ((4 * i) + (c9 / 4)))), (0, .ref (q 1)), (1, .int (nI (i))), (2, .int (nI (c9))), (3, .int (x))]) S.1 S.2.1 dL_lay_7 hl (by decide) rfl (fun ls hl => ?_)
  refine lv_bipush (v := nI 16) S.1 S.2.1 dL_lay_9 (by decide) ?_
  refine lv_iload_n S.1 S.2.1 dL_lay_11 rfl (lv_at hl 3 rfl) ?_
  refine lv_iconst (v := nI 4) S.1 S.2.1 dL_lay_12 (by decide) ?_
  refine mi_irem S (by omega) (by omega) (by omega) dL_lay_13 ?_
  refine mi_imul S dL_lay_14 ?_
  refine lv_istore (lv' := [(5, .int (nI (16 * (c9 % 4)))), (4, .int (nI ((4 * i) + (c9 / 4)))), (0, .ref (q 1)), (1, .int (nI (i))), (2, .int (nI (c9))), (3, .int (x))]) S.1 S.2.1 dL_lay_15 hl (by decide) rfl (fun ls hl => ?_)
  refine lv_aload_n S.1 S.2.1 dL_lay_17 rfl (lv_at hl 2 rfl) ?_
  refine lv_iload S.1 S.2.1 dL_lay_18 (lv_at hl 1 rfl) ?_
  refine lv_aload_n S.1 S.2.1 dL_lay_20 rfl (lv_at hl 2 rfl) ?_
  refine lv_iload S.1 S.2.1 dL_lay_21 (lv_at hl 1 rfl) ?_
  refine mj_lld S E hM 1 (by omega) (by show _ < 64; omega) dL_lay_23 ?_
  refine lv_ldc2 (v := 65535) S.1 S.2.1 S.2.2.2.1 (S.2.2.2.2 _ (List.mem_cons_of_mem _ mw_c68)) dL_lay_24 ?_
  refine lv_iload S.1 S.2.1 dL_lay_27 (lv_at hl 0 rfl) ?_
  refine lv_lshl S.1 S.2.1 dL_lay_29 rfl ?_
  refine lv_ldc2 (v := (-1)) S.1 S.2.1 S.2.2.2.1 (S.2.2.2.2 _ (List.mem_cons_of_mem _ mw_c70)) dL_lay_30 ?_
  refine lv_lxor S.1 S.2.1 dL_lay_33 ?_
  refine lv_land S.1 S.2.1 dL_lay_34 ?_
  refine lv_iload_n S.1 S.2.1 dL_lay_35 rfl (lv_at hl 5 rfl) ?_
  refine lv_i2l (v := (x).toInt64) S.1 S.2.1 dL_lay_36 rfl ?_
  refine lv_iload S.1 S.2.1 dL_lay_37 (lv_at hl 0 rfl) ?_
  refine lv_lshl S.1 S.2.1 dL_lay_39 rfl ?_
  refine lv_lor S.1 S.2.1 dL_lay_40 ?_
  refine mj_lst S E hS hM 1 (by omega) (by show _ < 64; omega) dL_lay_41 (fun H locs hM hS => ?_)
  exact mi_retMv S hr hk hS dL_lay_42 (Nat.le_refl _) (Nat.le_refl _) hM
set_option maxHeartbeats 4000000 in
set_option maxRecDepth 100000 in
theorem c_Lat (l : Launch) (D : va_G) (A : Nat → Prop) (P : Heap → Prop) {x : Int64} {c9 : Nat} (hc : c9 < 16) : mi_Rd l yL_at (Cond.code yL_at cL_at 3 (some Jvm.ClassFile.FieldType.int)) (mi_rm 0) D A (P) [.long (x), .int (nI (c9))] (fun r => r = lj_at x c9) := by
  refine mi_start (cc := cL_at) (nL := 3) (ret := (some Jvm.ClassFile.FieldType.int)) rfl (by decide) (Nat.le_of_ble_eq_true rfl) ?_
  intro p e s m below meth c ls S E hW hS hr hk hn hl
  have S : CallFix p m c cL_at 3 s _ ((Cond.code yL_at cL_at 3 (some Jvm.ClassFile.FieldType.int)) :: mi_G) RL := S
  have hl : lv_has ls 3 [(0, .long (x)), (2, .int (nI (c9)))] := hl
  refine lv_lload_n S.1 S.2.1 dL_at_0 rfl (lv_at hl 0 rfl) ?_
  refine lv_iconst (v := nI 4) S.1 S.2.1 dL_at_1 (by decide) ?_
  refine lv_iload_n S.1 S.2.1 dL_at_2 rfl (lv_at hl 1 rfl) ?_
  refine mi_imul S dL_at_3 ?_
  refine lv_lshr S.1 S.2.1 dL_at_4 rfl ?_
  refine lv_ldc2 (v := 15) S.1 S.2.1 S.2.2.2.1 (S.2.2.2.2 _ (List.mem_cons_of_mem _ mw_c81)) dL_at_5 ?_
  refine lv_land S.1 S.2.1 dL_at_8 ?_
  refine lv_l2i (v := ((x >>> ((nI (4 * c9)).toInt64 &&& 63)) &&& 15).toInt32) S.1 S.2.1 dL_at_9 rfl ?_
  exact mi_retR S hr hk dL_at_10 (rfl)
set_option maxHeartbeats 4000000 in
set_option maxRecDepth 100000 in
theorem c_Lgrow (l : Launch) (D : va_G) (A : Nat → Prop) {q : Nat → Nat} {T : sT} {gl : Nat → Nat → Int64} {gi : Nat → Nat → Int32} (hO : st_ok T) (h0 : gi 9 0 = nI (sW T)) (h1 : gi 9 1 = nI (sN T)) (h16 : sN T < 16) : mi_Mv l yL_grow (Cond.code yL_grow cL_grow 4 none) (mi_rm 0) D A (mj_W D A q T gl gi) [.ref (q 1), .ref (q 2), .ref (q 9)] 0 0 (fun H => mj_W D A q T (va_up gl 1 (lj_gr (gl 1) (sN T) (sW T) 4)) (va_up (va_up gi 2 (upd (gi 2) (sN T) (nI (sW T)))) 9 (upd (upd (gi 9) 0 (nI (sN T))) 1 (nI (sN T + 1)))) H) := by
  refine mi_start (cc := cL_grow) (nL := 4) (ret := none) rfl (by decide) (Nat.le_of_ble_eq_true rfl) ?_
  intro p e s m below meth c ls S E hM hS hr hk hn hl
  have S : CallFix p m c cL_grow 4 s _ ((Cond.code yL_grow cL_grow 4 none) :: mi_G) RL := S
  have hl : lv_has ls 4 [(0, .ref (q 1)), (1, .ref (q 2)), (2, .ref (q 9))] := hl
  refine lv_iconst (v := nI 0) S.1 S.2.1 dL_grow_0 (by decide) ?_
  refine lv_istore_n (lv' := [(3, .int (nI (0))), (0, .ref (q 1)), (1, .ref (q 2)), (2, .ref (q 9))]) S.1 S.2.1 dL_grow_1 rfl hl (by decide) rfl (fun ls hl => ?_)
  have lp2 : ∀ (n2 : Nat) (j : Nat) (H : Heap) (locs : List Loc) (ls : Array Slot), 4 - j < n2 → j ≤ 4 → mj_W D A q T (va_up gl 1 (lj_gr (gl 1) (sN T) (sW T) j)) gi H → va_S A s.heap H locs → lv_has ls 4 [(3, .int (nI (j))), (0, .ref (q 1)), (1, .ref (q 2)), (2, .ref (q 9))] → W p l e (mi_rm 0) s m ([.ref (q 1), .ref (q 2), .ref (q 9)] : List Value).toArray below meth c H locs 0 0 (MQ below (mi_Qv A (fun H => mj_W D A q T (va_up gl 1 (lj_gr (gl 1) (sN T) (sW T) 4)) (va_up (va_up gi 2 (upd (gi 2) (sN T) (nI (sW T)))) 9 (upd (upd (gi 9) 0 (nI (sN T))) 1 (nI (sN T + 1)))) H)) ([.ref (q 1), .ref (q 2), .ref (q 9)] : List Value).toArray s 0 0 A) (F0 m 2 ls []) := by
    intro n2
    induction n2 with
    | zero => intro j H locs ls hm hj hM hS hl; exact absurd hm (Nat.not_lt_zero _)
    | succ n2 ih2 =>
      intro j H locs ls hm hj hM hS hl
      have o3 := hO.1.2.2.1
      refine lv_iload_n S.1 S.2.1 dL_grow_2 rfl (lv_at hl 0 rfl) ?_
      refine lv_iconst (v := nI 4) S.1 S.2.1 dL_grow_3 (by decide) ?_
      refine mi_icmp_ge (tgt := 31) S (by omega) (by omega) dL_grow_4 (by decide) (fun c4_0 => ?_) (fun c4_0 => ?_)
      · refine lv_aload_n S.1 S.2.1 dL_grow_31 rfl (lv_at hl 2 rfl) ?_
        refine lv_aload_n S.1 S.2.1 dL_grow_32 rfl (lv_at hl 3 rfl) ?_
        refine lv_iconst (v := nI 1) S.1 S.2.1 dL_grow_33 (by decide) ?_
        refine mj_ild S E hM 9 (by omega) (by show _ < 4; omega) dL_grow_34 ?_
        refine mi_top (v' := .int (nI (sN T))) (congrArg Value.int h1) ?_
        refine lv_aload_n S.1 S.2.1 dL_grow_35 rfl (lv_at hl 3 rfl) ?_
        refine lv_iconst (v := nI 0) S.1 S.2.1 dL_grow_36 (by decide) ?_
        refine mj_ild S E hM 9 (by omega) (by show _ < 4; omega) dL_grow_37 ?_
        refine mi_top (v' := .int (nI (sW T))) (congrArg Value.int h0) ?_
        refine mj_ist S E hS hM 2 (by omega) (by show _ < 16; omega) dL_grow_38 (fun H locs hM hS => ?_)
        refine lv_aload_n S.1 S.2.1 dL_grow_39 rfl (lv_at hl 3 rfl) ?_
        refine lv_iconst (v := nI 0) S.1 S.2.1 dL_grow_40 (by decide) ?_
        refine lv_aload_n S.1 S.2.1 dL_grow_41 rfl (lv_at hl 3 rfl) ?_
        refine lv_iconst (v := nI 1) S.1 S.2.1 dL_grow_42 (by decide) ?_
        refine mj_ild S E hM 9 (by omega) (by show _ < 4; omega) dL_grow_43 ?_
        refine mi_top (v' := .int (nI (sN T))) (congrArg Value.int h1) ?_
        refine mj_ist S E hS hM 9 (by omega) (by show _ < 4; omega) dL_grow_44 (fun H locs hM hS => ?_)
        refine lv_aload_n S.1 S.2.1 dL_grow_45 rfl (lv_at hl 3 rfl) ?_
        refine lv_iconst (v := nI 1) S.1 S.2.1 dL_grow_46 (by decide) ?_
        refine lv_dup2_11 S.1 S.2.1 dL_grow_47 rfl rfl ?_
        refine mj_ild S E hM 9 (by omega) (by show _ < 4; omega) dL_grow_48 ?_
        refine mi_top (v' := .int (nI (sN T))) (congrArg Value.int h1) ?_
        refine lv_iconst (v := nI 1) S.1 S.2.1 dL_grow_49 (by decide) ?_
        refine mi_iadd S dL_grow_50 ?_
        refine mj_ist S E hS hM 9 (by omega) (by show _ < 4; omega) dL_grow_51 (fun H locs hM hS => ?_)
        refine mi_retMv S hr hk hS dL_grow_52 (Nat.le_refl _) (Nat.le_refl _) ?_
        rw [show j = 4 by omega, mi_up_up, mi_up_s] at hM
        exact hM
      · refine lv_aload_n S.1 S.2.1 dL_grow_7 rfl (lv_at hl 1 rfl) ?_
        refine lv_iconst (v := nI 4) S.1 S.2.1 dL_grow_8 (by decide) ?_
        refine lv_aload_n S.1 S.2.1 dL_grow_9 rfl (lv_at hl 3 rfl) ?_
        refine lv_iconst (v := nI 1) S.1 S.2.1 dL_grow_10 (by decide) ?_
        refine mj_ild S E hM 9 (by omega) (by show _ < 4; omega) dL_grow_11 ?_
        refine mi_top (v' := .int (nI (sN T))) (congrArg Value.int h1) ?_
        refine mi_imul S dL_grow_12 ?_
        refine lv_iload_n S.1 S.2.1 dL_grow_13 rfl (lv_at hl 0 rfl) ?_
        refine mi_iadd S dL_grow_14 ?_
        refine lv_aload_n S.1 S.2.1 dL_grow_15 rfl (lv_at hl 1 rfl) ?_
        refine lv_iconst (v := nI 4) S.1 S.2.1 dL_grow_16 (by decide) ?_
        refine lv_aload_n S.1 S.2.1 dL_grow_17 rfl (lv_at hl 3 rfl) ?_
        refine lv_iconst (v := nI 0) S.1 S.2.1 dL_grow_18 (by decide) ?_
        refine mj_ild S E hM 9 (by omega) (by show _ < 4; omega) dL_grow_19 ?_
        refine mi_top (v' := .int (nI (sW T))) (congrArg Value.int h0) ?_
        refine mi_imul S dL_grow_20 ?_
        refine lv_iload_n S.1 S.2.1 dL_grow_21 rfl (lv_at hl 0 rfl) ?_
        refine mi_iadd S dL_grow_22 ?_
        refine mj_lld S E hM 1 (by omega) (by show _ < 64; omega) dL_grow_23 ?_
        refine mj_lst S E hS hM 1 (by omega) (by show _ < 64; omega) dL_grow_24 (fun H locs hM hS => ?_)
        rw [mi_up_up, mi_up_s, lj_gr_s hO.1.2.2.1 (by omega)] at hM
        refine lv_iinc (v := nI (j + 1)) (lv' := [(3, .int (nI (j + 1))), (0, .ref (q 1)), (1, .ref (q 2)), (2, .ref (q 9))]) S.1 S.2.1 dL_grow_25 hl (k := 0) rfl (mi_inc _) (by decide) rfl (fun ls hl => ?_)
        refine lv_goto (tgt := 2) S.1 S.2.1 dL_grow_28 (by decide) ?_
        exact ih2 (j + 1) _ _ _ (by omega) (by omega) hM hS (lv_sub hl [0, 1, 2, 3] rfl)
  exact lp2 _ 0 _ _ _ (Nat.lt_succ_self _) (by omega) (by rw [lj_gr_0, mj_up_id]; exact hM) hS (lv_sub hl [0, 1, 2, 3] rfl)
