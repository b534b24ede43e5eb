/-! ArrayList grows and takes an element -/
theorem mi_cpy_new (f : Nat → Option Nat) (n : Nat) : va_cpy f (fun _ => none) 0 0 n = (fun i => if i < n then f i else none) := by
  funext k
  unfold va_cpy
  by_cases h : k < n
  · rw [if_pos (by omega), if_pos h, Nat.zero_add, Nat.sub_zero]
  · rw [if_neg (by omega), if_neg h]
set_option maxHeartbeats 4000000 in
set_option maxRecDepth 100000 in
theorem c_copyOf3 (l : Launch) (D : va_G) (A : Nat → Prop)  (hAu : ∀ a b, A a → a ≤ b → A b){ad : Nat → Nat} {cf : Nat → Option va_E} {q a n nk : Nat} {f : Nat → Option Nat} (ha0 : ad q = a) (hq0 : cf q = some (mi_aq D n f)) (hel : mi_els ad cf n f) (hnm : n ≤ nk) (hm9 : nk ≤ 1000) (hq9 : q ≠ 999) (hf9 : cf 999 = none) : mi_Mr l yJ7_copyOf_6403c (Cond.code yJ7_copyOf_6403c cJ7_copyOf_6403c 4 (some (Jvm.ClassFile.FieldType.array (Jvm.ClassFile.FieldType.object "java/lang/Object")))) (mi_rq 1 1 1000) D A (mi_W D A ad cf) [.ref (a), .int (nI (nk)), .ref (mi_mi D)] 1 1000 (fun r H => mi_W D A (va_up ad 999 r) (va_up cf 999 (some (mi_aq D nk (fun i => if i < n then f i else none)))) H) := by
  refine mi_start (cc := cJ7_copyOf_6403c) (nL := 4) (ret := (some (Jvm.ClassFile.FieldType.array (Jvm.ClassFile.FieldType.object "java/lang/Object")))) rfl (by decide) (Nat.le_of_ble_eq_true rfl) ?_
  intro p e s m below meth c ls S E hW hS hr hk hn hl
  have S : CallFix p m c cJ7_copyOf_6403c 4 s _ ((Cond.code yJ7_copyOf_6403c cJ7_copyOf_6403c 4 (some (Jvm.ClassFile.FieldType.array (Jvm.ClassFile.FieldType.object "java/lang/Object")))) :: mi_G) RJ7 := S
  have hl : lv_has ls 4 [(0, .ref (a)), (1, .int (nI (nk))), (2, .ref (mi_mi D))] := hl
  have hA : ∀ q, s.heap.size ≤ q → A q := hW.up hAu hq0
  refine lv_aload_n S.1 S.2.1 dJ7_copyOf_6403c_0 rfl (lv_at hl 2 rfl) ?_
  refine mi_ldcM S E (List.mem_cons_of_mem _ mw_170) dJ7_copyOf_6403c_1 ?_
  refine mi_acmp_ne (tgt := 13) S dJ7_copyOf_6403c_3 (by decide) (fun c3_0 => by exfalso; exact absurd rfl c3_0) (fun c3_0 => ?_)
  refine lv_iload_n S.1 S.2.1 dJ7_copyOf_6403c_6 rfl (lv_at hl 1 rfl) ?_
  obtain ⟨a2, hn2⟩ : ∃ z, z = s.heap.size := ⟨_, rfl⟩
  refine mi_newq S E hS hA hW 999 (List.mem_cons_of_mem _ mw_172) (by omega) (by show _ ≤ (1 : Nat); omega) (by show _ ≤ (1000 : Nat); omega) dJ7_copyOf_6403c_7 (fun H9 hW hS hz => ?_)
  rw [← hn2] at hW hz ⊢
  obtain ⟨H, rfl⟩ : ∃ z, z = H9 := ⟨_, rfl⟩
  obtain ⟨ad2, had2⟩ : ∃ z, z = va_up ad 999 a2 := ⟨_, rfl⟩
  obtain ⟨cf2, hcf2⟩ : ∃ z, z = va_up cf 999 (some (mi_aq D nk (fun _ => none))) := ⟨_, rfl⟩
  have hW : mi_W D A ad2 cf2 H := by rw [had2, hcf2]; exact hW
  have he2_0 : cf2 q = some (mi_aq D n (f)) := by rw [hcf2]; exact (mi_up_n hq9).trans hq0
  have ha2_0 : ad2 q = a := by rw [had2]; exact (mi_up_n hq9).trans ha0
  have he2_r : cf2 999 = some (mi_aq D nk (fun _ => none)) := by rw [hcf2]; exact mi_up_s
  have ha2_r : ad2 999 = a2 := by rw [had2]; exact mi_up_s
  refine lv_goto (tgt := 24) S.1 S.2.1 dJ7_copyOf_6403c_10 (by decide) ?_
  refine lv_astore_n (lv' := [(3, .ref (a2)), (0, .ref (a)), (1, .int (nI (nk))), (2, .ref (mi_mi D))]) S.1 S.2.1 dJ7_copyOf_6403c_24 rfl hl (by decide) rfl (fun ls hl => ?_)
  refine lv_aload_n S.1 S.2.1 dJ7_copyOf_6403c_25 rfl (lv_at hl 1 rfl) ?_
  refine lv_iconst (v := nI 0) S.1 S.2.1 dJ7_copyOf_6403c_26 (by decide) ?_
  refine lv_aload_n S.1 S.2.1 dJ7_copyOf_6403c_27 rfl (lv_at hl 0 rfl) ?_
  refine lv_iconst (v := nI 0) S.1 S.2.1 dJ7_copyOf_6403c_28 (by decide) ?_
  refine lv_aload_n S.1 S.2.1 dJ7_copyOf_6403c_29 rfl (lv_at hl 1 rfl) ?_
  refine mi_alen S E hW q 1 ha2_0 he2_0 rfl dJ7_copyOf_6403c_30 ?_
  refine mi_top (v' := .int (nI (n))) rfl ?_
  refine lv_iload_n S.1 S.2.1 dJ7_copyOf_6403c_31 rfl (lv_at hl 2 rfl) ?_
  refine mi_mmin S (by omega) (by omega) (List.mem_cons_of_mem _ mw_173) (List.mem_cons_of_mem _ mw_174) (List.mem_cons_of_mem _ mw_40) (List.mem_cons_of_mem _ mk_min) hl.1 (Nat.le_of_ble_eq_true rfl) (Nat.le_of_ble_eq_true rfl) (by show _ ≤ (1 : Nat); omega) (by show _ ≤ (1000 : Nat); omega) dJ7_copyOf_6403c_32 ?_
  refine mi_top (v' := .int (nI (n))) (by rw [if_neg (by omega)]) ?_
  have hel2 : mi_els ad2 cf2 n f := fun i hi y hy => by
    obtain ⟨ro, ci, fs, q9, e1, e2, e3, e4⟩ := hel i hi y hy
    have hro : ro ≠ 999 := fun z => by rw [z, hf9] at e2; cases e2
    exact ⟨ro, ci, fs, q9, by rw [had2, mi_up_n hro]; exact e1, by rw [hcf2, mi_up_n hro]; exact e2, e3, e4⟩
  refine mi_copy S E hS hW q 999 ha2_0 ha2_r hq9 he2_0 he2_r (Nat.le_refl _) hnm (by omega) (by omega) hel2 hl.1 (List.mem_cons_of_mem _ mw_176) (List.mem_cons_of_mem _ mw_178) (List.mem_cons_of_mem _ mw_177) (List.mem_cons_of_mem _ mw_42) (Nat.le_of_ble_eq_true rfl) (by decide +kernel) dJ7_copyOf_6403c_35 (fun H locs hW hS hz => ?_)
  obtain ⟨cf3, hcf3⟩ : ∃ z, z = va_up cf2 999 (some (mi_aq D nk (fun i => if i < n then f i else none))) := ⟨_, rfl⟩
  have hW : mi_W D A ad2 cf3 H := by rw [hcf3]; rw [mi_cpy_new] at hW; exact hW
  have he3_0 : cf3 q = some (mi_aq D n (f)) := by rw [hcf3]; exact (mi_up_n hq9).trans he2_0
  have he3_r : cf3 999 = some (mi_aq D nk (fun i => if i < n then f i else none)) := by rw [hcf3]; exact mi_up_s
  refine lv_aload_n S.1 S.2.1 dJ7_copyOf_6403c_38 rfl (lv_at hl 0 rfl) ?_
  exact mi_retMr S hr (Or.inr ⟨_, rfl⟩) hk hS dJ7_copyOf_6403c_39 (by show _ ≤ (1 : Nat); omega) (by show _ ≤ (1000 : Nat); omega) (by rw [had2, hcf3, hcf2, mi_up_up] at hW; exact hW)
set_option maxHeartbeats 4000000 in
set_option maxRecDepth 100000 in
theorem c_copyOf2 (l : Launch) (D : va_G) (A : Nat → Prop)  (hAu : ∀ a b, A a → a ≤ b → A b){ad : Nat → Nat} {cf : Nat → Option va_E} {q a n nk : Nat} {f : Nat → Option Nat} (ha0 : ad q = a) (hq0 : cf q = some (mi_aq D n f)) (hel : mi_els ad cf n f) (hnm : n ≤ nk) (hm9 : nk ≤ 1000) (hq9 : q ≠ 999) (hf9 : cf 999 = none) : mi_Mr l yJ7_copyOf_1904c (Cond.code yJ7_copyOf_1904c cJ7_copyOf_1904c 2 (some (Jvm.ClassFile.FieldType.array (Jvm.ClassFile.FieldType.object "java/lang/Object")))) (mi_rq 2 1 1000) D A (mi_W D A ad cf) [.ref (a), .int (nI (nk))] 1 1000 (fun r H => mi_W D A (va_up ad 999 r) (va_up cf 999 (some (mi_aq D nk (fun i => if i < n then f i else none)))) H) := by
  refine mi_start (cc := cJ7_copyOf_1904c) (nL := 2) (ret := (some (Jvm.ClassFile.FieldType.array (Jvm.ClassFile.FieldType.object "java/lang/Object")))) rfl (by decide) (Nat.le_of_ble_eq_true rfl) ?_
  intro p e s m below meth c ls S E hW hS hr hk hn hl
  have S : CallFix p m c cJ7_copyOf_1904c 2 s _ ((Cond.code yJ7_copyOf_1904c cJ7_copyOf_1904c 2 (some (Jvm.ClassFile.FieldType.array (Jvm.ClassFile.FieldType.object "java/lang/Object")))) :: mi_G) RJ7 := S
  have hl : lv_has ls 2 [(0, .ref (a)), (1, .int (nI (nk)))] := hl
  refine lv_aload_n S.1 S.2.1 dJ7_copyOf_1904c_0 rfl (lv_at hl 0 rfl) ?_
  refine lv_iload_n S.1 S.2.1 dJ7_copyOf_1904c_1 rfl (lv_at hl 1 rfl) ?_
  refine lv_aload_n S.1 S.2.1 dJ7_copyOf_1904c_2 rfl (lv_at hl 0 rfl) ?_
  refine mi_getC S E hW q ha0 hq0 hl.1 (List.mem_cons_of_mem _ mw_153) (List.mem_cons_of_mem _ mw_914) (List.mem_cons_of_mem _ mw_154) (List.mem_cons_of_mem _ mw_166) (Nat.le_of_ble_eq_true rfl) (Nat.le_of_ble_eq_true rfl) dJ7_copyOf_1904c_3 ?_
  refine mi_cMr (mi_runS (P := mi_W D A ad cf) (As := [.ref (a), .int (nI (nk)), .ref (mi_mi D)]) (rest := []) S E hS hW (c_copyOf3 l D A hAu ha0 hq0 hel hnm hm9 hq9 hf9) mw_169 mw_167 mw_168 mw_41 ⟨by decide, by decide, by decide +kernel⟩ ⟨rfl, rfl, Nat.le_of_ble_eq_true rfl, Nat.le_of_ble_eq_true rfl⟩ (n := 3) rfl hl.1 rfl (Nat.le_of_ble_eq_true rfl) dJ7_copyOf_1904c_6 ⟨(by show _ ≤ (1 : Nat); omega), (by show _ ≤ (1000 : Nat); omega)⟩) hS (fun r9 H locs hW hS hz => ?_)
  obtain ⟨a1, rfl⟩ : ∃ z, z = r9 := ⟨_, rfl⟩
  obtain ⟨ad1, had1⟩ : ∃ z, z = va_up ad 999 a1 := ⟨_, rfl⟩
  obtain ⟨cf1, hcf1⟩ : ∃ z, z = va_up cf 999 (some (mi_aq D nk (fun i => if i < n then f i else none))) := ⟨_, rfl⟩
  have hW : mi_W D A ad1 cf1 H := by rw [had1, hcf1]; exact hW
  have he1_0 : cf1 q = some (mi_aq D n (f)) := by rw [hcf1]; exact (mi_up_n hq9).trans hq0
  have ha1_0 : ad1 q = a := by rw [had1]; exact (mi_up_n hq9).trans ha0
  have he1_r : cf1 999 = some (mi_aq D nk (fun i => if i < n then f i else none)) := by rw [hcf1]; exact mi_up_s
  have ha1_r : ad1 999 = a1 := by rw [had1]; exact mi_up_s
  exact mi_retMr S hr (Or.inr ⟨_, rfl⟩) hk hS dJ7_copyOf_1904c_9 (by show _ ≤ (1 : Nat); omega) (by show _ ≤ (1000 : Nat); omega) (by rw [had1, hcf1] at hW; exact hW)
set_option maxHeartbeats 4000000 in
set_option maxRecDepth 100000 in
theorem c_grow1 (l : Launch) (D : va_G) (A : Nat → Prop)  (hAu : ∀ a b, A a → a ≤ b → A b){ad : Nat → Nat} {cf : Nat → Option va_E} {r q a b n : Nat} {mcn : Int32} {f : Nat → Option Nat} (hra : ad r = b) (ha0 : ad q = a) (hr0 : cf r = some (.inr (0, [.int mcn, .ref a, .int (nI n)]))) (hq0 : cf q = some (mi_aq D n f)) (hel : mi_els ad cf n f) (h10 : 10 ≤ n) (h60 : n ≤ 60) (hr9 : r ≠ 999) (hq9 : q ≠ 999) (hrq : r ≠ q) (hf9 : cf 999 = none) : mi_Mr l yJx4a65c_grow_92f84 (Cond.code yJx4a65c_grow_92f84 cJx4a65c_grow_92f84 4 (some (Jvm.ClassFile.FieldType.array (Jvm.ClassFile.FieldType.object "java/lang/Object")))) (mi_rq 3 1 1000) D A (mi_W D A ad cf) [.ref (b), .int (nI (n + 1))] 1 1000 (fun z H => mi_W D A (va_up ad q z) (va_up (va_up cf q (some (mi_aq D (n + n / 2) (fun i => if i < n then f i else none)))) r (some (.inr (0, [.int mcn, .ref z, .int (nI n)])))) H) := by
  refine mi_start (cc := cJx4a65c_grow_92f84) (nL := 4) (ret := (some (Jvm.ClassFile.FieldType.array (Jvm.ClassFile.FieldType.object "java/lang/Object")))) rfl (by decide) (Nat.le_of_ble_eq_true rfl) ?_
  intro p e s m below meth c ls S E hW hS hr hk hn hl
  have S : CallFix p m c cJx4a65c_grow_92f84 4 s _ ((Cond.code yJx4a65c_grow_92f84 cJx4a65c_grow_92f84 4 (some (Jvm.ClassFile.FieldType.array (Jvm.ClassFile.FieldType.object "java/lang/Object")))) :: mi_G) RJx4a65c := S
  have hl : lv_has ls 4 [(0, .ref (b)), (1, .int (nI (n + 1)))] := hl
  refine lv_aload_n S.1 S.2.1 dJx4a65c_grow_92f84_0 rfl (lv_at hl 0 rfl) ?_
  refine fg_Jx4a65c_9 S E hW r hra hr0 rfl dJx4a65c_grow_92f84_1 ?_
  refine mi_alen S E hW q 1 ha0 hq0 rfl dJx4a65c_grow_92f84_4 ?_
  refine mi_top (v' := .int (nI (n))) rfl ?_
  refine lv_istore_n (lv' := [(2, .int (nI (n))), (0, .ref (b)), (1, .int (nI (n + 1)))]) S.1 S.2.1 dJx4a65c_grow_92f84_5 rfl hl (by decide) rfl (fun ls hl => ?_)
  refine lv_iload_n S.1 S.2.1 dJx4a65c_grow_92f84_6 rfl (lv_at hl 0 rfl) ?_
  refine mi_if_gt (tgt := 20) S (by omega) dJx4a65c_grow_92f84_7 (by decide) (fun c7_0 => ?_) (fun c7_0 => by exfalso; omega)
  refine lv_iload_n S.1 S.2.1 dJx4a65c_grow_92f84_20 rfl (lv_at hl 0 rfl) ?_
  refine lv_iload_n S.1 S.2.1 dJx4a65c_grow_92f84_21 rfl (lv_at hl 2 rfl) ?_
  refine lv_iload_n S.1 S.2.1 dJx4a65c_grow_92f84_22 rfl (lv_at hl 0 rfl) ?_
  refine mi_isub S (by omega) dJx4a65c_grow_92f84_23 ?_
  refine mi_top (v' := .int (nI (1))) (by rw [show n + 1 - n = 1 by omega]) ?_
  refine lv_iload_n S.1 S.2.1 dJx4a65c_grow_92f84_24 rfl (lv_at hl 0 rfl) ?_
  refine lv_iconst (v := nI 1) S.1 S.2.1 dJx4a65c_grow_92f84_25 (by decide) ?_
  refine lv_ishr S.1 S.2.1 dJx4a65c_grow_92f84_26 ?_
  refine mi_top (v' := .int (nI (n / 2))) (by rw [pk_shrN (by omega) (nI 1 &&& 31) 1 (by decide)]) ?_
  refine mi_cR (mi_runS (P := mi_W D A ad cf) (As := [.int (nI (n)), .int (nI (1)), .int (nI (n / 2))]) (rest := []) S E hS hW (c_J8_newLength l D A (mi_W D A ad cf) (n := n) (k := n / 2) (by omega) (by omega) rfl) mw_142 mw_140 mw_141 mw_39 ⟨by decide, by decide, by decide +kernel⟩ ⟨rfl, rfl, Nat.le_of_ble_eq_true rfl, Nat.le_of_ble_eq_true rfl⟩ (n := 3) rfl hl.1 rfl (Nat.le_of_ble_eq_true rfl) dJx4a65c_grow_92f84_27 ⟨(by show _ ≤ (1 : Nat); omega), (by show _ ≤ (1000 : Nat); omega)⟩) (fun r9 e9 => ?_)
  subst e9
  refine lv_istore_n (lv' := [(3, .int (nI (n + n / 2))), (2, .int (nI (n))), (0, .ref (b)), (1, .int (nI (n + 1)))]) S.1 S.2.1 dJx4a65c_grow_92f84_30 rfl hl (by decide) rfl (fun ls hl => ?_)
  refine lv_aload_n S.1 S.2.1 dJx4a65c_grow_92f84_31 rfl (lv_at hl 2 rfl) ?_
  refine lv_aload_n S.1 S.2.1 dJx4a65c_grow_92f84_32 rfl (lv_at hl 2 rfl) ?_
  refine fg_Jx4a65c_9 S E hW r hra hr0 rfl dJx4a65c_grow_92f84_33 ?_
  refine lv_iload_n S.1 S.2.1 dJx4a65c_grow_92f84_36 rfl (lv_at hl 0 rfl) ?_
  refine mi_cMr (mi_runS (P := mi_W D A ad cf) (As := [.ref (a), .int (nI (n + n / 2))]) (rest := [.ref (b)]) S E hS hW (c_copyOf2 l D A hAu ha0 hq0 hel (by omega) (by omega) hq9 hf9) mw_152 mw_150 mw_151 mw_41 ⟨by decide, by decide, by decide +kernel⟩ ⟨rfl, rfl, Nat.le_of_ble_eq_true rfl, Nat.le_of_ble_eq_true rfl⟩ (n := 2) rfl hl.1 rfl (Nat.le_of_ble_eq_true rfl) dJx4a65c_grow_92f84_37 ⟨(by show _ ≤ (1 : Nat); omega), (by show _ ≤ (1000 : Nat); omega)⟩) hS (fun r9 H locs hW hS hz => ?_)
  obtain ⟨a2, rfl⟩ : ∃ z, z = r9 := ⟨_, rfl⟩
  obtain ⟨ad2, had2⟩ : ∃ z, z = va_up ad 999 a2 := ⟨_, rfl⟩
  obtain ⟨cf2, hcf2⟩ : ∃ z, z = va_up cf 999 (some (mi_aq D (n + n / 2) (fun i => if i < n then f i else none))) := ⟨_, rfl⟩
  have hW : mi_W D A ad2 cf2 H := by rw [had2, hcf2]; exact hW
  have he2_0 : cf2 q = some (mi_aq D n (f)) := by rw [hcf2]; exact (mi_up_n hq9).trans hq0
  have ha2_0 : ad2 q = a := by rw [had2]; exact (mi_up_n hq9).trans ha0
  have he2_1 : cf2 r = some (.inr (0, [.int (mcn), .ref (a), .int (nI (n))])) := by rw [hcf2]; exact (mi_up_n hr9).trans hr0
  have ha2_1 : ad2 r = b := by rw [had2]; exact (mi_up_n hr9).trans hra
  have he2_r : cf2 999 = some (mi_aq D (n + n / 2) (fun i => if i < n then f i else none)) := by rw [hcf2]; exact mi_up_s
  have ha2_r : ad2 999 = a2 := by rw [had2]; exact mi_up_s
  refine lv_dup_x1 S.1 S.2.1 dJx4a65c_grow_92f84_40 rfl rfl ?_
  refine fp_Jx4a65c_9 S E hS hW r ha2_1 he2_1 (Nat.le_of_ble_eq_true rfl) rfl rfl dJx4a65c_grow_92f84_41 (fun H locs hW hS hz => ?_)
  obtain ⟨cf3, hcf3⟩ : ∃ z, z = va_up cf2 r (some (.inr (0, [.int (mcn), .ref (a2), .int (nI (n))]))) := ⟨_, rfl⟩
  have hW : mi_W D A ad2 cf3 H := by rw [hcf3]; exact hW
  have he3_0 : cf3 q = some (mi_aq D n (f)) := by rw [hcf3]; exact (mi_up_n (Ne.symm hrq)).trans he2_0
  have he3_1 : cf3 999 = some (mi_aq D (n + n / 2) (fun i => if i < n then f i else none)) := by rw [hcf3]; exact (mi_up_n (Ne.symm hr9)).trans he2_r
  have he3_r : cf3 r = some (.inr (0, [.int (mcn), .ref (a2), .int (nI (n))])) := by rw [hcf3]; exact mi_up_s
  exact mi_retMr S hr (Or.inr ⟨_, rfl⟩) hk hS dJx4a65c_grow_92f84_44 (by show _ ≤ (1 : Nat); omega) (by show _ ≤ (1000 : Nat); omega) (by rw [had2, hcf3, hcf2] at hW; exact mi_grown hq9 hr9 hrq hf9 hW)
set_option maxHeartbeats 4000000 in
set_option maxRecDepth 100000 in
theorem c_grow1_0 (l : Launch) (D : va_G) (A : Nat → Prop)  (hAu : ∀ a b, A a → a ≤ b → A b){ad : Nat → Nat} {cf : Nat → Option va_E} {r q b : Nat} {mcn : Int32} (hra : ad r = b) (hr0 : cf r = some (.inr (0, [.int mcn, .ref (mi_de D), .int (nI 0)]))) (hr9 : r ≠ 999) (hrq : r ≠ q) : mi_Mr l yJx4a65c_grow_92f84 (Cond.code yJx4a65c_grow_92f84 cJx4a65c_grow_92f84 4 (some (Jvm.ClassFile.FieldType.array (Jvm.ClassFile.FieldType.object "java/lang/Object")))) (mi_rq 3 1 1000) D A (mi_W D A ad cf) [.ref (b), .int (nI (1))] 1 1000 (fun z H => mi_W D A (va_up ad q z) (va_up (va_up cf q (some (mi_aq D 10 (fun _ => none)))) r (some (.inr (0, [.int mcn, .ref z, .int (nI 0)])))) H) := by
  refine mi_start (cc := cJx4a65c_grow_92f84) (nL := 4) (ret := (some (Jvm.ClassFile.FieldType.array (Jvm.ClassFile.FieldType.object "java/lang/Object")))) rfl (by decide) (Nat.le_of_ble_eq_true rfl) ?_
  intro p e s m below meth c ls S E hW hS hr hk hn hl
  have S : CallFix p m c cJx4a65c_grow_92f84 4 s _ ((Cond.code yJx4a65c_grow_92f84 cJx4a65c_grow_92f84 4 (some (Jvm.ClassFile.FieldType.array (Jvm.ClassFile.FieldType.object "java/lang/Object")))) :: mi_G) RJx4a65c := S
  have hl : lv_has ls 4 [(0, .ref (b)), (1, .int (nI (1)))] := hl
  have hA : ∀ q, s.heap.size ≤ q → A q := hW.up hAu hr0
  refine lv_aload_n S.1 S.2.1 dJx4a65c_grow_92f84_0 rfl (lv_at hl 0 rfl) ?_
  refine fg_Jx4a65c_9 S E hW r hra hr0 rfl dJx4a65c_grow_92f84_1 ?_
  refine mi_delen S E hS dJx4a65c_grow_92f84_4 ?_
  refine lv_istore_n (lv' := [(2, .int (nI (0))), (0, .ref (b)), (1, .int (nI (1)))]) S.1 S.2.1 dJx4a65c_grow_92f84_5 rfl hl (by decide) rfl (fun ls hl => ?_)
  refine lv_iload_n S.1 S.2.1 dJx4a65c_grow_92f84_6 rfl (lv_at hl 0 rfl) ?_
  refine mi_if_gt (tgt := 20) S (by omega) dJx4a65c_grow_92f84_7 (by decide) (fun c7_0 => by exfalso; omega) (fun c7_0 => ?_)
  refine lv_aload_n S.1 S.2.1 dJx4a65c_grow_92f84_10 rfl (lv_at hl 1 rfl) ?_
  refine fg_Jx4a65c_9 S E hW r hra hr0 rfl dJx4a65c_grow_92f84_11 ?_
  refine mi_gets S E hS (List.mem_cons_of_mem _ mw_74) dJx4a65c_grow_92f84_14 ?_
  refine mi_acmp_eq (tgt := 45) S dJx4a65c_grow_92f84_17 (by decide) (fun c17_1 => ?_) (fun c17_1 => by exfalso; exact absurd rfl c17_1)
  refine lv_aload_n S.1 S.2.1 dJx4a65c_grow_92f84_45 rfl (lv_at hl 1 rfl) ?_
  refine lv_bipush (v := nI 10) S.1 S.2.1 dJx4a65c_grow_92f84_46 (by decide) ?_
  refine lv_iload_n S.1 S.2.1 dJx4a65c_grow_92f84_48 rfl (lv_at hl 2 rfl) ?_
  refine mi_mmax S (by omega) (by omega) (List.mem_cons_of_mem _ mw_179) (List.mem_cons_of_mem _ mw_144) (List.mem_cons_of_mem _ mw_40) (List.mem_cons_of_mem _ mk_max) hl.1 (Nat.le_of_ble_eq_true rfl) (Nat.le_of_ble_eq_true rfl) (by show _ ≤ (1 : Nat); omega) (by show _ ≤ (1000 : Nat); omega) dJx4a65c_grow_92f84_49 ?_
  refine mi_top (v' := .int (nI (10))) (by rw [if_neg (by omega)]) ?_
  obtain ⟨a3, hn3⟩ : ∃ z, z = s.heap.size := ⟨_, rfl⟩
  refine mi_newq S E hS hA hW q (List.mem_cons_of_mem _ mw_180) (by omega) (by show _ ≤ (1 : Nat); omega) (by show _ ≤ (1000 : Nat); omega) dJx4a65c_grow_92f84_52 (fun H9 hW hS hz => ?_)
  rw [← hn3] at hW hz ⊢
  obtain ⟨H, rfl⟩ : ∃ z, z = H9 := ⟨_, rfl⟩
  obtain ⟨ad3, had3⟩ : ∃ z, z = va_up ad q a3 := ⟨_, rfl⟩
  obtain ⟨cf3, hcf3⟩ : ∃ z, z = va_up cf q (some (mi_aq D 10 (fun _ => none))) := ⟨_, rfl⟩
  have hW : mi_W D A ad3 cf3 H := by rw [had3, hcf3]; exact hW
  have he3_0 : cf3 r = some (.inr (0, [.int (mcn), .ref (mi_de D), .int (nI (0))])) := by rw [hcf3]; exact (mi_up_n hrq).trans hr0
  have ha3_0 : ad3 r = b := by rw [had3]; exact (mi_up_n hrq).trans hra
  have he3_r : cf3 q = some (mi_aq D 10 (fun _ => none)) := by rw [hcf3]; exact mi_up_s
  have ha3_r : ad3 q = a3 := by rw [had3]; exact mi_up_s
  refine lv_dup_x1 S.1 S.2.1 dJx4a65c_grow_92f84_55 rfl rfl ?_
  refine fp_Jx4a65c_9 S E hS hW r ha3_0 he3_0 (Nat.le_of_ble_eq_true rfl) rfl rfl dJx4a65c_grow_92f84_56 (fun H locs hW hS hz => ?_)
  obtain ⟨cf4, hcf4⟩ : ∃ z, z = va_up cf3 r (some (.inr (0, [.int (mcn), .ref (a3), .int (nI (0))]))) := ⟨_, rfl⟩
  have hW : mi_W D A ad3 cf4 H := by rw [hcf4]; exact hW
  have he4_0 : cf4 q = some (mi_aq D 10 (fun _ => none)) := by rw [hcf4]; exact (mi_up_n (Ne.symm hrq)).trans he3_r
  have he4_r : cf4 r = some (.inr (0, [.int (mcn), .ref (a3), .int (nI (0))])) := by rw [hcf4]; exact mi_up_s
  exact mi_retMr S hr (Or.inr ⟨_, rfl⟩) hk hS dJx4a65c_grow_92f84_59 (by show _ ≤ (1 : Nat); omega) (by show _ ≤ (1000 : Nat); omega) (by rw [had3, hcf4, hcf3] at hW; exact hW)
