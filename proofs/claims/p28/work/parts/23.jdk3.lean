/-! ArrayList grows and takes an element -/
theorem mi_cpy_new (f : Nat → Option Nat) (n : Nat) : va_cpy f (fun _ => none) 0 0 n = (fun i => if i < n then f i else none) := by
  funext k
  unfold va_cpy
  by_cases h : k < n
  · rw [if_pos (by omega), if_pos h, Nat.zero_add, Nat.sub_zero]
  · rw [if_neg (by omega), if_neg h]
set_option maxHeartbeats 4000000 in
set_option maxRecDepth 100000 in
theorem c_copyOf3 (l : Launch) (D : va_G) (A : Nat → Prop)  (hAu : ∀ a b, A a → a ≤ b → A b){ad : Nat → Nat} {cf : Nat → Option va_E} {q a n nk : Nat} {f : Nat → Option Nat} (ha0 : ad q = a) (hq0 : cf q = some (mi_aq D n f)) (hel : mi_els ad cf n f) (hnm : n ≤ nk) (hm9 : nk ≤ 1000) (hq9 : q ≠ 999) (hf9 : cf 999 = none) : mi_Mr l yJ7_copyOf_6403c (Cond.code yJ7_copyOf_6403c cJ7_copyOf_6403c 4 (some (Jvm.ClassFile.FieldType.array (Jvm.ClassFile.FieldType.object "java/lang/Object")))) (mi_rq 1 1 1000) D A (mi_W D A ad cf) [.ref (a), .int (nI (nk)), .ref (mi_mi D)] 1 1000 (fun r H => mi_W D A (va_up ad 999 r) (va_up cf 999 (some (mi_aq D nk (fun i => if i < n then f i else none)))) H) := by
  refine mi_start (cc := cJ7_copyOf_6403c) (nL := 4) (ret := (some (Jvm.ClassFile.FieldType.array (Jvm.ClassFile.FieldType.object "java/lang/Object")))) rfl (by decide) (Nat.le_of_ble_eq_true rfl) ?_
  intro p e s m below meth c ls S E hW hS hr hk hn hl
  have S : CallFix p m c cJ7_copyOf_6403c 4 s _ ((Cond.code yJ7_copyOf_6403c cJ7_copyOf_6403c 4 (some (Jvm.ClassFile.FieldType.array (Jvm.ClassFile.FieldType.object "java/lang/Object")))) :: mi_G) RJ7 := S
  have hl : lv_has ls 4 [(0, .ref (a)), (1, .int (nI (nk))), (2, .ref (mi_mi D))] := hl
  have hA : ∀ q, s.heap.size ≤ q → A q := hW.up hAu hq0
  refine lv_aload_n S.1 S.2.1 dJ7_copyOf_6403c_0 rfl (lv_at hl 2 rfl) ?_
  refine mi_ldcM S E (List.mem_cons_of_mem _ mw_153) dJ7_copyOf_6403c_1 ?_
  refine mi_acmp_ne (tgt := 13) S dJ7_copyOf_6403c_3 (by decide) (fun c3_0 => by exfalso; exact absurd rfl c3_0) (fun c3_0 => ?_)
  refine lv_iload_n S.1 S.2.1 dJ7_copyOf_6403c_6 rfl (lv_at hl 1 rfl) ?_
  obtain ⟨a2, hn2⟩ : ∃ z, z = s.heap.size := ⟨_, rfl⟩
  refine mi_newq S E hS hA hW 999 (List.mem_cons_of_mem _ mw_155) (by omega) (by show _ ≤ (1 : Nat); omega) (by show _ ≤ (1000 : Nat); omega) dJ7_copyOf_6403c_7 (fun H9 hW hS hz => ?_)
  rw [← hn2] at hW hz ⊢
  obtain ⟨H, rfl⟩ : ∃ z, z = H9 := ⟨_, rfl⟩
  obtain ⟨ad2, had2⟩ : ∃ z, z = va_up ad 999 a2 := ⟨_, rfl⟩
  obtain ⟨cf2, hcf2⟩ : ∃ z, z = va_up cf 999 (some (mi_aq D nk (fun _ => none))) := ⟨_, rfl⟩
  have hW : mi_W D A ad2 cf2 H := by rw [had2, hcf2]; exact hW
  have he2_0 : cf2 q = some (mi_aq D n (f)) := by rw [hcf2]; exact (mi_up_n hq9).trans hq0
  have ha2_0 : ad2 q = a := by rw [had2]; exact (mi_up_n hq9).trans ha0
  have he2_r : cf2 999 = some (mi_aq D nk (fun _ => none)) := by rw [hcf2]; exact mi_up_s
  have ha2_r : ad2 999 = a2 := by rw [had2]; exact mi_up_s
  refine lv_goto (tgt := 24) S.1 S.2.1 dJ7_copyOf_6403c_10 (by decide) ?_
  refine lv_astore_n (lv' := [(3, .ref (a2)), (0, .ref (a)), (1, .int (nI (nk))), (2, .ref (mi_mi D))]) S.1 S.2.1 dJ7_copyOf_6403c_24 rfl hl (by decide) rfl (fun ls hl => ?_)
  refine lv_aload_n S.1 S.2.1 dJ7_copyOf_6403c_25 rfl (lv_at hl 1 rfl) ?_
  refine lv_iconst (v := nI 0) S.1 S.2.1 dJ7_copyOf_6403c_26 (by decide) ?_
  refine lv_aload_n S.1 S.2.1 dJ7_copyOf_6403c_27 rfl (lv_at hl 0 rfl) ?_
  refine lv_iconst (v := nI 0) S.1 S.2.1 dJ7_copyOf_6403c_28 (by decide) ?_
  refine lv_aload_n S.1 S.2.1 dJ7_copyOf_6403c_29 rfl (lv_at hl 1 rfl) ?_
  refine mi_alen S E hW q 1 ha2_0 he2_0 rfl dJ7_copyOf_6403c_30 ?_
  refine mi_top (v' := .int (nI (n))) rfl ?_
  refine lv_iload_n S.1 S.2.1 dJ7_copyOf_6403c_31 rfl (lv_at hl 2 rfl) ?_
  refine mi_mmin S (by omega) (by omega) (List.mem_cons_of_mem _ mw_156) (List.mem_cons_of_mem _ mw_157) (List.mem_cons_of_mem _ mw_25) (List.mem_cons_of_mem _ mk_min) hl.1 (Nat.le_of_ble_eq_true rfl) (Nat.le_of_ble_eq_true rfl) (by show _ ≤ (1 : Nat); omega) (by show _ ≤ (1000 : Nat); omega) dJ7_copyOf_6403c_32 ?_
  refine mi_top (v' := .int (nI (n))) (by rw [if_neg (by omega)]) ?_
  have hel2 : mi_els ad2 cf2 n f := fun i hi y hy => by
    obtain ⟨ro, ci, fs, q9, e1, e2, e3, e4⟩ := hel i hi y hy
    have hro : ro ≠ 999 := fun z => by rw [z, hf9] at e2; cases e2
    exact ⟨ro, ci, fs, q9, by rw [had2, mi_up_n hro]; exact e1, by rw [hcf2, mi_up_n hro]; exact e2, e3, e4⟩
  refine mi_copy S E hS hW q 999 ha2_0 ha2_r hq9 he2_0 he2_r (Nat.le_refl _) hnm (by omega) (by omega) hel2 hl.1 (List.mem_cons_of_mem _ mw_159) (List.mem_cons_of_mem _ mw_161) (List.mem_cons_of_mem _ mw_160) (List.mem_cons_of_mem _ mw_27) (Nat.le_of_ble_eq_true rfl) (by decide +kernel) dJ7_copyOf_6403c_35 (fun H locs hW hS hz => ?_)
  obtain ⟨cf3, hcf3⟩ : ∃ z, z = va_up cf2 999 (some (mi_aq D nk (fun i => if i < n then f i else none))) := ⟨_, rfl⟩
  have hW : mi_W D A ad2 cf3 H := by rw [hcf3]; rw [mi_cpy_new] at hW; exact hW
  have he3_0 : cf3 q = some (mi_aq D n (f)) := by rw [hcf3]; exact (mi_up_n hq9).trans he2_0
  have he3_r : cf3 999 = some (mi_aq D nk (fun i => if i < n then f i else none)) := by rw [hcf3]; exact mi_up_s
  refine lv_aload_n S.1 S.2.1 dJ7_copyOf_6403c_38 rfl (lv_at hl 0 rfl) ?_
  exact mi_retMr S hr (Or.inr ⟨_, rfl⟩) hk hS dJ7_copyOf_6403c_39 (by show _ ≤ (1 : Nat); omega) (by show _ ≤ (1000 : Nat); omega) (by rw [had2, hcf3, hcf2, mi_up_up] at hW; exact hW)
set_option maxHeartbeats 4000000 in
set_option maxRecDepth 100000 in
theorem c_copyOf2 (l : Launch) (D : va_G) (A : Nat → Prop)  (hAu : ∀ a b, A a → a ≤ b → A b){ad : Nat → Nat} {cf : Nat → Option va_E} {q a n nk : Nat} {f : Nat → Option Nat} (ha0 : ad q = a) (hq0 : cf q = some (mi_aq D n f)) (hel : mi_els ad cf n f) (hnm : n ≤ nk) (hm9 : nk ≤ 1000) (hq9 : q ≠ 999) (hf9 : cf 999 = none) : mi_Mr l yJ7_copyOf_1904c (Cond.code yJ7_copyOf_1904c cJ7_copyOf_1904c 2 (some (Jvm.ClassFile.FieldType.array (Jvm.ClassFile.FieldType.object "java/lang/Object")))) (mi_rq 2 1 1000) D A (mi_W D A ad cf) [.ref (a), .int (nI (nk))] 1 1000 (fun r H => mi_W D A (va_up ad 999 r) (va_up cf 999 (some (mi_aq D nk (fun i => if i < n then f i else none)))) H) := by
  refine mi_start (cc := cJ7_copyOf_1904c) (nL := 2) (ret := (some (Jvm.ClassFile.FieldType.array (Jvm.ClassFile.FieldType.object "java/lang/Object")))) rfl (by decide) (Nat.le_of_ble_eq_true rfl) ?_
  intro p e s m below meth c ls S E hW hS hr hk hn hl
  have S : CallFix p m c cJ7_copyOf_1904c 2 s _ ((Cond.code yJ7_copyOf_1904c cJ7_copyOf_1904c 2 (some (Jvm.ClassFile.FieldType.array (Jvm.ClassFile.FieldType.object "java/lang/Object")))) :: mi_G) RJ7 := S
  have hl : lv_has ls 2 [(0, .ref (a)), (1, .int (nI (nk)))] := hl
  refine lv_aload_n S.1 S.2.1 dJ7_copyOf_1904c_0 rfl (lv_at hl 0 rfl) ?_
  refine lv_iload_n S.1 S.2.1 dJ7_copyOf_1904c_1 rfl (lv_at hl 1 rfl) ?_
  refine lv_aload_n S.1 S.2.1 dJ7_copyOf_1904c_2 rfl (lv_at hl 0 rfl) ?_
  refine mi_getC S E hW q ha0 hq0 hl.1 (List.mem_cons_of_mem _ mw_137) (List.mem_cons_of_mem _ mw_705) (List.mem_cons_of_mem _ mw_138) (List.mem_cons_of_mem _ mw_149) (Nat.le_of_ble_eq_true rfl) (Nat.le_of_ble_eq_true rfl) dJ7_copyOf_1904c_3 ?_
  refine mi_cMr (mi_runS (P := mi_W D A ad cf) (As := [.ref (a), .int (nI (nk)), .ref (mi_mi D)]) (rest := []) S E hS hW (c_copyOf3 l D A hAu ha0 hq0 hel hnm hm9 hq9 hf9) mw_152 mw_150 mw_151 mw_26 ⟨by decide, by decide, by decide +kernel⟩ ⟨rfl, rfl, Nat.le_of_ble_eq_true rfl, Nat.le_of_ble_eq_true rfl⟩ (n := 3) rfl hl.1 rfl (Nat.le_of_ble_eq_true rfl) dJ7_copyOf_1904c_6 ⟨(by show _ ≤ (1 : Nat); omega), (by show _ ≤ (1000 : Nat); omega)⟩) hS (fun r9 H locs hW hS hz => ?_)
  obtain ⟨a1, rfl⟩ : ∃ z, z = r9 := ⟨_, rfl⟩
  obtain ⟨ad1, had1⟩ : ∃ z, z = va_up ad 999 a1 := ⟨_, rfl⟩
  obtain ⟨cf1, hcf1⟩ : ∃ z, z = va_up cf 999 (some (mi_aq D nk (fun i => if i < n then f i else none))) := ⟨_, rfl⟩
  have hW : mi_W D A ad1 cf1 H := by rw [had1, hcf1]; exact hW
  have he1_0 : cf1 q = some (mi_aq D n (f)) := by rw [hcf1]; exact (mi_up_n hq9).trans hq0
  have ha1_0 : ad1 q = a := by rw [had1]; exact (mi_up_n hq9).trans ha0
  have he1_r : cf1 999 = some (mi_aq D nk (fun i => if i < n then f i else none)) := by rw [hcf1]; exact mi_up_s
  have ha1_r : ad1 999 = a1 := by rw [had1]; exact mi_up_s
  exact mi_retMr S hr (Or.inr ⟨_, rfl⟩) hk hS dJ7_copyOf_1904c_9 (by show _ ≤ (1 : Nat); omega) (by show _ ≤ (1000 : Nat); omega) (by rw [had1, hcf1] at hW; exact hW)
set_option maxHeartbeats 4000000 in
set_option maxRecDepth 100000 in
theorem c_grow1 (l : Launch) (D : va_G) (A : Nat → Prop)  (hAu : ∀ a b, A a → a ≤ b → A b){ad : Nat → Nat} {cf : Nat → Option va_E} {r q a b n : Nat} {mcn : Int32} {f : Nat → Option Nat} (hra : ad r = b) (ha0 : ad q = a) (hr0 : cf r = some (.inr (0, [.int mcn, .ref a, .int (nI n)]))) (hq0 : cf q = some (mi_aq D n f)) (hel : mi_els ad cf n f) (h10 : 10 ≤ n) (h60 : n ≤ 60) (hr9 : r ≠ 999) (hq9 : q ≠ 999) (hrq : r ≠ q) (hf9 : cf 999 = none) : mi_Mr l yJx4a65c_grow_92f84 (Cond.code yJx4a65c_grow_92f84 cJx4a65c_grow_92f84 4 (some (Jvm.ClassFile.FieldType.array (Jvm.ClassFile.FieldType.object "java/lang/Object")))) (mi_rq 3 1 1000) D A (mi_W D A ad cf) [.ref (b), .int (nI (n + 1))] 1 1000 (fun z H => mi_W D A (va_up ad q z) (va_up (va_up cf q (some (mi_aq D (n + n / 2) (fun i => if i < n then f i else none)))) r (some (.inr (0, [.int mcn, .ref z, .int (nI n)])))) H) := by
  refine mi_start (cc := cJx4a65c_grow_92f84) (nL := 4) (ret := (some (Jvm.ClassFile.FieldType.array (Jvm.ClassFile.FieldType.object "java/lang/Object")))) rfl (by decide) (Nat.le_of_ble_eq_true rfl) ?_
  intro p e s m below meth c ls S E hW hS hr hk hn hl
  have S : CallFix p m c cJx4a65c_grow_92f84 4 s _ ((Cond.code yJx4a65c_grow_92f84 cJx4a65c_grow_92f84 4 (some (Jvm.ClassFile.FieldType.array (Jvm.ClassFile.FieldType.object "java/lang/Object")))) :: mi_G) RJx4a65c := S
  have hl : lv_has ls 4 [(0, .ref (b)), (1, .int (nI (n + 1)))] := hl
  refine lv_aload_n S.1 S.2.1 dJx4a65c_grow_92f84_0 rfl (lv_at hl 0 rfl) ?_
  refine fg_Jx4a65c_9 S E hW r hra hr0 rfl dJx4a65c_grow_92f84_1 ?_
  refine mi_alen S E hW q 1 ha0 hq0 rfl dJx4a65c_grow_92f84_4 ?_
  refine mi_top (v' := .int (nI (n))) rfl ?_
  refine lv_istore_n (lv' := [(2, .int (nI (n))), (0, .ref (b)), (1, .int (nI (n + 1)))]) S.1 S.2.1 dJx4a65c_grow_92f84_5 rfl hl (by decide) rfl (fun ls hl => ?_)
  refine lv_iload_n S.1 S.2.1 dJx4a65c_grow_92f84_6 rfl (lv_at hl 0 rfl) ?_
  refine mi_if_gt (tgt := 20) S (by omega) dJx4a65c_grow_92f84_7 (by decide) (fun c7_0 => ?_) (fun c7_0 => by exfalso; omega)
  refine lv_iload_n S.1 S.2.1 dJx4a65c_grow_92f84_20 rfl (lv_at hl 0 rfl) ?_
  refine lv_iload_n S.1 S.2.1 dJx4a65c_grow_92f84_21 rfl (lv_at hl 2 rfl) ?_
  refine lv_iload_n S.1 S.2.1 dJx4a65c_grow_92f84_22 rfl (lv_at hl 0 rfl) ?_
  refine mi_isub S (by omega) dJx4a65c_grow_92f84_23 ?_
  refine mi_top (v' := .int (nI (1))) (by rw [show n + 1 - n = 1 by omega]) ?_
  refine lv_iload_n S.1 S.2.1 dJx4a65c_grow_92f84_24 rfl (lv_at hl 0 rfl) ?_
  refine lv_iconst (v := nI 1) S.1 S.2.1 dJx4a65c_grow_92f84_25 (by decide) ?_
  refine lv_ishr S.1 S.2.1 dJx4a65c_grow_92f84_26 ?_
  refine mi_top (v' := .int (nI (n / 2))) (by rw [pk_shrN (by omega) (nI 1 &&& 31) 1 (by decide)]) ?_
  refine mi_cR (mi_runS (P := mi_W D A ad cf) (As := [.int (nI (n)), .int (nI (1)), .int (nI (n / 2))]) (rest := []) S E hS hW (c_J8_newLength l D A (mi_W D A ad cf) (n := n) (k := n / 2) (by omega) (by omega) rfl) mw_126 mw_124 mw_125 mw_24 ⟨by decide, by decide, by decide +kernel⟩ ⟨rfl, rfl, Nat.le_of_ble_eq_true rfl, Nat.le_of_ble_eq_true rfl⟩ (n := 3) rfl hl.1 rfl (Nat.le_of_ble_eq_true rfl) dJx4a65c_grow_92f84_27 ⟨(by show _ ≤ (1 : Nat); omega), (by show _ ≤ (1000 : Nat); omega)⟩) (fun r9 e9 => ?_)
  subst e9
  refine lv_istore_n (lv' := [(3, .int (nI (n + n / 2))), (2, .int (nI (n))), (0, .ref (b)), (1, .int (nI (n + 1)))]) S.1 S.2.1 dJx4a65c_grow_92f84_30 rfl hl (by decide) rfl (fun ls hl => ?_)
  refine lv_aload_n S.1 S.2.1 dJx4a65c_grow_92f84_31 rfl (lv_at hl 2 rfl) ?_
  refine lv_aload_n S.1 S.2.1 dJx4a65c_grow_92f84_32 rfl (lv_at hl 2 rfl) ?_
  refine fg_Jx4a65c_9 S E hW r hra hr0 rfl dJx4a65c_grow_92f84_33 ?_
  refine lv_iload_n S.1 S.2.1 dJx4a65c_grow_92f84_36 rfl (lv_at hl 0 rfl) ?_
  refine mi_cMr (mi_runS (P := mi_W D A ad cf) (As := [.ref (a), .int (nI (n + n / 2))]) (rest := [.ref (b)]) S E hS hW (c_copyOf2 l D A hAu ha0 hq0 hel (by omega) (by omega) hq9 hf9) mw_136 mw_134 mw_135 mw_26 ⟨by decide, by decide, by decide +kernel⟩ ⟨rfl, rfl, Nat.le_of_ble_eq_true rfl, Nat.le_of_ble_eq_true rfl⟩ (n := 2) rfl hl.1 rfl (Nat.le_of_ble_eq_true rfl) dJx4a65c_grow_92f84_37 ⟨(by show _ ≤ (1 : Nat); omega), (by show _ ≤ (1000 : Nat); omega)⟩) hS (fun r9 H locs hW hS hz => ?_)
  obtain ⟨a2, rfl⟩ : ∃ z, z = r9 := ⟨_, rfl⟩
  obtain ⟨ad2, had2⟩ : ∃ z, z = va_up ad 999 a2 := ⟨_, rfl⟩
  obtain ⟨cf2, hcf2⟩ : ∃ z, z = va_up cf 999 (some (mi_aq D (n + n / 2) (fun i => if i < n then f i else none))) := ⟨_, rfl⟩
  have hW : mi_W D A ad2 cf2 H := by rw [had2, hcf2]; exact hW
  have he2_0 : cf2 q = some (mi_aq D n (f)) := by rw [hcf2]; exact (mi_up_n hq9).trans hq0
  have ha2_0 : ad2 q = a := by rw [had2]; exact (mi_up_n hq9).trans ha0
  have he2_1 : cf2 r = some (.inr (0, [.int (mcn), .ref (a), .int (nI (n))])) := by rw [hcf2]; exact (mi_up_n hr9).trans hr0
  have ha2_1 : ad2 r = b := by rw [had2]; exact (mi_up_n hr9).trans hra
  have he2_r : cf2 999 = some (mi_aq D (n + n / 2) (fun i => if i < n then f i else none)) := by rw [hcf2]; exact mi_up_s
  have ha2_r : ad2 999 = a2 := by rw [had2]; exact mi_up_s
  refine lv_dup_x1 S.1 S.2.1 dJx4a65c_grow_92f84_40 rfl rfl ?_
  refine fp_Jx4a65c_9 S E hS hW r ha2_1 he2_1 (Nat.le_of_ble_eq_true rfl) rfl rfl dJx4a65c_grow_92f84_41 (fun H locs hW hS hz => ?_)
  obtain ⟨cf3, hcf3⟩ : ∃ z, z = va_up cf2 r (some (.inr (0, [.int (mcn), .ref (a2), .int (nI (n))]))) := ⟨_, rfl⟩
  have hW : mi_W D A ad2 cf3 H := by rw [hcf3]; exact hW
  have he3_0 : cf3 q = some (mi_aq D n (f)) := by rw [hcf3]; exact (mi_up_n (Ne.symm hrq)).trans he2_0
  have he3_1 : cf3 999 = some (mi_aq D (n + n / 2) (fun i => if i < n then f i else none)) := by rw [hcf3]; exact (mi_up_n (Ne.symm hr9)).trans he2_r
  have he3_r : cf3 r = some (.inr (0, [.int (mcn), .ref (a2), .int (nI (n))])) := by rw [hcf3]; exact mi_up_s
  exact mi_retMr S hr (Or.inr ⟨_, rfl⟩) hk hS dJx4a65c_grow_92f84_44 (by show _ ≤ (1 : Nat); omega) (by show _ ≤ (1000 : Nat); omega) (by rw [had2, hcf3, hcf2] at hW; exact mi_grown hq9 hr9 hrq hf9 hW)
set_option maxHeartbeats 4000000 in
set_option maxRecDepth 100000 in
theorem c_grow1_0 (l : Launch) (D : va_G) (A : Nat → Prop)  (hAu : ∀ a b, A a → a ≤ b → A b){ad : Nat → Nat} {cf : Nat → Option va_E} {r q b : Nat} {mcn : Int32} (hra : ad r = b) (hr0 : cf r = some (.inr (0, [.int mcn, .ref (mi_de D), .int (nI 0)]))) (hr9 : r ≠ 999) (hrq : r ≠ q) : mi_Mr l yJx4a65c_grow_92f84 (Cond.code yJx4a65c_grow_92f84 cJx4a65c_grow_92f84 4 (some (Jvm.ClassFile.FieldType.array (Jvm.ClassFile.FieldType.object "java/lang/Object")))) (mi_rq 3 1 1000) D A (mi_W D A ad cf) [.ref (b), .int (nI (1))] 1 1000 (fun z H => mi_W D A (va_up ad q z) (va_up (va_up cf q (some (mi_aq D 10 (fun _ => none)))) r (some (.inr (0, [.int mcn, .ref z, .int (nI 0)])))) H) := by
  refine mi_start (cc := cJx4a65c_grow_92f84) (nL := 4) (ret := (some (Jvm.ClassFile.FieldType.array (Jvm.ClassFile.FieldType.object "java/lang/Object")))) rfl (by decide) (Nat.le_of_ble_eq_true rfl) ?_
  intro p e s m below meth c ls S E hW hS hr hk hn hl
  have S : CallFix p m c cJx4a65c_grow_92f84 4 s _ ((Cond.code yJx4a65c_grow_92f84 cJx4a65c_grow_92f84 4 (some (Jvm.ClassFile.FieldType.array (Jvm.ClassFile.FieldType.object "java/lang/Object")))) :: mi_G) RJx4a65c := S
  have hl : lv_has ls 4 [(0, .ref (b)), (1, .int (nI (1)))] := hl
  have hA : ∀ q, s.heap.size ≤ q → A q := hW.up hAu hr0
  refine lv_aload_n S.1 S.2.1 dJx4a65c_grow_92f84_0 rfl (lv_at hl 0 rfl) ?_
  refine fg_Jx4a65c_9 S E hW r hra hr0 rfl dJx4a65c_grow_92f84_1 ?_
  refine mi_delen S E hS dJx4a65c_grow_92f84_4 ?_
  refine lv_istore_n (lv' := [(2, .int (nI (0))), (0, .ref (b)), (1, .int (nI (1)))]) S.1 S.2.1 dJx4a65c_grow_92f84_5 rfl hl (by decide) rfl (fun ls hl => ?_)
  refine lv_iload_n S.1 S.2.1 dJx4a65c_grow_92f84_6 rfl (lv_at hl 0 rfl) ?_
  refine mi_if_gt (tgt := 20) S (by omega) dJx4a65c_grow_92f84_7 (by decide) (fun c7_0 => by exfalso; omega) (fun c7_0 => ?_)
  refine lv_aload_n S.1 S.2.1 dJx4a65c_grow_92f84_10 rfl (lv_at hl 1 rfl) ?_
  refine fg_Jx4a65c_9 S E hW r hra hr0 rfl dJx4a65c_grow_92f84_11 ?_
  refine mi_gets S E hS (List.mem_cons_of_mem _ mw_58) dJx4a65c_grow_92f84_14 ?_
  refine mi_acmp_eq (tgt := 45) S dJx4a65c_grow_92f84_17 (by decide) (fun c17_1 => ?_) (fun c17_1 => by exfalso; exact absurd rfl c17_1)
  refine lv_aload_n S.1 S.2.1 dJx4a65c_grow_92f84_45 rfl (lv_at hl 1 rfl) ?_
  refine lv_bipush (v := nI 10) S.1 S.2.1 dJx4a65c_grow_92f84_46 (by decide) ?_
  refine lv_iload_n S.1 S.2.1 dJx4a65c_grow_92f84_48 rfl (lv_at hl 2 rfl) ?_
  refine mi_mmax S (by omega) (by omega) (List.mem_cons_of_mem _ mw_162) (List.mem_cons_of_mem _ mw_128) (List.mem_cons_of_mem _ mw_25) (List.mem_cons_of_mem _ mk_max) hl.1 (Nat.le_of_ble_eq_true rfl) (Nat.le_of_ble_eq_true rfl) (by show _ ≤ (1 : Nat); omega) (by show _ ≤ (1000 : Nat); omega) dJx4a65c_grow_92f84_49 ?_
  refine mi_top (v' := .int (nI (10))) (by rw [if_neg (by omega)]) ?_
  obtain ⟨a3, hn3⟩ : ∃ z, z = s.heap.size := ⟨_, rfl⟩
  refine mi_newq S E hS hA hW q (List.mem_cons_of_mem _ mw_163) (by omega) (by show _ ≤ (1 : Nat); omega) (by show _ ≤ (1000 : Nat); omega) dJx4a65c_grow_92f84_52 (fun H9 hW hS hz => ?_)
  rw [← hn3] at hW hz ⊢
  obtain ⟨H, rfl⟩ : ∃ z, z = H9 := ⟨_, rfl⟩
  obtain ⟨ad3, had3⟩ : ∃ z, z = va_up ad q a3 := ⟨_, rfl⟩
  obtain ⟨cf3, hcf3⟩ : ∃ z, z = va_up cf q (some (mi_aq D 10 (fun _ => none))) := ⟨_, rfl⟩
  have hW : mi_W D A ad3 cf3 H := by rw [had3, hcf3]; exact hW
  have he3_0 : cf3 r = some (.inr (0, [.int (mcn), .ref (mi_de D), .int (nI (0))])) := by rw [hcf3]; exact (mi_up_n hrq).trans hr0
  have ha3_0 : ad3 r = b := by rw [had3]; exact (mi_up_n hrq).trans hra
  have he3_r : cf3 q = some (mi_aq D 10 (fun _ => none)) := by rw [hcf3]; exact mi_up_s
  have ha3_r : ad3 q = a3 := by rw [had3]; exact mi_up_s
  refine lv_dup_x1 S.1 S.2.1 dJx4a65c_grow_92f84_55 rfl rfl ?_
  refine fp_Jx4a65c_9 S E hS hW r ha3_0 he3_0 (Nat.le_of_ble_eq_true rfl) rfl rfl dJx4a65c_grow_92f84_56 (fun H locs hW hS hz => ?_)
  obtain ⟨cf4, hcf4⟩ : ∃ z, z = va_up cf3 r (some (.inr (0, [.int (mcn), .ref (a3), .int (nI (0))]))) := ⟨_, rfl⟩
  have hW : mi_W D A ad3 cf4 H := by rw [hcf4]; exact hW
  have he4_0 : cf4 q = some (mi_aq D 10 (fun _ => none)) := by rw [hcf4]; exact (mi_up_n (Ne.symm hrq)).trans he3_r
  have he4_r : cf4 r = some (.inr (0, [.int (mcn), .ref (a3), .int (nI (0))])) := by rw [hcf4]; exact mi_up_s
  exact mi_retMr S hr (Or.inr ⟨_, rfl⟩) hk hS dJx4a65c_grow_92f84_59 (by show _ ≤ (1 : Nat); omega) (by show _ ≤ (1000 : Nat); omega) (by rw [had3, hcf4, hcf3] at hW; exact hW)
set_option maxHeartbeats 4000000 in
set_option maxRecDepth 100000 in
theorem c_grow0 (l : Launch) (D : va_G) (A : Nat → Prop)  (hAu : ∀ a b, A a → a ≤ b → A b){ad : Nat → Nat} {cf : Nat → Option va_E} {r q a b n : Nat} {mcn : Int32} {f : Nat → Option Nat} (hra : ad r = b) (ha0 : ad q = a) (hr0 : cf r = some (.inr (0, [.int mcn, .ref a, .int (nI n)]))) (hq0 : cf q = some (mi_aq D n f)) (hel : mi_els ad cf n f) (h10 : 10 ≤ n) (h60 : n ≤ 60) (hr9 : r ≠ 999) (hq9 : q ≠ 999) (hrq : r ≠ q) (hf9 : cf 999 = none) : mi_Mr l yJx4a65c_grow_d5877 (Cond.code yJx4a65c_grow_d5877 cJx4a65c_grow_d5877 1 (some (Jvm.ClassFile.FieldType.array (Jvm.ClassFile.FieldType.object "java/lang/Object")))) (mi_rq 4 1 1000) D A (mi_W D A ad cf) [.ref (b)] 1 1000 (fun z H => mi_W D A (va_up ad q z) (va_up (va_up cf q (some (mi_aq D (n + n / 2) (fun i => if i < n then f i else none)))) r (some (.inr (0, [.int mcn, .ref z, .int (nI n)])))) H) := by
  refine mi_start (cc := cJx4a65c_grow_d5877) (nL := 1) (ret := (some (Jvm.ClassFile.FieldType.array (Jvm.ClassFile.FieldType.object "java/lang/Object")))) rfl (by decide) (Nat.le_of_ble_eq_true rfl) ?_
  intro p e s m below meth c ls S E hW hS hr hk hn hl
  have S : CallFix p m c cJx4a65c_grow_d5877 1 s _ ((Cond.code yJx4a65c_grow_d5877 cJx4a65c_grow_d5877 1 (some (Jvm.ClassFile.FieldType.array (Jvm.ClassFile.FieldType.object "java/lang/Object")))) :: mi_G) RJx4a65c := S
  have hl : lv_has ls 1 [(0, .ref (b))] := hl
  refine lv_aload_n S.1 S.2.1 dJx4a65c_grow_d5877_0 rfl (lv_at hl 0 rfl) ?_
  refine lv_aload_n S.1 S.2.1 dJx4a65c_grow_d5877_1 rfl (lv_at hl 0 rfl) ?_
  refine fg_Jx4a65c_48 S E hW r hra hr0 rfl dJx4a65c_grow_d5877_2 ?_
  refine lv_iconst (v := nI 1) S.1 S.2.1 dJx4a65c_grow_d5877_5 (by decide) ?_
  refine mi_iadd S dJx4a65c_grow_d5877_6 ?_
  refine mi_cMr (mi_runV (P := mi_W D A ad cf) (As := [.int (nI (n + 1))]) (rest := []) S E hS hW b (c_grow1 l D A hAu hra ha0 hr0 hq0 hel h10 h60 hr9 hq9 hrq hf9) (hW.recvA E hra hr0 rfl) mw_123 mw_120 mw_122 mw_2 mw_21 ⟨by decide, by decide, by decide +kernel⟩ ⟨rfl, rfl, Nat.le_of_ble_eq_true rfl, Nat.le_of_ble_eq_true rfl⟩ (n := 1) rfl hl.1 rfl (Nat.le_of_ble_eq_true rfl) dJx4a65c_grow_d5877_7 ⟨(by show _ ≤ (1 : Nat); omega), (by show _ ≤ (1000 : Nat); omega)⟩) hS (fun r9 H locs hW hS hz => ?_)
  obtain ⟨a1, rfl⟩ : ∃ z, z = r9 := ⟨_, rfl⟩
  obtain ⟨ad1, had1⟩ : ∃ z, z = va_up ad q a1 := ⟨_, rfl⟩
  obtain ⟨cf1, hcf1⟩ : ∃ z, z = va_up (va_up cf q (some (mi_aq D (n + n / 2) (fun i => if i < n then f i else none)))) r (some (.inr (0, [.int (mcn), .ref (a1), .int (nI (n))]))) := ⟨_, rfl⟩
  have hW : mi_W D A ad1 cf1 H := by rw [had1, hcf1]; exact hW
  have he1_0 : cf1 q = some (mi_aq D (n + n / 2) (fun i => if i < n then f i else none)) := by rw [hcf1]; rw [mi_up_n (Ne.symm hrq), mi_up_s]
  have ha1_0 : ad1 q = a1 := by rw [had1]; exact mi_up_s
  have he1_1 : cf1 r = some (.inr (0, [.int (mcn), .ref (a1), .int (nI (n))])) := by rw [hcf1]; exact mi_up_s
  have ha1_1 : ad1 r = b := by rw [had1]; exact (mi_up_n hrq).trans hra
  exact mi_retMr S hr (Or.inr ⟨_, rfl⟩) hk hS dJx4a65c_grow_d5877_10 (by show _ ≤ (1 : Nat); omega) (by show _ ≤ (1000 : Nat); omega) (by rw [had1, hcf1] at hW; exact hW)
set_option maxHeartbeats 4000000 in
set_option maxRecDepth 100000 in
theorem c_grow0_0 (l : Launch) (D : va_G) (A : Nat → Prop)  (hAu : ∀ a b, A a → a ≤ b → A b){ad : Nat → Nat} {cf : Nat → Option va_E} {r q b : Nat} {mcn : Int32} (hra : ad r = b) (hr0 : cf r = some (.inr (0, [.int mcn, .ref (mi_de D), .int (nI 0)]))) (hr9 : r ≠ 999) (hrq : r ≠ q) : mi_Mr l yJx4a65c_grow_d5877 (Cond.code yJx4a65c_grow_d5877 cJx4a65c_grow_d5877 1 (some (Jvm.ClassFile.FieldType.array (Jvm.ClassFile.FieldType.object "java/lang/Object")))) (mi_rq 4 1 1000) D A (mi_W D A ad cf) [.ref (b)] 1 1000 (fun z H => mi_W D A (va_up ad q z) (va_up (va_up cf q (some (mi_aq D 10 (fun _ => none)))) r (some (.inr (0, [.int mcn, .ref z, .int (nI 0)])))) H) := by
  refine mi_start (cc := cJx4a65c_grow_d5877) (nL := 1) (ret := (some (Jvm.ClassFile.FieldType.array (Jvm.ClassFile.FieldType.object "java/lang/Object")))) rfl (by decide) (Nat.le_of_ble_eq_true rfl) ?_
  intro p e s m below meth c ls S E hW hS hr hk hn hl
  have S : CallFix p m c cJx4a65c_grow_d5877 1 s _ ((Cond.code yJx4a65c_grow_d5877 cJx4a65c_grow_d5877 1 (some (Jvm.ClassFile.FieldType.array (Jvm.ClassFile.FieldType.object "java/lang/Object")))) :: mi_G) RJx4a65c := S
  have hl : lv_has ls 1 [(0, .ref (b))] := hl
  refine lv_aload_n S.1 S.2.1 dJx4a65c_grow_d5877_0 rfl (lv_at hl 0 rfl) ?_
  refine lv_aload_n S.1 S.2.1 dJx4a65c_grow_d5877_1 rfl (lv_at hl 0 rfl) ?_
  refine fg_Jx4a65c_48 S E hW r hra hr0 rfl dJx4a65c_grow_d5877_2 ?_
  refine lv_iconst (v := nI 1) S.1 S.2.1 dJx4a65c_grow_d5877_5 (by decide) ?_
  refine mi_iadd S dJx4a65c_grow_d5877_6 ?_
  refine mi_top (v' := .int (nI (1))) (rfl) ?_
  refine mi_cMr (mi_runV (P := mi_W D A ad cf) (As := [.int (nI (1))]) (rest := []) S E hS hW b (c_grow1_0 l D A hAu hra hr0 hr9 hrq) (hW.recvA E hra hr0 rfl) mw_123 mw_120 mw_122 mw_2 mw_21 ⟨by decide, by decide, by decide +kernel⟩ ⟨rfl, rfl, Nat.le_of_ble_eq_true rfl, Nat.le_of_ble_eq_true rfl⟩ (n := 1) rfl hl.1 rfl (Nat.le_of_ble_eq_true rfl) dJx4a65c_grow_d5877_7 ⟨(by show _ ≤ (1 : Nat); omega), (by show _ ≤ (1000 : Nat); omega)⟩) hS (fun r9 H locs hW hS hz => ?_)
  obtain ⟨a1, rfl⟩ : ∃ z, z = r9 := ⟨_, rfl⟩
  obtain ⟨ad1, had1⟩ : ∃ z, z = va_up ad q a1 := ⟨_, rfl⟩
  obtain ⟨cf1, hcf1⟩ : ∃ z, z = va_up (va_up cf q (some (mi_aq D 10 (fun _ => none)))) r (some (.inr (0, [.int (mcn), .ref (a1), .int (nI (0))]))) := ⟨_, rfl⟩
  have hW : mi_W D A ad1 cf1 H := by rw [had1, hcf1]; exact hW
  have he1_0 : cf1 q = some (mi_aq D 10 (fun _ => none)) := by rw [hcf1]; rw [mi_up_n (Ne.symm hrq), mi_up_s]
  have ha1_0 : ad1 q = a1 := by rw [had1]; exact mi_up_s
  have he1_1 : cf1 r = some (.inr (0, [.int (mcn), .ref (a1), .int (nI (0))])) := by rw [hcf1]; exact mi_up_s
  have ha1_1 : ad1 r = b := by rw [had1]; exact (mi_up_n hrq).trans hra
  exact mi_retMr S hr (Or.inr ⟨_, rfl⟩) hk hS dJx4a65c_grow_d5877_10 (by show _ ≤ (1 : Nat); omega) (by show _ ≤ (1000 : Nat); omega) (by rw [had1, hcf1] at hW; exact hW)
set_option maxHeartbeats 4000000 in
set_option maxRecDepth 100000 in
theorem c_add3 (l : Launch) (D : va_G) (A : Nat → Prop)  (hAu : ∀ a b, A a → a ≤ b → A b){ad : Nat → Nat} {cf : Nat → Option va_E} {r q a b n cap : Nat} {mcn : Int32} {f : Nat → Option Nat} (hra : ad r = b) (ha0 : ad q = a) (hr0 : cf r = some (.inr (0, [.int mcn, .ref a, .int (nI n)]))) (hq0 : cf q = some (mi_aq D cap f)) (hnc : n < cap) (hcap : cap ≤ 1000) (hr9 : r ≠ 999) (hq9 : q ≠ 999) (hrq : r ≠ q) {ro ao ci : Nat} {fo : List Value} {xo : vw_C} (hao : ad ro = ao) (hro : cf ro = some (.inr (ci, fo))) (hci : vwCl[ci]? = some xo) (hcast : (xo.1, mi_ob) ∈ mi_casts) (hor : ro ≠ r) (hoq : ro ≠ q) (ho9 : ro ≠ 999) : mi_Mv l yJx4a65c_add_72be8 (Cond.code yJx4a65c_add_72be8 cJx4a65c_add_72be8 4 none) (mi_rq 5 1 1000) D A (mi_W D A ad cf) [.ref (b), .ref (ao), .ref (a), .int (nI (n))] 1 1000 (fun H => mi_W D A ad (va_up (va_up cf q (some (mi_aq D cap (va_up f n (some ao))))) r (some (.inr (0, [.int mcn, .ref a, .int (nI (n + 1))])))) H) := by
  refine mi_start (cc := cJx4a65c_add_72be8) (nL := 4) (ret := none) rfl (by decide) (Nat.le_of_ble_eq_true rfl) ?_
  intro p e s m below meth c ls S E hW hS hr hk hn hl
  have S : CallFix p m c cJx4a65c_add_72be8 4 s _ ((Cond.code yJx4a65c_add_72be8 cJx4a65c_add_72be8 4 none) :: mi_G) RJx4a65c := S
  have hl : lv_has ls 4 [(0, .ref (b)), (1, .ref (ao)), (2, .ref (a)), (3, .int (nI (n)))] := hl
  refine lv_iload_n S.1 S.2.1 dJx4a65c_add_72be8_0 rfl (lv_at hl 3 rfl) ?_
  refine lv_aload_n S.1 S.2.1 dJx4a65c_add_72be8_1 rfl (lv_at hl 2 rfl) ?_
  refine mi_alen S E hW q 1 ha0 hq0 rfl dJx4a65c_add_72be8_2 ?_
  refine mi_top (v' := .int (nI (cap))) rfl ?_
  refine mi_icmp_ne (tgt := 11) S (by omega) (by omega) dJx4a65c_add_72be8_3 (by decide) (fun c3_0 => ?_) (fun c3_0 => by exfalso; omega)
  refine lv_aload_n S.1 S.2.1 dJx4a65c_add_72be8_11 rfl (lv_at hl 2 rfl) ?_
  refine lv_iload_n S.1 S.2.1 dJx4a65c_add_72be8_12 rfl (lv_at hl 3 rfl) ?_
  refine lv_aload_n S.1 S.2.1 dJx4a65c_add_72be8_13 rfl (lv_at hl 1 rfl) ?_
  refine mi_aast S E hS hW q ro ha0 hao hq0 hro hci hcast (by omega) (by omega) dJx4a65c_add_72be8_14 (fun H locs hW hS hz => ?_)
  obtain ⟨cf2, hcf2⟩ : ∃ z, z = va_up cf q (some (mi_aq D cap (va_up (f) n (some ao)))) := ⟨_, rfl⟩
  have hW : mi_W D A ad cf2 H := by rw [hcf2]; rw [← hao]; exact hW
  have he2_0 : cf2 r = some (.inr (0, [.int (mcn), .ref (a), .int (nI (n))])) := by rw [hcf2]; exact (mi_up_n hrq).trans hr0
  have he2_1 : cf2 ro = some (.inr (ci, fo)) := by rw [hcf2]; exact (mi_up_n hoq).trans hro
  have he2_r : cf2 q = some (mi_aq D cap (va_up (f) n (some ao))) := by rw [hcf2]; exact mi_up_s
  refine lv_aload_n S.1 S.2.1 dJx4a65c_add_72be8_15 rfl (lv_at hl 0 rfl) ?_
  refine lv_iload_n S.1 S.2.1 dJx4a65c_add_72be8_16 rfl (lv_at hl 3 rfl) ?_
  refine lv_iconst (v := nI 1) S.1 S.2.1 dJx4a65c_add_72be8_17 (by decide) ?_
  refine mi_iadd S dJx4a65c_add_72be8_18 ?_
  refine fp_Jx4a65c_48 S E hS hW r hra he2_0 (Nat.le_of_ble_eq_true rfl) dJx4a65c_add_72be8_19 (fun H locs hW hS hz => ?_)
  obtain ⟨cf3, hcf3⟩ : ∃ z, z = va_up cf2 r (some (.inr (0, [.int (mcn), .ref (a), .int (nI (n + 1))]))) := ⟨_, rfl⟩
  have hW : mi_W D A ad cf3 H := by rw [hcf3]; exact hW
  have he3_0 : cf3 ro = some (.inr (ci, fo)) := by rw [hcf3]; exact (mi_up_n hor).trans he2_1
  have he3_1 : cf3 q = some (mi_aq D cap (va_up (f) n (some ao))) := by rw [hcf3]; exact (mi_up_n (Ne.symm hrq)).trans he2_r
  have he3_r : cf3 r = some (.inr (0, [.int (mcn), .ref (a), .int (nI (n + 1))])) := by rw [hcf3]; exact mi_up_s
  exact mi_retMv S hr hk hS dJx4a65c_add_72be8_22 (by show _ ≤ (1 : Nat); omega) (by show _ ≤ (1000 : Nat); omega) (by rw [hcf3, hcf2] at hW; exact hW)
theorem mi_sw3 {α : Type} {cf : Nat → α} {q r : Nat} {e1 e2 e3 e4 : α} (h : r ≠ q) : va_up (va_up (va_up (va_up cf q e1) r e2) q e3) r e4 = va_up (va_up cf q e3) r e4 := by
  funext k
  by_cases hr : k = r
  · subst hr
    rw [mi_up_s, mi_up_s]
  · rw [mi_up_n hr, mi_up_n hr]
    by_cases hq : k = q
    · subst hq
      rw [mi_up_s, mi_up_s]
    · rw [mi_up_n hq, mi_up_n hq, mi_up_n hr, mi_up_n hq]
set_option maxHeartbeats 4000000 in
set_option maxRecDepth 100000 in
theorem c_add3_f (l : Launch) (D : va_G) (A : Nat → Prop)  (hAu : ∀ a b, A a → a ≤ b → A b){ad : Nat → Nat} {cf : Nat → Option va_E} {r q a b n : Nat} {mcn : Int32} {f : Nat → Option Nat} (hra : ad r = b) (ha0 : ad q = a) (hr0 : cf r = some (.inr (0, [.int mcn, .ref a, .int (nI n)]))) (hq0 : cf q = some (mi_aq D n f)) (hel : mi_els ad cf n f) (h10 : 10 ≤ n) (h60 : n ≤ 60) (hr9 : r ≠ 999) (hq9 : q ≠ 999) (hrq : r ≠ q) (hf9 : cf 999 = none) {ro ao ci : Nat} {fo : List Value} {xo : vw_C} (hao : ad ro = ao) (hro : cf ro = some (.inr (ci, fo))) (hci : vwCl[ci]? = some xo) (hcast : (xo.1, mi_ob) ∈ mi_casts) (hor : ro ≠ r) (hoq : ro ≠ q) (ho9 : ro ≠ 999) : mi_Mv l yJx4a65c_add_72be8 (Cond.code yJx4a65c_add_72be8 cJx4a65c_add_72be8 4 none) (mi_rq 5 1 1000) D A (mi_W D A ad cf) [.ref (b), .ref (ao), .ref (a), .int (nI (n))] 1 1000 (fun H => ∃ z, mi_W D A (va_up ad q z) (va_up (va_up cf q (some (mi_aq D (n + n / 2) (va_up (fun i => if i < n then f i else none) n (some ao))))) r (some (.inr (0, [.int mcn, .ref z, .int (nI (n + 1))])))) H) := by
  refine mi_start (cc := cJx4a65c_add_72be8) (nL := 4) (ret := none) rfl (by decide) (Nat.le_of_ble_eq_true rfl) ?_
  intro p e s m below meth c ls S E hW hS hr hk hn hl
  have S : CallFix p m c cJx4a65c_add_72be8 4 s _ ((Cond.code yJx4a65c_add_72be8 cJx4a65c_add_72be8 4 none) :: mi_G) RJx4a65c := S
  have hl : lv_has ls 4 [(0, .ref (b)), (1, .ref (ao)), (2, .ref (a)), (3, .int (nI (n)))] := hl
  refine lv_iload_n S.1 S.2.1 dJx4a65c_add_72be8_0 rfl (lv_at hl 3 rfl) ?_
  refine lv_aload_n S.1 S.2.1 dJx4a65c_add_72be8_1 rfl (lv_at hl 2 rfl) ?_
  refine mi_alen S E hW q 1 ha0 hq0 rfl dJx4a65c_add_72be8_2 ?_
  refine mi_top (v' := .int (nI (n))) rfl ?_
  refine mi_icmp_ne (tgt := 11) S (by omega) (by omega) dJx4a65c_add_72be8_3 (by decide) (fun c3_0 => by exfalso; exact absurd rfl c3_0) (fun c3_0 => ?_)
  refine lv_aload_n S.1 S.2.1 dJx4a65c_add_72be8_6 rfl (lv_at hl 0 rfl) ?_
  refine mi_cMr (mi_runV (P := mi_W D A ad cf) (As := []) (rest := []) S E hS hW b (c_grow0 l D A hAu hra ha0 hr0 hq0 hel h10 h60 hr9 hq9 hrq hf9) (hW.recvA E hra hr0 rfl) mw_119 mw_116 mw_118 mw_1 mw_21 ⟨by decide, by decide, by decide +kernel⟩ ⟨rfl, rfl, Nat.le_of_ble_eq_true rfl, Nat.le_of_ble_eq_true rfl⟩ (n := 0) rfl hl.1 rfl (Nat.le_of_ble_eq_true rfl) dJx4a65c_add_72be8_7 ⟨(by show _ ≤ (1 : Nat); omega), (by show _ ≤ (1000 : Nat); omega)⟩) hS (fun r9 H locs hW hS hz => ?_)
  obtain ⟨a2, rfl⟩ : ∃ z, z = r9 := ⟨_, rfl⟩
  obtain ⟨ad2, had2⟩ : ∃ z, z = va_up ad q a2 := ⟨_, rfl⟩
  obtain ⟨cf2, hcf2⟩ : ∃ z, z = va_up (va_up cf q (some (mi_aq D (n + n / 2) (fun i => if i < n then f i else none)))) r (some (.inr (0, [.int (mcn), .ref (a2), .int (nI (n))]))) := ⟨_, rfl⟩
  have hW : mi_W D A ad2 cf2 H := by rw [had2, hcf2]; exact hW
  have he2_0 : cf2 q = some (mi_aq D (n + n / 2) (fun i => if i < n then f i else none)) := by rw [hcf2]; rw [mi_up_n (Ne.symm hrq), mi_up_s]
  have ha2_0 : ad2 q = a2 := by rw [had2]; exact mi_up_s
  have he2_1 : cf2 r = some (.inr (0, [.int (mcn), .ref (a2), .int (nI (n))])) := by rw [hcf2]; exact mi_up_s
  have ha2_1 : ad2 r = b := by rw [had2]; exact (mi_up_n hrq).trans hra
  have he2_2 : cf2 ro = some (.inr (ci, fo)) := by rw [hcf2]; exact (mi_up_n hor).trans ((mi_up_n hoq).trans hro)
  have ha2_2 : ad2 ro = ao := by rw [had2]; exact (mi_up_n hoq).trans hao
  refine lv_astore_n (lv' := [(2, .ref (a2)), (0, .ref (b)), (1, .ref (ao)), (3, .int (nI (n)))]) S.1 S.2.1 dJx4a65c_add_72be8_10 rfl hl (by decide) rfl (fun ls hl => ?_)
  refine lv_aload_n S.1 S.2.1 dJx4a65c_add_72be8_11 rfl (lv_at hl 0 rfl) ?_
  refine lv_iload_n S.1 S.2.1 dJx4a65c_add_72be8_12 rfl (lv_at hl 3 rfl) ?_
  refine lv_aload_n S.1 S.2.1 dJx4a65c_add_72be8_13 rfl (lv_at hl 2 rfl) ?_
  refine mi_aast S E hS hW q ro ha2_0 ha2_2 he2_0 he2_2 hci hcast (by omega) (by omega) dJx4a65c_add_72be8_14 (fun H locs hW hS hz => ?_)
  obtain ⟨cf3, hcf3⟩ : ∃ z, z = va_up cf2 q (some (mi_aq D (n + n / 2) (va_up (fun i => if i < n then f i else none) n (some ao)))) := ⟨_, rfl⟩
  have hW : mi_W D A ad2 cf3 H := by rw [hcf3]; rw [← ha2_2]; exact hW
  have he3_0 : cf3 r = some (.inr (0, [.int (mcn), .ref (a2), .int (nI (n))])) := by rw [hcf3]; exact (mi_up_n hrq).trans he2_1
  have he3_1 : cf3 ro = some (.inr (ci, fo)) := by rw [hcf3]; exact (mi_up_n hoq).trans he2_2
  have he3_r : cf3 q = some (mi_aq D (n + n / 2) (va_up (fun i => if i < n then f i else none) n (some ao))) := by rw [hcf3]; exact mi_up_s
  refine lv_aload_n S.1 S.2.1 dJx4a65c_add_72be8_15 rfl (lv_at hl 1 rfl) ?_
  refine lv_iload_n S.1 S.2.1 dJx4a65c_add_72be8_16 rfl (lv_at hl 3 rfl) ?_
  refine lv_iconst (v := nI 1) S.1 S.2.1 dJx4a65c_add_72be8_17 (by decide) ?_
  refine mi_iadd S dJx4a65c_add_72be8_18 ?_
  refine fp_Jx4a65c_48 S E hS hW r ha2_1 he3_0 (Nat.le_of_ble_eq_true rfl) dJx4a65c_add_72be8_19 (fun H locs hW hS hz => ?_)
  obtain ⟨cf4, hcf4⟩ : ∃ z, z = va_up cf3 r (some (.inr (0, [.int (mcn), .ref (a2), .int (nI (n + 1))]))) := ⟨_, rfl⟩
  have hW : mi_W D A ad2 cf4 H := by rw [hcf4]; exact hW
  have he4_0 : cf4 ro = some (.inr (ci, fo)) := by rw [hcf4]; exact (mi_up_n hor).trans he3_1
  have he4_1 : cf4 q = some (mi_aq D (n + n / 2) (va_up (fun i => if i < n then f i else none) n (some ao))) := by rw [hcf4]; exact (mi_up_n (Ne.symm hrq)).trans he3_r
  have he4_r : cf4 r = some (.inr (0, [.int (mcn), .ref (a2), .int (nI (n + 1))])) := by rw [hcf4]; exact mi_up_s
  exact mi_retMv S hr hk hS dJx4a65c_add_72be8_22 (by show _ ≤ (1 : Nat); omega) (by show _ ≤ (1000 : Nat); omega) (⟨a2, by rw [had2, hcf4, hcf3, hcf2] at hW; rw [mi_sw3 hrq] at hW; exact hW⟩)
set_option maxHeartbeats 4000000 in
set_option maxRecDepth 100000 in
theorem c_add3_0 (l : Launch) (D : va_G) (A : Nat → Prop)  (hAu : ∀ a b, A a → a ≤ b → A b){ad : Nat → Nat} {cf : Nat → Option va_E} {r q b : Nat} {mcn : Int32} (hra : ad r = b) (hr0 : cf r = some (.inr (0, [.int mcn, .ref (mi_de D), .int (nI 0)]))) (hr9 : r ≠ 999) (hrq : r ≠ q) {ro ao ci : Nat} {fo : List Value} {xo : vw_C} (hao : ad ro = ao) (hro : cf ro = some (.inr (ci, fo))) (hci : vwCl[ci]? = some xo) (hcast : (xo.1, mi_ob) ∈ mi_casts) (hor : ro ≠ r) (hoq : ro ≠ q) (ho9 : ro ≠ 999) : mi_Mv l yJx4a65c_add_72be8 (Cond.code yJx4a65c_add_72be8 cJx4a65c_add_72be8 4 none) (mi_rq 5 1 1000) D A (mi_W D A ad cf) [.ref (b), .ref (ao), .ref (mi_de D), .int (nI (0))] 1 1000 (fun H => ∃ z, mi_W D A (va_up ad q z) (va_up (va_up cf q (some (mi_aq D 10 (va_up (fun _ => none) 0 (some ao))))) r (some (.inr (0, [.int mcn, .ref z, .int (nI (0 + 1))])))) H) := by
  refine mi_start (cc := cJx4a65c_add_72be8) (nL := 4) (ret := none) rfl (by decide) (Nat.le_of_ble_eq_true rfl) ?_
  intro p e s m below meth c ls S E hW hS hr hk hn hl
  have S : CallFix p m c cJx4a65c_add_72be8 4 s _ ((Cond.code yJx4a65c_add_72be8 cJx4a65c_add_72be8 4 none) :: mi_G) RJx4a65c := S
  have hl : lv_has ls 4 [(0, .ref (b)), (1, .ref (ao)), (2, .ref (mi_de D)), (3, .int (nI (0)))] := hl
  refine lv_iload_n S.1 S.2.1 dJx4a65c_add_72be8_0 rfl (lv_at hl 3 rfl) ?_
  refine lv_aload_n S.1 S.2.1 dJx4a65c_add_72be8_1 rfl (lv_at hl 2 rfl) ?_
  refine mi_delen S E hS dJx4a65c_add_72be8_2 ?_
  refine mi_icmp_ne (tgt := 11) S (by omega) (by omega) dJx4a65c_add_72be8_3 (by decide) (fun c3_0 => by exfalso; exact absurd rfl c3_0) (fun c3_0 => ?_)
  refine lv_aload_n S.1 S.2.1 dJx4a65c_add_72be8_6 rfl (lv_at hl 0 rfl) ?_
  refine mi_cMr (mi_runV (P := mi_W D A ad cf) (As := []) (rest := []) S E hS hW b (c_grow0_0 l D A hAu hra hr0 hr9 hrq) (hW.recvA E hra hr0 rfl) mw_119 mw_116 mw_118 mw_1 mw_21 ⟨by decide, by decide, by decide +kernel⟩ ⟨rfl, rfl, Nat.le_of_ble_eq_true rfl, Nat.le_of_ble_eq_true rfl⟩ (n := 0) rfl hl.1 rfl (Nat.le_of_ble_eq_true rfl) dJx4a65c_add_72be8_7 ⟨(by show _ ≤ (1 : Nat); omega), (by show _ ≤ (1000 : Nat); omega)⟩) hS (fun r9 H locs hW hS hz => ?_)
  obtain ⟨a2, rfl⟩ : ∃ z, z = r9 := ⟨_, rfl⟩
  obtain ⟨ad2, had2⟩ : ∃ z, z = va_up ad q a2 := ⟨_, rfl⟩
  obtain ⟨cf2, hcf2⟩ : ∃ z, z = va_up (va_up cf q (some (mi_aq D 10 (fun _ => none)))) r (some (.inr (0, [.int (mcn), .ref (a2), .int (nI (0))]))) := ⟨_, rfl⟩
  have hW : mi_W D A ad2 cf2 H := by rw [had2, hcf2]; exact hW
  have he2_0 : cf2 q = some (mi_aq D 10 (fun _ => none)) := by rw [hcf2]; rw [mi_up_n (Ne.symm hrq), mi_up_s]
  have ha2_0 : ad2 q = a2 := by rw [had2]; exact mi_up_s
  have he2_1 : cf2 r = some (.inr (0, [.int (mcn), .ref (a2), .int (nI (0))])) := by rw [hcf2]; exact mi_up_s
  have ha2_1 : ad2 r = b := by rw [had2]; exact (mi_up_n hrq).trans hra
  have he2_2 : cf2 ro = some (.inr (ci, fo)) := by rw [hcf2]; exact (mi_up_n hor).trans ((mi_up_n hoq).trans hro)
  have ha2_2 : ad2 ro = ao := by rw [had2]; exact (mi_up_n hoq).trans hao
  refine lv_astore_n (lv' := [(2, .ref (a2)), (0, .ref (b)), (1, .ref (ao)), (3, .int (nI (0)))]) S.1 S.2.1 dJx4a65c_add_72be8_10 rfl hl (by decide) rfl (fun ls hl => ?_)
  refine lv_aload_n S.1 S.2.1 dJx4a65c_add_72be8_11 rfl (lv_at hl 0 rfl) ?_
  refine lv_iload_n S.1 S.2.1 dJx4a65c_add_72be8_12 rfl (lv_at hl 3 rfl) ?_
  refine lv_aload_n S.1 S.2.1 dJx4a65c_add_72be8_13 rfl (lv_at hl 2 rfl) ?_
  refine mi_aast S E hS hW q ro ha2_0 ha2_2 he2_0 he2_2 hci hcast (by omega) (by omega) dJx4a65c_add_72be8_14 (fun H locs hW hS hz => ?_)
  obtain ⟨cf3, hcf3⟩ : ∃ z, z = va_up cf2 q (some (mi_aq D 10 (va_up (fun _ => none) 0 (some ao)))) := ⟨_, rfl⟩
  have hW : mi_W D A ad2 cf3 H := by rw [hcf3]; rw [← ha2_2]; exact hW
  have he3_0 : cf3 r = some (.inr (0, [.int (mcn), .ref (a2), .int (nI (0))])) := by rw [hcf3]; exact (mi_up_n hrq).trans he2_1
  have he3_1 : cf3 ro = some (.inr (ci, fo)) := by rw [hcf3]; exact (mi_up_n hoq).trans he2_2
  have he3_r : cf3 q = some (mi_aq D 10 (va_up (fun _ => none) 0 (some ao))) := by rw [hcf3]; exact mi_up_s
  refine lv_aload_n S.1 S.2.1 dJx4a65c_add_72be8_15 rfl (lv_at hl 1 rfl) ?_
  refine lv_iload_n S.1 S.2.1 dJx4a65c_add_72be8_16 rfl (lv_at hl 3 rfl) ?_
  refine lv_iconst (v := nI 1) S.1 S.2.1 dJx4a65c_add_72be8_17 (by decide) ?_
  refine mi_iadd S dJx4a65c_add_72be8_18 ?_
  refine fp_Jx4a65c_48 S E hS hW r ha2_1 he3_0 (Nat.le_of_ble_eq_true rfl) dJx4a65c_add_72be8_19 (fun H locs hW hS hz => ?_)
  obtain ⟨cf4, hcf4⟩ : ∃ z, z = va_up cf3 r (some (.inr (0, [.int (mcn), .ref (a2), .int (nI (0 + 1))]))) := ⟨_, rfl⟩
  have hW : mi_W D A ad2 cf4 H := by rw [hcf4]; exact hW
  have he4_0 : cf4 ro = some (.inr (ci, fo)) := by rw [hcf4]; exact (mi_up_n hor).trans he3_1
  have he4_1 : cf4 q = some (mi_aq D 10 (va_up (fun _ => none) 0 (some ao))) := by rw [hcf4]; exact (mi_up_n (Ne.symm hrq)).trans he3_r
  have he4_r : cf4 r = some (.inr (0, [.int (mcn), .ref (a2), .int (nI (0 + 1))])) := by rw [hcf4]; exact mi_up_s
  exact mi_retMv S hr hk hS dJx4a65c_add_72be8_22 (by show _ ≤ (1 : Nat); omega) (by show _ ≤ (1000 : Nat); omega) (⟨a2, by rw [had2, hcf4, hcf3, hcf2] at hW; rw [mi_sw3 hrq] at hW; exact hW⟩)
theorem mi_sw2 {α : Type} {cf : Nat → α} {q r : Nat} {e1 e2 e3 : α} (h : r ≠ q) : va_up (va_up (va_up cf r e1) q e2) r e3 = va_up (va_up cf q e2) r e3 := by
  funext k
  by_cases hr : k = r
  · subst hr
    rw [mi_up_s, mi_up_s]
  · rw [mi_up_n hr, mi_up_n hr]
    by_cases hq : k = q
    · subst hq
      rw [mi_up_s, mi_up_s]
    · rw [mi_up_n hq, mi_up_n hq, mi_up_n hr]
theorem mi_els_up {ad : Nat → Nat} {cf cf1 : Nat → Option va_E} {n r : Nat} {f : Nat → Option Nat} {e : va_E} (h : mi_els ad cf n f) (h1 : cf1 = va_up cf r (some e)) (hr : ∀ i, i < n → f i ≠ some (ad r)) : mi_els ad cf1 n f := by
  intro i hi y hy
  obtain ⟨ro, ci, fs, q9, e1, e2, e3, e4⟩ := h i hi y hy
  have hro : ro ≠ r := fun z => hr i hi (by rw [hy, e1, z])
  exact ⟨ro, ci, fs, q9, e1, by rw [h1, mi_up_n hro]; exact e2, e3, e4⟩
set_option maxHeartbeats 4000000 in
set_option maxRecDepth 100000 in
theorem c_add (l : Launch) (D : va_G) (A : Nat → Prop)  (hAu : ∀ a b, A a → a ≤ b → A b){ad : Nat → Nat} {cf : Nat → Option va_E} {r q a b n cap : Nat} {mcn : Int32} {f : Nat → Option Nat} (hra : ad r = b) (ha0 : ad q = a) (hr0 : cf r = some (.inr (0, [.int mcn, .ref a, .int (nI n)]))) (hq0 : cf q = some (mi_aq D cap f)) (hnc : n < cap) (hcap : cap ≤ 1000) (hr9 : r ≠ 999) (hq9 : q ≠ 999) (hrq : r ≠ q) {ro ao ci : Nat} {fo : List Value} {xo : vw_C} (hao : ad ro = ao) (hro : cf ro = some (.inr (ci, fo))) (hci : vwCl[ci]? = some xo) (hcast : (xo.1, mi_ob) ∈ mi_casts) (hor : ro ≠ r) (hoq : ro ≠ q) (ho9 : ro ≠ 999) : mi_Mi l yJx4a65c_add_9ea2d (Cond.code yJx4a65c_add_9ea2d cJx4a65c_add_9ea2d 2 (some Jvm.ClassFile.FieldType.boolean)) (mi_rq 6 1 1000) D A (mi_W D A ad cf) [.ref (b), .ref (ao)] 1 1000 (fun x H => x = 1 ∧ mi_W D A ad (va_up (va_up cf q (some (mi_aq D cap (va_up f n (some ao))))) r (some (.inr (0, [.int (mcn + nI 1), .ref a, .int (nI (n + 1))])))) H) := by
  refine mi_start (cc := cJx4a65c_add_9ea2d) (nL := 2) (ret := (some Jvm.ClassFile.FieldType.boolean)) rfl (by decide) (Nat.le_of_ble_eq_true rfl) ?_
  intro p e s m below meth c ls S E hW hS hr hk hn hl
  have S : CallFix p m c cJx4a65c_add_9ea2d 2 s _ ((Cond.code yJx4a65c_add_9ea2d cJx4a65c_add_9ea2d 2 (some Jvm.ClassFile.FieldType.boolean)) :: mi_G) RJx4a65c := S
  have hl : lv_has ls 2 [(0, .ref (b)), (1, .ref (ao))] := hl
  refine lv_aload_n S.1 S.2.1 dJx4a65c_add_9ea2d_0 rfl (lv_at hl 0 rfl) ?_
  refine lv_dup S.1 S.2.1 dJx4a65c_add_9ea2d_1 rfl ?_
  refine fg_Jx4a65c_63 S E hW r hra hr0 rfl dJx4a65c_add_9ea2d_2 ?_
  refine lv_iconst (v := nI 1) S.1 S.2.1 dJx4a65c_add_9ea2d_5 (by decide) ?_
  refine lv_iadd S.1 S.2.1 dJx4a65c_add_9ea2d_6 ?_
  refine fp_Jx4a65c_63 S E hS hW r hra hr0 (Nat.le_of_ble_eq_true rfl) dJx4a65c_add_9ea2d_7 (fun H locs hW hS hz => ?_)
  obtain ⟨cf1, hcf1⟩ : ∃ z, z = va_up cf r (some (.inr (0, [.int (mcn + (nI (1))), .ref (a), .int (nI (n))]))) := ⟨_, rfl⟩
  have hW : mi_W D A ad cf1 H := by rw [hcf1]; exact hW
  have he1_0 : cf1 q = some (mi_aq D cap (f)) := by rw [hcf1]; exact (mi_up_n (Ne.symm hrq)).trans hq0
  have he1_1 : cf1 ro = some (.inr (ci, fo)) := by rw [hcf1]; exact (mi_up_n hor).trans hro
  have he1_r : cf1 r = some (.inr (0, [.int (mcn + (nI (1))), .ref (a), .int (nI (n))])) := by rw [hcf1]; exact mi_up_s
  refine lv_aload_n S.1 S.2.1 dJx4a65c_add_9ea2d_10 rfl (lv_at hl 0 rfl) ?_
  refine lv_aload_n S.1 S.2.1 dJx4a65c_add_9ea2d_11 rfl (lv_at hl 1 rfl) ?_
  refine lv_aload_n S.1 S.2.1 dJx4a65c_add_9ea2d_12 rfl (lv_at hl 0 rfl) ?_
  refine fg_Jx4a65c_9 S E hW r hra he1_r rfl dJx4a65c_add_9ea2d_13 ?_
  refine lv_aload_n S.1 S.2.1 dJx4a65c_add_9ea2d_16 rfl (lv_at hl 0 rfl) ?_
  refine fg_Jx4a65c_48 S E hW r hra he1_r rfl dJx4a65c_add_9ea2d_17 ?_
  refine mi_cMv (mi_runV (P := mi_W D A ad cf1) (As := [.ref (ao), .ref (a), .int (nI (n))]) (rest := []) S E hS hW b (c_add3 l D A hAu hra ha0 he1_r he1_0 hnc hcap hr9 hq9 hrq hao he1_1 hci hcast hor hoq ho9) (hW.recvA E hra he1_r rfl) mw_115 mw_112 mw_114 mw_0 mw_21 ⟨by decide, by decide, by decide +kernel⟩ ⟨rfl, rfl, Nat.le_of_ble_eq_true rfl, Nat.le_of_ble_eq_true rfl⟩ (n := 3) rfl hl.1 rfl (Nat.le_of_ble_eq_true rfl) dJx4a65c_add_9ea2d_20 ⟨(by show _ ≤ (1 : Nat); omega), (by show _ ≤ (1000 : Nat); omega)⟩) hS (fun H locs hW hS hz => ?_)
  refine lv_iconst (v := nI 1) S.1 S.2.1 dJx4a65c_add_9ea2d_23 (by decide) ?_
  refine mi_retMz S hr hk hS dJx4a65c_add_9ea2d_24 rfl (by show _ ≤ (1 : Nat); omega) (by show _ ≤ (1000 : Nat); omega) ?_
  rw [hcf1, mi_sw2 hrq] at hW
  exact ⟨rfl, hW⟩
set_option maxHeartbeats 4000000 in
set_option maxRecDepth 100000 in
theorem c_add_f (l : Launch) (D : va_G) (A : Nat → Prop)  (hAu : ∀ a b, A a → a ≤ b → A b){ad : Nat → Nat} {cf : Nat → Option va_E} {r q a b n : Nat} {mcn : Int32} {f : Nat → Option Nat} (hra : ad r = b) (ha0 : ad q = a) (hr0 : cf r = some (.inr (0, [.int mcn, .ref a, .int (nI n)]))) (hq0 : cf q = some (mi_aq D n f)) (hel : mi_els ad cf n f) (h10 : 10 ≤ n) (h60 : n ≤ 60) (hr9 : r ≠ 999) (hq9 : q ≠ 999) (hrq : r ≠ q) (hf9 : cf 999 = none) {ro ao ci : Nat} {fo : List Value} {xo : vw_C} (hao : ad ro = ao) (hro : cf ro = some (.inr (ci, fo))) (hci : vwCl[ci]? = some xo) (hcast : (xo.1, mi_ob) ∈ mi_casts) (hor : ro ≠ r) (hoq : ro ≠ q) (ho9 : ro ≠ 999) (hrE : ∀ i, i < n → f i ≠ some (ad r)) : mi_Mi l yJx4a65c_add_9ea2d (Cond.code yJx4a65c_add_9ea2d cJx4a65c_add_9ea2d 2 (some Jvm.ClassFile.FieldType.boolean)) (mi_rq 6 1 1000) D A (mi_W D A ad cf) [.ref (b), .ref (ao)] 1 1000 (fun x H => x = 1 ∧ ∃ z, mi_W D A (va_up ad q z) (va_up (va_up cf q (some (mi_aq D (n + n / 2) (va_up (fun i => if i < n then f i else none) n (some ao))))) r (some (.inr (0, [.int (mcn + nI 1), .ref z, .int (nI (n + 1))])))) H) := by
  refine mi_start (cc := cJx4a65c_add_9ea2d) (nL := 2) (ret := (some Jvm.ClassFile.FieldType.boolean)) rfl (by decide) (Nat.le_of_ble_eq_true rfl) ?_
  intro p e s m below meth c ls S E hW hS hr hk hn hl
  have S : CallFix p m c cJx4a65c_add_9ea2d 2 s _ ((Cond.code yJx4a65c_add_9ea2d cJx4a65c_add_9ea2d 2 (some Jvm.ClassFile.FieldType.boolean)) :: mi_G) RJx4a65c := S
  have hl : lv_has ls 2 [(0, .ref (b)), (1, .ref (ao))] := hl
  refine lv_aload_n S.1 S.2.1 dJx4a65c_add_9ea2d_0 rfl (lv_at hl 0 rfl) ?_
  refine lv_dup S.1 S.2.1 dJx4a65c_add_9ea2d_1 rfl ?_
  refine fg_Jx4a65c_63 S E hW r hra hr0 rfl dJx4a65c_add_9ea2d_2 ?_
  refine lv_iconst (v := nI 1) S.1 S.2.1 dJx4a65c_add_9ea2d_5 (by decide) ?_
  refine lv_iadd S.1 S.2.1 dJx4a65c_add_9ea2d_6 ?_
  refine fp_Jx4a65c_63 S E hS hW r hra hr0 (Nat.le_of_ble_eq_true rfl) dJx4a65c_add_9ea2d_7 (fun H locs hW hS hz => ?_)
  obtain ⟨cf1, hcf1⟩ : ∃ z, z = va_up cf r (some (.inr (0, [.int (mcn + (nI (1))), .ref (a), .int (nI (n))]))) := ⟨_, rfl⟩
  have hW : mi_W D A ad cf1 H := by rw [hcf1]; exact hW
  have he1_0 : cf1 q = some (mi_aq D n (f)) := by rw [hcf1]; exact (mi_up_n (Ne.symm hrq)).trans hq0
  have he1_1 : cf1 ro = some (.inr (ci, fo)) := by rw [hcf1]; exact (mi_up_n hor).trans hro
  have he1_r : cf1 r = some (.inr (0, [.int (mcn + (nI (1))), .ref (a), .int (nI (n))])) := by rw [hcf1]; exact mi_up_s
  refine lv_aload_n S.1 S.2.1 dJx4a65c_add_9ea2d_10 rfl (lv_at hl 0 rfl) ?_
  refine lv_aload_n S.1 S.2.1 dJx4a65c_add_9ea2d_11 rfl (lv_at hl 1 rfl) ?_
  refine lv_aload_n S.1 S.2.1 dJx4a65c_add_9ea2d_12 rfl (lv_at hl 0 rfl) ?_
  refine fg_Jx4a65c_9 S E hW r hra he1_r rfl dJx4a65c_add_9ea2d_13 ?_
  refine lv_aload_n S.1 S.2.1 dJx4a65c_add_9ea2d_16 rfl (lv_at hl 0 rfl) ?_
  refine fg_Jx4a65c_48 S E hW r hra he1_r rfl dJx4a65c_add_9ea2d_17 ?_
  refine mi_cMv (mi_runV (P := mi_W D A ad cf1) (As := [.ref (ao), .ref (a), .int (nI (n))]) (rest := []) S E hS hW b (c_add3_f l D A hAu hra ha0 he1_r he1_0 (mi_els_up hel hcf1 hrE) h10 h60 hr9 hq9 hrq ((congrFun hcf1 999).trans ((mi_up_n (Ne.symm hr9)).trans hf9)) hao he1_1 hci hcast hor hoq ho9) (hW.recvA E hra he1_r rfl) mw_115 mw_112 mw_114 mw_0 mw_21 ⟨by decide, by decide, by decide +kernel⟩ ⟨rfl, rfl, Nat.le_of_ble_eq_true rfl, Nat.le_of_ble_eq_true rfl⟩ (n := 3) rfl hl.1 rfl (Nat.le_of_ble_eq_true rfl) dJx4a65c_add_9ea2d_20 ⟨(by show _ ≤ (1 : Nat); omega), (by show _ ≤ (1000 : Nat); omega)⟩) hS (fun H locs hW hS hz => ?_)
  refine lv_iconst (v := nI 1) S.1 S.2.1 dJx4a65c_add_9ea2d_23 (by decide) ?_
  refine mi_retMz S hr hk hS dJx4a65c_add_9ea2d_24 rfl (by show _ ≤ (1 : Nat); omega) (by show _ ≤ (1000 : Nat); omega) ?_
  obtain ⟨z, hW⟩ := hW
  rw [hcf1, mi_sw2 hrq] at hW
  exact ⟨rfl, z, hW⟩
set_option maxHeartbeats 4000000 in
set_option maxRecDepth 100000 in
theorem c_add_0 (l : Launch) (D : va_G) (A : Nat → Prop)  (hAu : ∀ a b, A a → a ≤ b → A b){ad : Nat → Nat} {cf : Nat → Option va_E} {r q b : Nat} {mcn : Int32} (hra : ad r = b) (hr0 : cf r = some (.inr (0, [.int mcn, .ref (mi_de D), .int (nI 0)]))) (hr9 : r ≠ 999) (hrq : r ≠ q) {ro ao ci : Nat} {fo : List Value} {xo : vw_C} (hao : ad ro = ao) (hro : cf ro = some (.inr (ci, fo))) (hci : vwCl[ci]? = some xo) (hcast : (xo.1, mi_ob) ∈ mi_casts) (hor : ro ≠ r) (hoq : ro ≠ q) (ho9 : ro ≠ 999) : mi_Mi l yJx4a65c_add_9ea2d (Cond.code yJx4a65c_add_9ea2d cJx4a65c_add_9ea2d 2 (some Jvm.ClassFile.FieldType.boolean)) (mi_rq 6 1 1000) D A (mi_W D A ad cf) [.ref (b), .ref (ao)] 1 1000 (fun x H => x = 1 ∧ ∃ z, mi_W D A (va_up ad q z) (va_up (va_up cf q (some (mi_aq D 10 (va_up (fun _ => none) 0 (some ao))))) r (some (.inr (0, [.int (mcn + nI 1), .ref z, .int (nI (0 + 1))])))) H) := by
  refine mi_start (cc := cJx4a65c_add_9ea2d) (nL := 2) (ret := (some Jvm.ClassFile.FieldType.boolean)) rfl (by decide) (Nat.le_of_ble_eq_true rfl) ?_
  intro p e s m below meth c ls S E hW hS hr hk hn hl
  have S : CallFix p m c cJx4a65c_add_9ea2d 2 s _ ((Cond.code yJx4a65c_add_9ea2d cJx4a65c_add_9ea2d 2 (some Jvm.ClassFile.FieldType.boolean)) :: mi_G) RJx4a65c := S
  have hl : lv_has ls 2 [(0, .ref (b)), (1, .ref (ao))] := hl
  refine lv_aload_n S.1 S.2.1 dJx4a65c_add_9ea2d_0 rfl (lv_at hl 0 rfl) ?_
  refine lv_dup S.1 S.2.1 dJx4a65c_add_9ea2d_1 rfl ?_
  refine fg_Jx4a65c_63 S E hW r hra hr0 rfl dJx4a65c_add_9ea2d_2 ?_
  refine lv_iconst (v := nI 1) S.1 S.2.1 dJx4a65c_add_9ea2d_5 (by decide) ?_
  refine lv_iadd S.1 S.2.1 dJx4a65c_add_9ea2d_6 ?_
  refine fp_Jx4a65c_63 S E hS hW r hra hr0 (Nat.le_of_ble_eq_true rfl) dJx4a65c_add_9ea2d_7 (fun H locs hW hS hz => ?_)
  obtain ⟨cf1, hcf1⟩ : ∃ z, z = va_up cf r (some (.inr (0, [.int (mcn + (nI (1))), .ref (mi_de D), .int (nI (0))]))) := ⟨_, rfl⟩
  have hW : mi_W D A ad cf1 H := by rw [hcf1]; exact hW
  have he1_0 : cf1 ro = some (.inr (ci, fo)) := by rw [hcf1]; exact (mi_up_n hor).trans hro
  have he1_r : cf1 r = some (.inr (0, [.int (mcn + (nI (1))), .ref (mi_de D), .int (nI (0))])) := by rw [hcf1]; exact mi_up_s
  refine lv_aload_n S.1 S.2.1 dJx4a65c_add_9ea2d_10 rfl (lv_at hl 0 rfl) ?_
  refine lv_aload_n S.1 S.2.1 dJx4a65c_add_9ea2d_11 rfl (lv_at hl 1 rfl) ?_
  refine lv_aload_n S.1 S.2.1 dJx4a65c_add_9ea2d_12 rfl (lv_at hl 0 rfl) ?_
  refine fg_Jx4a65c_9 S E hW r hra he1_r rfl dJx4a65c_add_9ea2d_13 ?_
  refine lv_aload_n S.1 S.2.1 dJx4a65c_add_9ea2d_16 rfl (lv_at hl 0 rfl) ?_
  refine fg_Jx4a65c_48 S E hW r hra he1_r rfl dJx4a65c_add_9ea2d_17 ?_
  refine mi_cMv (mi_runV (P := mi_W D A ad cf1) (As := [.ref (ao), .ref (mi_de D), .int (nI (0))]) (rest := []) S E hS hW b (c_add3_0 l D A hAu hra he1_r hr9 hrq hao he1_0 hci hcast hor hoq ho9) (hW.recvA E hra he1_r rfl) mw_115 mw_112 mw_114 mw_0 mw_21 ⟨by decide, by decide, by decide +kernel⟩ ⟨rfl, rfl, Nat.le_of_ble_eq_true rfl, Nat.le_of_ble_eq_true rfl⟩ (n := 3) rfl hl.1 rfl (Nat.le_of_ble_eq_true rfl) dJx4a65c_add_9ea2d_20 ⟨(by show _ ≤ (1 : Nat); omega), (by show _ ≤ (1000 : Nat); omega)⟩) hS (fun H locs hW hS hz => ?_)
  refine lv_iconst (v := nI 1) S.1 S.2.1 dJx4a65c_add_9ea2d_23 (by decide) ?_
  refine mi_retMz S hr hk hS dJx4a65c_add_9ea2d_24 rfl (by show _ ≤ (1 : Nat); omega) (by show _ ≤ (1000 : Nat); omega) ?_
  obtain ⟨z, hW⟩ := hW
  rw [hcf1, mi_sw2 hrq] at hW
  exact ⟨rfl, z, hW⟩
