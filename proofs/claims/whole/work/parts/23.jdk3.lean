/-! ArrayList grows and takes an element -/
theorem mi_cpy_new (f : Nat → Option Nat) (n : Nat) : va_cpy f (fun _ => none) 0 0 n = (fun i => if i < n then f i else none) := by
  funext k
  unfold va_cpy
  by_cases h : k < n
  · rw [if_pos (by omega), if_pos h, Nat.zero_add, Nat.sub_zero]
  · rw [if_neg (by omega), if_neg h]
set_option maxHeartbeats 4000000 in
set_option maxRecDepth 100000 in
theorem c_copyOf3 (l : Launch) (D : va_G) (A : Nat → Prop)  (hAu : ∀ a b, A a → a ≤ b → A b){ad : Nat → Nat} {cf : Nat → Option va_E} {q a n nk : Nat} {f : Nat → Option Nat} (ha0 : ad q = a) (hq0 : cf q = some (mi_aq D n f)) (hel : mi_els ad cf n f) (hnm : n ≤ nk) (hm9 : nk ≤ 1000) (hq9 : q ≠ 999) (hf9 : cf 999 = none) : mi_Mr l yJ7_copyOf_6403c (Cond.code yJ7_copyOf_6403c cJ7_copyOf_6403c 4 (some (Jvm.ClassFile.FieldType.array (Jvm.ClassFile.FieldType.object "java/lang/Object")))) (mi_rq 1 1 1000) D A (mi_W D A ad cf) [.ref (a), .int (nI (nk)), .ref (mi_mi D)] 1 1000 (fun r H => mi_W D A (va_up ad 999 r) (va_up cf 999 (some (mi_aq D nk (fun i => if i < n then f i else none)))) H) := by
  refine mi_start (cc := cJ7_copyOf_6403c) (nL := 4) (ret := (some (Jvm.ClassFile.FieldType.array (Jvm.ClassFile.FieldType.object "java/lang/Object")))) rfl (by decide) (Nat.le_of_ble_eq_true rfl) ?_
  intro p e s m below meth c ls S E hW hS hr hk hn hl
  have S : CallFix p m c cJ7_copyOf_6403c 4 s _ ((Cond.code yJ7_copyOf_6403c cJ7_copyOf_6403c 4 (some (Jvm.ClassFile.FieldType.array (Jvm.ClassFile.FieldType.object "java/lang/Object")))) :: mi_G) RJ7 := S
  have hl : lv_has ls 4 [(0, .ref (a)), (1, .int (nI (nk))), (2, .ref (mi_mi D))] := hl
  have hA : ∀ q, s.heap.size ≤ q → A q := hW.up hAu hq0
  refine lv_aload_n S.1 S.2.1 dJ7_copyOf_6403c_0 rfl (lv_at hl 2 rfl) ?_
  refine mi_ldcM S E (List.mem_cons_of_mem _ mw_170) dJ7_copyOf_6403c_1 ?_
  refine mi_acmp_ne (tgt := 13) S dJ7_copyOf_6403c_3 (by decide) (fun c3_0 => by exfalso; exact absurd rfl c3_0) (fun c3_0 => ?_)
  refine lv_iload_n S.1 S.2.1 dJ7_copyOf_6403c_6 rfl (lv_at hl 1 rfl) ?_
  obtain ⟨a2, hn2⟩ : ∃ z, z = s.heap.size := ⟨_, rfl⟩
  refine mi_newq S E hS hA hW 999 (List.mem_cons_of_mem _ mw_172) (by omega) (by show _ ≤ (1 : Nat); omega) (by show _ ≤ (1000 : Nat); omega) dJ7_copyOf_6403c_7 (fun H9 hW hS hz => ?_)
  rw [← hn2] at hW hz ⊢
  obtain ⟨H, rfl⟩ : ∃ z, z = H9 := ⟨_, rfl⟩
  obtain ⟨ad2, had2⟩ : ∃ z, z = va_up ad 999 a2 := ⟨_, rfl⟩
  obtain ⟨cf2, hcf2⟩ : ∃ z, z = va_up cf 999 (some (mi_aq D nk (fun _ => none))) := ⟨_, rfl⟩
  have hW : mi_W D A ad2 cf2 H := by rw [had2, hcf2]; exact hW
  have he2_0 : cf2 q = some (mi_aq D n (f)) := by rw [hcf2]; exact (mi_up_n hq9).trans hq0
  have ha2_0 : ad2 q = a := by rw [had2]; exact (mi_up_n hq9).trans ha0
  have he2_r : cf2 999 = some (mi_aq D nk (fun _ => none)) := by rw [hcf2]; exact mi_up_s
  have ha2_r : ad2 999 = a2 := by rw [had2]; exact mi_up_s
  refine lv_goto (tgt := 24) S.1 S.2.1 dJ7_copyOf_6403c_10 (by decide) ?_
  refine lv_astore_n (lv' := [(3, .ref (a2)), (0, .ref (a)), (1, .int (nI (nk))), (2, .ref (mi_mi D))]) S.1 S.2.1 dJ7_copyOf_6403c_24 rfl hl (by decide) rfl (fun ls hl => ?_)
  refine lv_aload_n S.1 S.2.1 dJ7_copyOf_6403c_25 rfl (lv_at hl 1 rfl) ?_
  refine lv_iconst (v := nI 0) S.1 S.2.1 dJ7_copyOf_6403c_26 (by decide) ?_
  refine lv_aload_n S.1 S.2.1 dJ7_copyOf_6403c_27 rfl (lv_at hl 0 rfl) ?_
  refine lv_iconst (v := nI 0) S.1 S.2.1 dJ7_copyOf_6403c_28 (by decide) ?_
  refine lv_aload_n S.1 S.2.1 dJ7_copyOf_6403c_29 rfl (lv_at hl 1 rfl) ?_
  refine mi_alen S E hW q 1 ha2_0 he2_0 rfl dJ7_copyOf_6403c_30 ?_
  refine mi_top (v' := .int (nI (n))) rfl ?_
  refine lv_iload_n S.1 S.2.1 dJ7_copyOf_6403c_31 rfl (lv_at hl 2 rfl) ?_
  refine mi_mmin S (by omega) (by omega) (List.mem_cons_of_mem _ mw_173) (List.mem_cons_of_mem _ mw_174) (List.mem_cons_of_mem _ mw_40) (List.mem_cons_of_mem _ mk_min) hl.1 (Nat.le_of_ble_eq_true rfl) (Nat.le_of_ble_eq_true rfl) (by show _ ≤ (1 : Nat); omega) (by show _ ≤ (1000 : Nat); omega) dJ7_copyOf_6403c_32 ?_
  refine mi_top (v' := .int (nI (n))) (by rw [if_neg (by omega)]) ?_
  have hel2 : mi_els ad2 cf2 n f := fun i hi y hy => by
    obtain ⟨ro, ci, fs, q9, e1, e2, e3, e4⟩ := hel i hi y hy
    have hro : ro ≠ 999 := fun z => by rw [z, hf9] at e2; cases e2
    exact ⟨ro, ci, fs, q9, by rw [had2, mi_up_n hro]; exact e1, by rw [hcf2, mi_up_n hro]; exact e2, e3, e4⟩
  refine mi_copy S E hS hW q 999 ha2_0 ha2_r hq9 he2_0 he2_r (Nat.le_refl _) hnm (by omega) (by omega) hel2 hl.1 (List.mem_cons_of_mem _ mw_176) (List.mem_cons_of_mem _ mw_178) (List.mem_cons_of_mem _ mw_177) (List.mem_cons_of_mem _ mw_42) (Nat.le_of_ble_eq_true rfl) (by decide +kernel) dJ7_copyOf_6403c_35 (fun H locs hW hS hz => ?_)
  obtain ⟨cf3, hcf3⟩ : ∃ z, z = va_up cf2 999 (some (mi_aq D nk (fun i => if i < n then f i else none))) := ⟨_, rfl⟩
  have hW : mi_W D A ad2 cf3 H := by rw [hcf3]; rw [mi_cpy_new] at hW; exact hW
  have he3_0 : cf3 q = some (mi_aq D n (f)) := by rw [hcf3]; exact (mi_up_n hq9).trans he2_0
  have he3_r : cf3 999 = some (mi_aq D nk (fun i => if i < n then f i else none)) := by rw [hcf3]; exact mi_up_s
  refine lv_aload_n S.1 S.2.1 dJ7_copyOf_6403c_38 rfl (lv_at hl 0 rfl) ?_
  exact mi_retMr S hr (Or.inr ⟨_, rfl⟩) hk hS dJ7_copyOf_6403c_39 (by show _ ≤ (1 : Nat); omega) (by show _ ≤ (1000 : Nat); omega) (by rw [had2, hcf3, hcf2, mi_up_up] at hW; exact hW)
