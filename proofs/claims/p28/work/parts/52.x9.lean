/-! dies and coins: heights copied, a die made, worn -/
theorem mi_W.row {D : va_G} {A : Nat → Prop} {ad : Nat → Nat} {cf : Nat → Option va_E} {t n : Nat} {f g : Nat → Int32} {H : Heap} (h : mi_W D A ad (va_up cf t (some (mi_ai D n f))) H) (e : ∀ j, j < n → f j = g j) : mi_W D A ad (va_up cf t (some (mi_ai D n g))) H := by
  refine h.ext (fun r x hx => ?_)
  by_cases z : r = t
  · subst z
    rw [mi_up_s] at hx
    exact Or.inr ⟨n, f, g, (Option.some.inj hx).symm, mi_up_s, e⟩
  · rw [mi_up_n z] at hx
    exact Or.inl ((mi_up_n z).trans hx)
theorem c_heightOfA (l : Launch) (D : va_G) (A : Nat → Prop) {ad : Nat → Nat} {cf : Nat → Option va_E} {rS rK a k : Nat} {num : Int32} {par : Value} {K : Nat → Nat} (ha : ad rS = a) (hk : ad rK = k) (hS0 : cf rS = some (.inr (4, [.int num, par, .ref k]))) (hK0 : cf rK = some (mi_ai D 128 (fun j => nI (K j)))) (hKb : ∀ j, j < 128 → K j < 4) {b : Nat} (hb : b < 16) : mi_Rd l yX3_heightOf (Cond.code yX3_heightOf cX3_heightOf 3 (some Jvm.ClassFile.FieldType.int)) (mi_rm 2) D A (mi_W D A ad cf) [.ref a, .int (nI b)] (fun r => r = nI (sp_h K b 8)) := by
  subst ha
  subst hk
  exact c_X3_heightOf l D A hS0 hK0 hKb hb
theorem wr_un {h : Nat → Nat} {t : Nat} (e : t = wr_mx h 16) : mi_un h t (h t - 1) = wr h := by
  funext c
  unfold mi_un wr
  rw [← e]
  by_cases z : c = t
  · rw [if_pos z, if_pos z, z]
  · rw [if_neg z, if_neg z]
theorem wr_0 {h : Nat → Nat} {t : Nat} (e : t = wr_mx h 16) (z : h t = 0) : wr h = h := by
  funext c
  unfold wr
  rw [← e]
  by_cases y : c = t
  · rw [if_pos y, y, z]
  · rw [if_neg y]
set_option maxHeartbeats 4000000 in
set_option maxRecDepth 100000 in
theorem c_copyHeights (l : Launch) (D : va_G) (A : Nat → Prop) {ad : Nat → Nat} {cf : Nat → Option va_E} {rS rK : Nat} {num : Int32} {par : Value} {K : Nat → Nat} (hS0 : cf rS = some (.inr (4, [.int num, par, .ref (ad rK)]))) (hK0 : cf rK = some (mi_ai D 128 (fun j => nI (K j)))) (hKb : ∀ j, j < 128 → K j < 4) (hAu : ∀ a b, A a → a ≤ b → A b) {t : Nat} (ht : t ≠ rS ∧ t ≠ rK) : mi_Mr l yX3_copyHeights (Cond.code yX3_copyHeights cX3_copyHeights 3 (some (Jvm.ClassFile.FieldType.array Jvm.ClassFile.FieldType.int))) (mi_rq 4 1 16) D A (mi_W D A ad cf) [.ref (ad rS)] 1 16 (fun r H => mi_W D A (va_up ad t r) (va_up cf t (some (mi_ai D 16 (fun c => nI (sp_h K c 8))))) H) := by
  refine mi_start (cc := cX3_copyHeights) (nL := 3) (ret := (some (Jvm.ClassFile.FieldType.array Jvm.ClassFile.FieldType.int))) rfl (by decide) (Nat.le_of_ble_eq_true rfl) ?_
  intro p e s m below meth c ls S E hW hS hr hk hn hl
  have S : CallFix p m c cX3_copyHeights 3 s _ ((Cond.code yX3_copyHeights cX3_copyHeights 3 (some (Jvm.ClassFile.FieldType.array Jvm.ClassFile.FieldType.int))) :: mi_G) RX3 := S
  have hl : lv_has ls 3 [(0, .ref (ad rS))] := hl
  have hA : ∀ q, s.heap.size ≤ q → A q := hW.up hAu hS0
  refine lv_bipush (v := nI 16) S.1 S.2.1 dX3_copyHeights_0 (by decide) ?_
  obtain ⟨a1, hn1⟩ : ∃ z, z = s.heap.size := ⟨_, rfl⟩
  refine mi_newi S E hS hA hW t (List.mem_cons_of_mem _ mw_88) (by omega) (by show _ ≤ (1 : Nat); omega) (by show _ ≤ (16 : Nat); omega) dX3_copyHeights_2 (fun H9 hW hS hz => ?_)
  rw [← hn1] at hW hz ⊢
  obtain ⟨H, rfl⟩ : ∃ z, z = H9 := ⟨_, rfl⟩
  obtain ⟨ad1, had1⟩ : ∃ z, z = va_up ad t a1 := ⟨_, rfl⟩
  obtain ⟨cf1, hcf1⟩ : ∃ z, z = va_up cf t (some (mi_ai D 16 (fun _ => 0))) := ⟨_, rfl⟩
  have hW : mi_W D A ad1 cf1 H := by rw [had1, hcf1]; exact hW
  have he1_0 : cf1 rS = some (.inr (4, [.int num, par, .ref (ad rK)])) := by rw [hcf1]; exact (mi_up_n (Ne.symm ht.1)).trans hS0
  have ha1_0 : ad1 rS = ad rS := by rw [had1]; exact (mi_up_n (Ne.symm ht.1)).trans rfl
  have he1_1 : cf1 rK = some (mi_ai D 128 (fun j => nI (K j))) := by rw [hcf1]; exact (mi_up_n (Ne.symm ht.2)).trans hK0
  have ha1_1 : ad1 rK = ad rK := by rw [had1]; exact (mi_up_n (Ne.symm ht.2)).trans rfl
  have he1_r : cf1 t = some (mi_ai D 16 (fun _ => 0)) := by rw [hcf1]; exact mi_up_s
  have ha1_r : ad1 t = a1 := by rw [had1]; exact mi_up_s
  refine lv_astore_n (lv' := [(1, .ref (a1)), (0, .ref (ad rS))]) S.1 S.2.1 dX3_copyHeights_4 rfl hl (by decide) rfl (fun ls hl => ?_)
  refine lv_iconst (v := nI 0) S.1 S.2.1 dX3_copyHeights_5 (by decide) ?_
  refine lv_istore_n (lv' := [(2, .int (nI (0))), (1, .ref (a1)), (0, .ref (ad rS))]) S.1 S.2.1 dX3_copyHeights_6 rfl hl (by decide) rfl (fun ls hl => ?_)
  have lp7 : ∀ (n7 : Nat) (g : Nat → Nat) (i : Nat) (H : Heap) (locs : List Loc) (ls : Array Slot), 16 - i < n7 → i ≤ 16 → (∀ c, c < i → g c = sp_h K c 8) → mi_W D A ad1 (va_up cf t (some (mi_ai D 16 (fun c => nI (g c))))) H → va_S A s.heap H locs → lv_has ls 3 [(0, .ref (ad rS)), (1, .ref (a1)), (2, .int (nI (i)))] → W p l e (mi_rq 4 1 16) s m ([.ref (ad rS)] : List Value).toArray below meth c H locs (0 + 1) (0 + 16) (MQ below (mi_Qr A (fun r H => mi_W D A (va_up ad t r) (va_up cf t (some (mi_ai D 16 (fun c => nI (sp_h K c 8))))) H)) ([.ref (ad rS)] : List Value).toArray s 1 16 A) (F0 m 7 ls []) := by
    intro n7
    induction n7 with
    | zero => intro g i H locs ls hm hi hg hW hS hl; exact absurd hm (Nat.not_lt_zero _)
    | succ n7 ih7 =>
      intro g i H locs ls hm hi hg hW hS hl
      refine lv_iload_n S.1 S.2.1 dX3_copyHeights_7 rfl (lv_at hl 2 rfl) ?_
      refine lv_bipush (v := nI 16) S.1 S.2.1 dX3_copyHeights_8 (by decide) ?_
      refine mi_icmp_ge (tgt := 27) S (by omega) (by omega) dX3_copyHeights_10 (by decide) (fun c10_1 => ?_) (fun c10_1 => ?_)
      · refine lv_aload_n S.1 S.2.1 dX3_copyHeights_27 rfl (lv_at hl 1 rfl) ?_
        exact mi_retMr S hr (Or.inr ⟨_, rfl⟩) hk hS dX3_copyHeights_28 (by show _ ≤ (1 : Nat); omega) (by show _ ≤ (16 : Nat); omega) (by rw [show i = 16 by omega] at hg; rw [had1] at hW; exact hW.row (fun j hj => congrArg nI (hg j hj)))
      · refine lv_aload_n S.1 S.2.1 dX3_copyHeights_13 rfl (lv_at hl 1 rfl) ?_
        refine lv_iload_n S.1 S.2.1 dX3_copyHeights_14 rfl (lv_at hl 2 rfl) ?_
        refine lv_aload_n S.1 S.2.1 dX3_copyHeights_15 rfl (lv_at hl 0 rfl) ?_
        refine lv_iload_n S.1 S.2.1 dX3_copyHeights_16 rfl (lv_at hl 2 rfl) ?_
        refine mi_cR (mi_runV (P := mi_W D A ad1 (va_up cf t (some (mi_ai D 16 (fun c => nI (g c)))))) (As := [.int (nI (i))]) (rest := [.int (nI (i)), .ref (a1)]) S E hS hW (ad rS) (c_heightOfA l D A ha1_0 ha1_1 ((mi_up_n (Ne.symm ht.1)).trans hS0) ((mi_up_n (Ne.symm ht.2)).trans hK0) hKb (b := i) (by omega)) (hW.recvA E ha1_0 ((mi_up_n (Ne.symm ht.1)).trans hS0) rfl) mw_479 mw_476 mw_477 mw_478 mw_23 ⟨by decide, by decide, by decide +kernel⟩ ⟨rfl, rfl, Nat.le_of_ble_eq_true rfl, Nat.le_of_ble_eq_true rfl⟩ (n := 1) rfl hl.1 rfl (Nat.le_of_ble_eq_true rfl) dX3_copyHeights_17 ⟨(by show _ ≤ (1 : Nat); omega), (by show _ ≤ (16 : Nat); omega)⟩) (fun r9 e9 => ?_)
        subst e9
        refine mi_iast S E hS hW t ha1_r (n := 16) (f := fun c => nI (g c)) mi_up_s (by omega) (by omega) dX3_copyHeights_20 (fun H locs hW hS hz => ?_)
        rw [mi_up_up, mi_un_upd] at hW
        refine lv_iinc (v := nI (i + 1)) (lv' := [(2, .int (nI (i + 1))), (0, .ref (ad rS)), (1, .ref (a1))]) S.1 S.2.1 dX3_copyHeights_21 hl (k := 2) rfl (mi_inc _) (by decide) rfl (fun ls hl => ?_)
        refine lv_goto (tgt := 7) S.1 S.2.1 dX3_copyHeights_24 (by decide) ?_
        exact ih7 ((mi_un g i (sp_h K i 8))) (i + 1) _ _ _ (by omega) (by omega) (fun c hc => by unfold mi_un; by_cases e9 : c = i; (rw [if_pos e9, e9]); (rw [if_neg e9]; exact hg c (by omega))) hW hS (lv_sub hl [1, 2, 0] rfl)
  exact lp7 _ ((fun _ => 0)) 0 _ _ _ (Nat.lt_succ_self _) (by omega) (fun c hc => absurd hc (Nat.not_lt_zero c)) (by rw [hcf1] at hW; exact hW) hS (lv_sub hl [2, 1, 0] rfl)
set_option maxHeartbeats 4000000 in
set_option maxRecDepth 100000 in
theorem c_Die_init (l : Launch) (D : va_G) (A : Nat → Prop) {ad : Nat → Nat} {cf : Nat → Option va_E} {d a b : Nat} {f0 f1 f2 : Value} {f : Nat → Int32} (hAu : ∀ a b, A a → a ≤ b → A b) (ha0 : ad (300 + d) = a) (hr0 : cf (300 + d) = some (.inr (2, [f0, f1, f2]))) (hb0 : ad (310 + d) = b) (hf0 : cf (310 + d) = some (mi_ai D 16 f)) : mi_Mv l yX1_init (Cond.code yX1_init cX1_init 2 none) (mi_rq 4 2 19) D A (mi_W D A ad cf) [.ref (a), .ref (b)] 2 19 (fun H => ∃ ad1 cf1 ah au, mi_W D A ad1 cf1 H ∧ cf1 (300 + d) = some (.inr (2, [.ref b, .ref ah, .ref au])) ∧ cf1 (320 + d) = some (mi_ai D 16 f) ∧ cf1 (330 + d) = some (.inr (0, [.int (nI 0), .ref (mi_de D), .int (nI 0)])) ∧ ad1 (320 + d) = ah ∧ ad1 (330 + d) = au ∧ (∀ k, k ≠ (300 + d) → k ≠ (320 + d) → k ≠ (330 + d) → cf1 k = cf k) ∧ (∀ k, k ≠ (320 + d) → k ≠ (330 + d) → ad1 k = ad k)) := by
  refine mi_start (cc := cX1_init) (nL := 2) (ret := none) rfl (by decide) (Nat.le_of_ble_eq_true rfl) ?_
  intro p e s m below meth c ls S E hW hS hr hk hn hl
  have S : CallFix p m c cX1_init 2 s _ ((Cond.code yX1_init cX1_init 2 none) :: mi_G) RX1 := S
  have hl : lv_has ls 2 [(0, .ref (a)), (1, .ref (b))] := hl
  have hA : ∀ q, s.heap.size ≤ q → A q := hW.up hAu hr0
  refine lv_aload_n S.1 S.2.1 dX1_init_0 rfl (lv_at hl 0 rfl) ?_
  refine W.objInit S.1 S.2.1 S.2.2.2.1 (S.2.2.2.2 _ (List.mem_cons_of_mem _ mw_484)) (S.2.2.2.2 _ (List.mem_cons_of_mem _ mw_44)) (S.2.2.2.2 _ (List.mem_cons_of_mem _ mw_45)) rfl (hl.1.trans S.2.2.1.symm) rfl dX1_init_1 (Nat.le_of_ble_eq_true rfl) (Nat.le_of_ble_eq_true rfl) ?_
  refine W.eq (g2 := F0 m 4 ls []) rfl ?_
  refine lv_aload_n S.1 S.2.1 dX1_init_4 rfl (lv_at hl 0 rfl) ?_
  refine lv_aload_n S.1 S.2.1 dX1_init_5 rfl (lv_at hl 1 rfl) ?_
  refine fp_X1_9 S E hS hW ((300 + d)) ha0 hr0 (Nat.le_of_ble_eq_true rfl) rfl rfl hn dX1_init_6 (fun H locs hW hS hz => ?_)
  obtain ⟨cf1, hcf1⟩ : ∃ z, z = va_up cf ((300 + d)) (some (.inr (2, [.ref (b), f1, f2]))) := ⟨_, rfl⟩
  have hW : mi_W D A ad cf1 H := by rw [hcf1]; exact hW
  have he1_0 : cf1 ((310 + d)) = some (mi_ai D 16 (f)) := by rw [hcf1]; exact (mi_up_n (by omega)).trans hf0
  have he1_r : cf1 ((300 + d)) = some (.inr (2, [.ref (b), f1, f2])) := by rw [hcf1]; exact mi_up_s
  refine lv_aload_n S.1 S.2.1 dX1_init_9 rfl (lv_at hl 0 rfl) ?_
  refine lv_aload_n S.1 S.2.1 dX1_init_10 rfl (lv_at hl 1 rfl) ?_
  obtain ⟨a2, hn2⟩ : ∃ z, z = H.size := ⟨_, rfl⟩
  refine mi_clone S E hS hA hW ((310 + d)) (320 + d) hb0 he1_0 hl.1 (List.mem_cons_of_mem _ mw_485) (List.mem_cons_of_mem _ mw_329) (List.mem_cons_of_mem _ mw_330) (List.mem_cons_of_mem _ mw_331) (List.mem_cons_of_mem _ mw_332) (Nat.le_of_ble_eq_true rfl) (Nat.le_of_ble_eq_true rfl) (by show _ ≤ (2 : Nat); omega) (by show _ ≤ (19 : Nat); omega) dX1_init_11 (fun H9 hW hS hz => ?_)
  rw [← hn2] at hW hz ⊢
  obtain ⟨H, rfl⟩ : ∃ z, z = H9 := ⟨_, rfl⟩
  obtain ⟨ad2, had2⟩ : ∃ z, z = va_up ad ((320 + d)) a2 := ⟨_, rfl⟩
  obtain ⟨cf2, hcf2⟩ : ∃ z, z = va_up cf1 ((320 + d)) (some (mi_ai D 16 (f))) := ⟨_, rfl⟩
  have hW : mi_W D A ad2 cf2 H := by rw [had2, hcf2]; exact hW
  have he2_0 : cf2 ((310 + d)) = some (mi_ai D 16 (f)) := by rw [hcf2]; exact (mi_up_n (by omega)).trans he1_0
  have ha2_0 : ad2 ((310 + d)) = b := by rw [had2]; exact (mi_up_n (by omega)).trans hb0
  have he2_1 : cf2 ((300 + d)) = some (.inr (2, [.ref (b), f1, f2])) := by rw [hcf2]; exact (mi_up_n (by omega)).trans he1_r
  have ha2_1 : ad2 ((300 + d)) = a := by rw [had2]; exact (mi_up_n (by omega)).trans ha0
  have he2_r : cf2 ((320 + d)) = some (mi_ai D 16 (f)) := by rw [hcf2]; exact mi_up_s
  have ha2_r : ad2 ((320 + d)) = a2 := by rw [had2]; exact mi_up_s
  refine mi_castI S E hW ((320 + d)) ha2_r he2_r (List.mem_cons_of_mem _ mw_486) dX1_init_14 ?_
  refine fp_X1_20 S E hS hW ((300 + d)) ha2_1 he2_1 (Nat.le_of_ble_eq_true rfl) rfl rfl hn dX1_init_17 (fun H locs hW hS hz => ?_)
  obtain ⟨cf3, hcf3⟩ : ∃ z, z = va_up cf2 ((300 + d)) (some (.inr (2, [.ref (b), .ref (a2), f2]))) := ⟨_, rfl⟩
  have hW : mi_W D A ad2 cf3 H := by rw [hcf3]; exact hW
  have he3_0 : cf3 ((310 + d)) = some (mi_ai D 16 (f)) := by rw [hcf3]; exact (mi_up_n (by omega)).trans he2_0
  have he3_1 : cf3 ((320 + d)) = some (mi_ai D 16 (f)) := by rw [hcf3]; exact (mi_up_n (by omega)).trans he2_r
  have he3_r : cf3 ((300 + d)) = some (.inr (2, [.ref (b), .ref (a2), f2])) := by rw [hcf3]; exact mi_up_s
  refine lv_aload_n S.1 S.2.1 dX1_init_20 rfl (lv_at hl 0 rfl) ?_
  obtain ⟨a4, hn4⟩ : ∃ z, z = H.size := ⟨_, rfl⟩
  refine mi_new (ci := 0) (fs := [.int (nI (0)), .null, .int (nI (0))]) S E hS hA hW (330 + d) rfl (mg_Jx4a65c _) tyJx4a65c tyJx4a65c_ok (fun j hj => by rcases (show j = 0 ∨ j = 1 ∨ j = 2 by omega) with rfl | rfl | rfl <;> rfl) (List.mem_cons_of_mem _ mw_487) (List.mem_cons_of_mem _ mw_47) (List.mem_cons_of_mem _ mw_21) (by show _ ≤ (2 : Nat); omega) (by show _ ≤ (19 : Nat); omega) dX1_init_21 (fun H9 hW hS hz => ?_)
  rw [← hn4] at hW hz ⊢
  obtain ⟨H, rfl⟩ : ∃ z, z = H9 := ⟨_, rfl⟩
  obtain ⟨ad4, had4⟩ : ∃ z, z = va_up ad2 ((330 + d)) a4 := ⟨_, rfl⟩
  obtain ⟨cf4, hcf4⟩ : ∃ z, z = va_up cf3 ((330 + d)) (some (.inr (0, [.int (nI (0)), .null, .int (nI (0))]))) := ⟨_, rfl⟩
  have hW : mi_W D A ad4 cf4 H := by rw [had4, hcf4]; exact hW
  have he4_0 : cf4 ((310 + d)) = some (mi_ai D 16 (f)) := by rw [hcf4]; exact (mi_up_n (by omega)).trans he3_0
  have ha4_0 : ad4 ((310 + d)) = b := by rw [had4]; exact (mi_up_n (by omega)).trans ha2_0
  have he4_1 : cf4 ((320 + d)) = some (mi_ai D 16 (f)) := by rw [hcf4]; exact (mi_up_n (by omega)).trans he3_1
  have ha4_1 : ad4 ((320 + d)) = a2 := by rw [had4]; exact (mi_up_n (by omega)).trans ha2_r
  have he4_2 : cf4 ((300 + d)) = some (.inr (2, [.ref (b), .ref (a2), f2])) := by rw [hcf4]; exact (mi_up_n (by omega)).trans he3_r
  have ha4_2 : ad4 ((300 + d)) = a := by rw [had4]; exact (mi_up_n (by omega)).trans ha2_1
  have he4_r : cf4 ((330 + d)) = some (.inr (0, [.int (nI (0)), .null, .int (nI (0))])) := by rw [hcf4]; exact mi_up_s
  have ha4_r : ad4 ((330 + d)) = a4 := by rw [had4]; exact mi_up_s
  refine lv_dup S.1 S.2.1 dX1_init_24 rfl ?_
  refine mi_cMv (mi_runI (P := mi_W D A ad4 cf4) (As := []) (rest := [.ref (a4), .ref (a)]) S E hS hW a4 (c_AL_init l D A ha4_r he4_r) mw_50 mw_488 mw_49 mw_21 rfl ⟨by decide, by decide, by decide +kernel⟩ ⟨rfl, rfl, Nat.le_of_ble_eq_true rfl, Nat.le_of_ble_eq_true rfl⟩ (n := 0) rfl hl.1 rfl (Nat.le_of_ble_eq_true rfl) dX1_init_25 ⟨(by show _ ≤ (2 : Nat); omega), (by show _ ≤ (19 : Nat); omega)⟩) hS (fun H locs hW hS hz => ?_)
  obtain ⟨cf5, hcf5⟩ : ∃ z, z = va_up cf4 ((330 + d)) (some (.inr (0, [.int (nI (0)), .ref (mi_de D), .int (nI (0))]))) := ⟨_, rfl⟩
  have hW : mi_W D A ad4 cf5 H := by rw [hcf5]; exact hW
  have he5_0 : cf5 ((310 + d)) = some (mi_ai D 16 (f)) := by rw [hcf5]; exact (mi_up_n (by omega)).trans he4_0
  have he5_1 : cf5 ((320 + d)) = some (mi_ai D 16 (f)) := by rw [hcf5]; exact (mi_up_n (by omega)).trans he4_1
  have he5_2 : cf5 ((300 + d)) = some (.inr (2, [.ref (b), .ref (a2), f2])) := by rw [hcf5]; exact (mi_up_n (by omega)).trans he4_2
  have he5_r : cf5 ((330 + d)) = some (.inr (0, [.int (nI (0)), .ref (mi_de D), .int (nI (0))])) := by rw [hcf5]; exact mi_up_s
  refine fp_X1_26 S E hS hW ((300 + d)) ha4_2 he5_2 (Nat.le_of_ble_eq_true rfl) rfl rfl hn dX1_init_28 (fun H locs hW hS hz => ?_)
  obtain ⟨cf6, hcf6⟩ : ∃ z, z = va_up cf5 ((300 + d)) (some (.inr (2, [.ref (b), .ref (a2), .ref (a4)]))) := ⟨_, rfl⟩
  have hW : mi_W D A ad4 cf6 H := by rw [hcf6]; exact hW
  have he6_0 : cf6 ((310 + d)) = some (mi_ai D 16 (f)) := by rw [hcf6]; exact (mi_up_n (by omega)).trans he5_0
  have he6_1 : cf6 ((320 + d)) = some (mi_ai D 16 (f)) := by rw [hcf6]; exact (mi_up_n (by omega)).trans he5_1
  have he6_2 : cf6 ((330 + d)) = some (.inr (0, [.int (nI (0)), .ref (mi_de D), .int (nI (0))])) := by rw [hcf6]; exact (mi_up_n (by omega)).trans he5_r
  have he6_r : cf6 ((300 + d)) = some (.inr (2, [.ref (b), .ref (a2), .ref (a4)])) := by rw [hcf6]; exact mi_up_s
  exact mi_retMv S hr hk hS dX1_init_31 (by show _ ≤ (2 : Nat); omega) (by show _ ≤ (19 : Nat); omega) ⟨ad4, cf6, a2, a4, hW, he6_r, he6_1, he6_2, ha4_1, ha4_r, fun k k1 k2 k3 => by rw [hcf6, mi_up_n (by omega), hcf5, mi_up_n (by omega), hcf4, mi_up_n (by omega), hcf3, mi_up_n (by omega), hcf2, mi_up_n (by omega), hcf1, mi_up_n (by omega)], fun k k2 k3 => by rw [had4, mi_up_n (by omega), had2, mi_up_n (by omega)]⟩
set_option maxHeartbeats 4000000 in
set_option maxRecDepth 100000 in
theorem c_wear (l : Launch) (D : va_G) (A : Nat → Prop) {ad : Nat → Nat} {cf : Nat → Option va_E} {d a ah : Nat} {f0 f2 : Value} {h : Nat → Nat} (ha0 : ad (300 + d) = a) (hd1 : cf (300 + d) = some (.inr (2, [f0, .ref ah, f2]))) (hh0 : ad (320 + d) = ah) (hd3 : cf (320 + d) = some (mi_ai D 16 (fun c => nI (h c)))) (hb8 : ∀ c, c < 16 → h c ≤ 8) : mi_Mv l yX1_wear (Cond.code yX1_wear cX1_wear 3 none) (mi_rm 0) D A (mi_W D A ad cf) [.ref (a)] 0 0 (mi_W D A ad (va_up cf (320 + d) (some (mi_ai D 16 (fun c => nI (wr h c)))))) := by
  refine mi_start (cc := cX1_wear) (nL := 3) (ret := none) rfl (by decide) (Nat.le_of_ble_eq_true rfl) ?_
  intro p e s m below meth c ls S E hW hS hr hk hn hl
  have S : CallFix p m c cX1_wear 3 s _ ((Cond.code yX1_wear cX1_wear 3 none) :: mi_G) RX1 := S
  have hl : lv_has ls 3 [(0, .ref (a))] := hl
  refine lv_iconst (v := nI 0) S.1 S.2.1 dX1_wear_0 (by decide) ?_
  refine lv_istore_n (lv' := [(1, .int (nI (0))), (0, .ref (a))]) S.1 S.2.1 dX1_wear_1 rfl hl (by decide) rfl (fun ls hl => ?_)
  refine lv_iconst (v := nI 1) S.1 S.2.1 dX1_wear_2 (by decide) ?_
  refine lv_istore_n (lv' := [(2, .int (nI (1))), (1, .int (nI (0))), (0, .ref (a))]) S.1 S.2.1 dX1_wear_3 rfl hl (by decide) rfl (fun ls hl => ?_)
  have lp4 : ∀ (n4 : Nat) (t : Nat) (i : Nat) (ls : Array Slot), 16 - i < n4 → 1 ≤ i ∧ i ≤ 16 → t < 16 → t = wr_mx h i → lv_has ls 3 [(0, .ref (a)), (1, .int (nI (t))), (2, .int (nI (i)))] → W p l e (mi_rm 0) s m ([.ref (a)] : List Value).toArray below meth c s.heap [] 0 0 (MQ below (mi_Qv A (mi_W D A ad (va_up cf (320 + d) (some (mi_ai D 16 (fun c => nI (wr h c))))))) ([.ref (a)] : List Value).toArray s 0 0 A) (F0 m 4 ls []) := by
    intro n4
    induction n4 with
    | zero => intro t i ls hm hi htb ht9  hl; exact absurd hm (Nat.not_lt_zero _)
    | succ n4 ih4 =>
      intro t i ls hm hi htb ht9  hl
      refine lv_iload_n S.1 S.2.1 dX1_wear_4 rfl (lv_at hl 2 rfl) ?_
      refine lv_bipush (v := nI 16) S.1 S.2.1 dX1_wear_5 (by decide) ?_
      refine mi_icmp_ge (tgt := 33) S (by omega) (by omega) dX1_wear_7 (by decide) (fun c7_0 => ?_) (fun c7_0 => ?_)
      · have h16 : i = 16 := by omega
        rw [h16] at ht9
        have hb2 := hb8 t (by omega)
        refine lv_aload_n S.1 S.2.1 dX1_wear_33 rfl (lv_at hl 0 rfl) ?_
        refine fg_X1_20 S E hW ((300 + d)) ha0 hd1 rfl dX1_wear_34 ?_
        refine lv_iload_n S.1 S.2.1 dX1_wear_37 rfl (lv_at hl 1 rfl) ?_
        refine mi_iald S E hW ((320 + d)) hh0 hd3 (by omega) (by omega) dX1_wear_38 ?_
        refine mi_if_le (tgt := 52) S (by omega) dX1_wear_39 (by decide) (fun c39_1 => ?_) (fun c39_1 => ?_)
        · exact mi_retMv S hr hk hS dX1_wear_52 (Nat.le_refl _) (Nat.le_refl _) (by rw [wr_0 ht9 (by omega), mi_up_id hd3]; exact hW)
        · refine lv_aload_n S.1 S.2.1 dX1_wear_42 rfl (lv_at hl 0 rfl) ?_
          refine fg_X1_20 S E hW ((300 + d)) ha0 hd1 rfl dX1_wear_43 ?_
          refine lv_iload_n S.1 S.2.1 dX1_wear_46 rfl (lv_at hl 1 rfl) ?_
          refine lv_dup2_11 S.1 S.2.1 dX1_wear_47 rfl rfl ?_
          refine mi_iald S E hW ((320 + d)) hh0 hd3 (by omega) (by omega) dX1_wear_48 ?_
          refine lv_iconst (v := nI 1) S.1 S.2.1 dX1_wear_49 (by decide) ?_
          refine mi_isub S (by omega) dX1_wear_50 ?_
          refine mi_iast S E hS hW (320 + d) hh0 hd3 (by omega) (by omega) dX1_wear_51 (fun H locs hW hS hz => ?_)
          rw [mi_un_upd, wr_un ht9] at hW
          exact mi_retMv S hr hk hS dX1_wear_52 (Nat.le_refl _) (Nat.le_refl _) hW
      · have hb1 := hb8 i (by omega)
        have hb2 := hb8 t (by omega)
        refine lv_aload_n S.1 S.2.1 dX1_wear_10 rfl (lv_at hl 0 rfl) ?_
        refine fg_X1_20 S E hW ((300 + d)) ha0 hd1 rfl dX1_wear_11 ?_
        refine lv_iload_n S.1 S.2.1 dX1_wear_14 rfl (lv_at hl 2 rfl) ?_
        refine mi_iald S E hW ((320 + d)) hh0 hd3 (by omega) (by omega) dX1_wear_15 ?_
        refine lv_aload_n S.1 S.2.1 dX1_wear_16 rfl (lv_at hl 0 rfl) ?_
        refine fg_X1_20 S E hW ((300 + d)) ha0 hd1 rfl dX1_wear_17 ?_
        refine lv_iload_n S.1 S.2.1 dX1_wear_20 rfl (lv_at hl 1 rfl) ?_
        refine mi_iald S E hW ((320 + d)) hh0 hd3 (by omega) (by omega) dX1_wear_21 ?_
        refine mi_icmp_le (tgt := 27) S (by omega) (by omega) dX1_wear_22 (by decide) (fun c22_2 => ?_) (fun c22_2 => ?_)
        · refine lv_iinc (v := nI (i + 1)) (lv' := [(2, .int (nI (i + 1))), (0, .ref (a)), (1, .int (nI (t)))]) S.1 S.2.1 dX1_wear_27 hl (k := 2) rfl (mi_inc _) (by decide) rfl (fun ls hl => ?_)
          refine lv_goto (tgt := 4) S.1 S.2.1 dX1_wear_30 (by decide) ?_
          exact ih4 t (i + 1) _ (by omega) (by omega) (by omega) (by first | (rw [wr_mx_1 (by rw [← ht9]; omega)]) | (rw [wr_mx_0 (by rw [← ht9]; omega)]; exact ht9))  (lv_sub hl [1, 2, 0] rfl)
        · refine lv_iload_n S.1 S.2.1 dX1_wear_25 rfl (lv_at hl 2 rfl) ?_
          refine lv_istore_n (lv' := [(1, .int (nI (i))), (0, .ref (a)), (2, .int (nI (i)))]) S.1 S.2.1 dX1_wear_26 rfl hl (by decide) rfl (fun ls hl => ?_)
          refine lv_iinc (v := nI (i + 1)) (lv' := [(2, .int (nI (i + 1))), (1, .int (nI (i))), (0, .ref (a))]) S.1 S.2.1 dX1_wear_27 hl (k := 2) rfl (mi_inc _) (by decide) rfl (fun ls hl => ?_)
          refine lv_goto (tgt := 4) S.1 S.2.1 dX1_wear_30 (by decide) ?_
          exact ih4 i (i + 1) _ (by omega) (by omega) (by omega) (by first | (rw [wr_mx_1 (by rw [← ht9]; omega)]) | (rw [wr_mx_0 (by rw [← ht9]; omega)]; exact ht9))  (lv_sub hl [2, 1, 0] rfl)
  exact lp4 _ 0 1 _ (Nat.lt_succ_self _) (by omega) (by omega) ((wr_mx_0 (h := h) (n := 0) (Nat.lt_irrefl _)).symm)  (lv_sub hl [2, 1, 0] rfl)
