/-! the constructors -/
set_option maxHeartbeats 4000000 in
set_option maxRecDepth 100000 in
theorem c_PF_init (l : Launch) (D : va_G) (A : Nat → Prop) {ad : Nat → Nat} {cf : Nat → Option va_E} (hAu : ∀ a b, A a → a ≤ b → A b) {a : Nat} (ha0 : ad 4 = a) (hr0 : cf 4 = some (.inr (3, [.null, .null, .int (nI (0))]))) : mi_Mv l yX2_init (Cond.code yX2_init cX2_init 1 none) (mi_rq 1 2 256) D A (mi_W D A ad cf) [.ref (a)] 2 256 (fun H => ∃ ad1 cf1, mi_W D A ad1 cf1 H ∧ rx_pf D ad1 cf1 (fun _ => 0) (fun _ => 0) 0 ∧ (∀ k, k ≠ 4 → k ≠ 5 → k ≠ 6 → cf1 k = cf k ∧ ad1 k = ad k) ∧ ad1 4 = a) := by
  refine mi_start (cc := cX2_init) (nL := 1) (ret := none) rfl (by decide) (Nat.le_of_ble_eq_true rfl) ?_
  intro p e s m below meth c ls S E hW hS hr hk hn hl
  have S : CallFix p m c cX2_init 1 s _ ((Cond.code yX2_init cX2_init 1 none) :: mi_G) RX2 := S
  have hl : lv_has ls 1 [(0, .ref (a))] := hl
  have hA : ∀ q, s.heap.size ≤ q → A q := hW.up hAu hr0
  refine lv_aload_n S.1 S.2.1 dX2_init_0 rfl (lv_at hl 0 rfl) ?_
  refine W.objInit S.1 S.2.1 S.2.2.2.1 (S.2.2.2.2 _ (List.mem_cons_of_mem _ mw_77)) (S.2.2.2.2 _ (List.mem_cons_of_mem _ mw_44)) (S.2.2.2.2 _ (List.mem_cons_of_mem _ mw_45)) rfl (hl.1.trans S.2.2.1.symm) rfl dX2_init_1 (Nat.le_of_ble_eq_true rfl) (Nat.le_of_ble_eq_true rfl) ?_
  refine W.eq (g2 := F0 m 4 ls []) rfl ?_
  refine lv_aload_n S.1 S.2.1 dX2_init_4 rfl (lv_at hl 0 rfl) ?_
  refine lv_sipush (v := nI 128) S.1 S.2.1 dX2_init_5 (by decide) ?_
  obtain ⟨a1, hn1⟩ : ∃ z, z = s.heap.size := ⟨_, rfl⟩
  refine mi_newi S E hS hA hW 5 (List.mem_cons_of_mem _ mw_88) (by omega) (by show _ ≤ (2 : Nat); omega) (by show _ ≤ (256 : Nat); omega) dX2_init_8 (fun H9 hW hS hz => ?_)
  rw [← hn1] at hW hz ⊢
  obtain ⟨H, rfl⟩ : ∃ z, z = H9 := ⟨_, rfl⟩
  obtain ⟨ad1, had1⟩ : ∃ z, z = va_up ad 5 a1 := ⟨_, rfl⟩
  obtain ⟨cf1, hcf1⟩ : ∃ z, z = va_up cf 5 (some (mi_ai D 128 (fun _ => 0))) := ⟨_, rfl⟩
  have hW : mi_W D A ad1 cf1 H := by rw [had1, hcf1]; exact hW
  have he1_0 : cf1 4 = some (.inr (3, [.null, .null, .int (nI (0))])) := by rw [hcf1]; exact (mi_up_n (by omega)).trans hr0
  have ha1_0 : ad1 4 = a := by rw [had1]; exact (mi_up_n (by omega)).trans ha0
  have he1_r : cf1 5 = some (mi_ai D 128 (fun _ => 0)) := by rw [hcf1]; exact mi_up_s
  have ha1_r : ad1 5 = a1 := by rw [had1]; exact mi_up_s
  refine fp_X2_9 S E hS hW 4 ha1_0 he1_0 (Nat.le_of_ble_eq_true rfl) rfl rfl hn dX2_init_10 (fun H locs hW hS hz => ?_)
  obtain ⟨cf2, hcf2⟩ : ∃ z, z = va_up cf1 4 (some (.inr (3, [.ref (a1), .null, .int (nI (0))]))) := ⟨_, rfl⟩
  have hW : mi_W D A ad1 cf2 H := by rw [hcf2]; exact hW
  have he2_0 : cf2 5 = some (mi_ai D 128 (fun _ => 0)) := by rw [hcf2]; exact (mi_up_n (by omega)).trans he1_r
  have he2_r : cf2 4 = some (.inr (3, [.ref (a1), .null, .int (nI (0))])) := by rw [hcf2]; exact mi_up_s
  refine lv_aload_n S.1 S.2.1 dX2_init_13 rfl (lv_at hl 0 rfl) ?_
  refine lv_sipush (v := nI 128) S.1 S.2.1 dX2_init_14 (by decide) ?_
  obtain ⟨a3, hn3⟩ : ∃ z, z = H.size := ⟨_, rfl⟩
  refine mi_newi S E hS hA hW 6 (List.mem_cons_of_mem _ mw_88) (by omega) (by show _ ≤ (2 : Nat); omega) (by show _ ≤ (256 : Nat); omega) dX2_init_17 (fun H9 hW hS hz => ?_)
  rw [← hn3] at hW hz ⊢
  obtain ⟨H, rfl⟩ : ∃ z, z = H9 := ⟨_, rfl⟩
  obtain ⟨ad3, had3⟩ : ∃ z, z = va_up ad1 6 a3 := ⟨_, rfl⟩
  obtain ⟨cf3, hcf3⟩ : ∃ z, z = va_up cf2 6 (some (mi_ai D 128 (fun _ => 0))) := ⟨_, rfl⟩
  have hW : mi_W D A ad3 cf3 H := by rw [had3, hcf3]; exact hW
  have he3_0 : cf3 5 = some (mi_ai D 128 (fun _ => 0)) := by rw [hcf3]; exact (mi_up_n (by omega)).trans he2_0
  have ha3_0 : ad3 5 = a1 := by rw [had3]; exact (mi_up_n (by omega)).trans ha1_r
  have he3_1 : cf3 4 = some (.inr (3, [.ref (a1), .null, .int (nI (0))])) := by rw [hcf3]; exact (mi_up_n (by omega)).trans he2_r
  have ha3_1 : ad3 4 = a := by rw [had3]; exact (mi_up_n (by omega)).trans ha1_0
  have he3_r : cf3 6 = some (mi_ai D 128 (fun _ => 0)) := by rw [hcf3]; exact mi_up_s
  have ha3_r : ad3 6 = a3 := by rw [had3]; exact mi_up_s
  refine fp_X2_15 S E hS hW 4 ha3_1 he3_1 (Nat.le_of_ble_eq_true rfl) rfl rfl hn dX2_init_19 (fun H locs hW hS hz => ?_)
  obtain ⟨cf4, hcf4⟩ : ∃ z, z = va_up cf3 4 (some (.inr (3, [.ref (a1), .ref (a3), .int (nI (0))]))) := ⟨_, rfl⟩
  have hW : mi_W D A ad3 cf4 H := by rw [hcf4]; exact hW
  have he4_0 : cf4 5 = some (mi_ai D 128 (fun _ => 0)) := by rw [hcf4]; exact (mi_up_n (by omega)).trans he3_0
  have he4_1 : cf4 6 = some (mi_ai D 128 (fun _ => 0)) := by rw [hcf4]; exact (mi_up_n (by omega)).trans he3_r
  have he4_r : cf4 4 = some (.inr (3, [.ref (a1), .ref (a3), .int (nI (0))])) := by rw [hcf4]; exact mi_up_s
  refine mi_retMv S hr hk hS dX2_init_22 (by show _ ≤ (2 : Nat); omega) (by show _ ≤ (256 : Nat); omega) ⟨ad3, cf4, hW, ⟨?_, ?_, ?_⟩, fun k k4 k5 k6 => ⟨?_, ?_⟩, ha3_1⟩
  · rw [he4_r, ha3_0, ha3_r]
  · exact he4_0
  · exact he4_1
  · rw [hcf4, mi_up_n (by omega), hcf3, mi_up_n (by omega), hcf2, mi_up_n (by omega), hcf1, mi_up_n (by omega)]
  · rw [had3, mi_up_n (by omega), had1, mi_up_n (by omega)]
set_option maxHeartbeats 4000000 in
set_option maxRecDepth 100000 in
theorem c_vinit (l : Launch) (D : va_G) (A : Nat → Prop) {ad : Nat → Nat} {cf : Nat → Option va_E} (hAu : ∀ a b, A a → a ≤ b → A b) {a : Nat} (ha0 : ad 0 = a) (hr0 : cf 0 = some (.inr (5, [.null, .null, .null, .null, .null]))) (h9 : cf 999 = none) : mi_Mv l yX4_init (Cond.code yX4_init cX4_init 1 none) (mi_rq 8 10 1410) D A (mi_W D A ad cf) [.ref (a)] 10 1410 (rx_P D A st_0 ad cf) := by
  refine mi_start (cc := cX4_init) (nL := 1) (ret := none) rfl (by decide) (Nat.le_of_ble_eq_true rfl) ?_
  intro p e s m below meth c ls S E hW hS hr hk hn hl
  have S : CallFix p m c cX4_init 1 s _ ((Cond.code yX4_init cX4_init 1 none) :: mi_G) RX4 := S
  have hl : lv_has ls 1 [(0, .ref (a))] := hl
  have hA : ∀ q, s.heap.size ≤ q → A q := hW.up hAu hr0
  refine lv_aload_n S.1 S.2.1 dX4_init_0 rfl (lv_at hl 0 rfl) ?_
  refine W.objInit S.1 S.2.1 S.2.2.2.1 (S.2.2.2.2 _ (List.mem_cons_of_mem _ mw_43)) (S.2.2.2.2 _ (List.mem_cons_of_mem _ mw_44)) (S.2.2.2.2 _ (List.mem_cons_of_mem _ mw_45)) rfl (hl.1.trans S.2.2.1.symm) rfl dX4_init_1 (Nat.le_of_ble_eq_true rfl) (Nat.le_of_ble_eq_true rfl) ?_
  refine W.eq (g2 := F0 m 4 ls []) rfl ?_
  refine lv_aload_n S.1 S.2.1 dX4_init_4 rfl (lv_at hl 0 rfl) ?_
  obtain ⟨a1, hn1⟩ : ∃ z, z = s.heap.size := ⟨_, rfl⟩
  refine mi_new (ci := 0) (fs := [.int (nI (0)), .null, .int (nI (0))]) S E hS hA hW 1 rfl (mg_Jx4a65c _) tyJx4a65c tyJx4a65c_ok (fun j hj => by rcases (show j = 0 ∨ j = 1 ∨ j = 2 by omega) with rfl | rfl | rfl <;> rfl) (List.mem_cons_of_mem _ mw_46) (List.mem_cons_of_mem _ mw_47) (List.mem_cons_of_mem _ mw_21) (by show _ ≤ (10 : Nat); omega) (by show _ ≤ (1410 : Nat); omega) dX4_init_5 (fun H9 hW hS hz => ?_)
  rw [← hn1] at hW hz ⊢
  obtain ⟨H, rfl⟩ : ∃ z, z = H9 := ⟨_, rfl⟩
  obtain ⟨ad1, had1⟩ : ∃ z, z = va_up ad 1 a1 := ⟨_, rfl⟩
  obtain ⟨cf1, hcf1⟩ : ∃ z, z = va_up cf 1 (some (.inr (0, [.int (nI (0)), .null, .int (nI (0))]))) := ⟨_, rfl⟩
  have hW : mi_W D A ad1 cf1 H := by rw [had1, hcf1]; exact hW
  have he1_0 : cf1 0 = some (.inr (5, [.null, .null, .null, .null, .null])) := by rw [hcf1]; exact (mi_up_n (by omega)).trans hr0
  have ha1_0 : ad1 0 = a := by rw [had1]; exact (mi_up_n (by omega)).trans ha0
  have he1_r : cf1 1 = some (.inr (0, [.int (nI (0)), .null, .int (nI (0))])) := by rw [hcf1]; exact mi_up_s
  have ha1_r : ad1 1 = a1 := by rw [had1]; exact mi_up_s
  refine lv_dup S.1 S.2.1 dX4_init_8 rfl ?_
  refine mi_cMv (mi_runI (P := mi_W D A ad1 cf1) (As := []) (rest := [.ref (a1), .ref (a)]) S E hS hW a1 (c_AL_init l D A ha1_r he1_r) mw_50 mw_48 mw_49 mw_21 rfl ⟨by decide, by decide, by decide +kernel⟩ ⟨rfl, rfl, Nat.le_of_ble_eq_true rfl, Nat.le_of_ble_eq_true rfl⟩ (n := 0) rfl hl.1 rfl (Nat.le_of_ble_eq_true rfl) dX4_init_9 ⟨(by show _ ≤ (10 : Nat); omega), (by show _ ≤ (1410 : Nat); omega)⟩) hS (fun H locs hW hS hz => ?_)
  obtain ⟨cf2, hcf2⟩ : ∃ z, z = va_up cf1 1 (some (.inr (0, [.int (nI (0)), .ref (mi_de D), .int (nI (0))]))) := ⟨_, rfl⟩
  have hW : mi_W D A ad1 cf2 H := by rw [hcf2]; exact hW
  have he2_0 : cf2 0 = some (.inr (5, [.null, .null, .null, .null, .null])) := by rw [hcf2]; exact (mi_up_n (by omega)).trans he1_0
  have he2_r : cf2 1 = some (.inr (0, [.int (nI (0)), .ref (mi_de D), .int (nI (0))])) := by rw [hcf2]; exact mi_up_s
  refine fp_X4_12 S E hS hW 0 ha1_0 he2_0 (Nat.le_of_ble_eq_true rfl) rfl rfl hn dX4_init_12 (fun H locs hW hS hz => ?_)
  obtain ⟨cf3, hcf3⟩ : ∃ z, z = va_up cf2 0 (some (.inr (5, [.ref (a1), .null, .null, .null, .null]))) := ⟨_, rfl⟩
  have hW : mi_W D A ad1 cf3 H := by rw [hcf3]; exact hW
  have he3_0 : cf3 1 = some (.inr (0, [.int (nI (0)), .ref (mi_de D), .int (nI (0))])) := by rw [hcf3]; exact (mi_up_n (by omega)).trans he2_r
  have he3_r : cf3 0 = some (.inr (5, [.ref (a1), .null, .null, .null, .null])) := by rw [hcf3]; exact mi_up_s
  refine lv_aload_n S.1 S.2.1 dX4_init_15 rfl (lv_at hl 0 rfl) ?_
  obtain ⟨a4, hn4⟩ : ∃ z, z = H.size := ⟨_, rfl⟩
  refine mi_new (ci := 0) (fs := [.int (nI (0)), .null, .int (nI (0))]) S E hS hA hW 2 rfl (mg_Jx4a65c _) tyJx4a65c tyJx4a65c_ok (fun j hj => by rcases (show j = 0 ∨ j = 1 ∨ j = 2 by omega) with rfl | rfl | rfl <;> rfl) (List.mem_cons_of_mem _ mw_46) (List.mem_cons_of_mem _ mw_47) (List.mem_cons_of_mem _ mw_21) (by show _ ≤ (10 : Nat); omega) (by show _ ≤ (1410 : Nat); omega) dX4_init_16 (fun H9 hW hS hz => ?_)
  rw [← hn4] at hW hz ⊢
  obtain ⟨H, rfl⟩ : ∃ z, z = H9 := ⟨_, rfl⟩
  obtain ⟨ad4, had4⟩ : ∃ z, z = va_up ad1 2 a4 := ⟨_, rfl⟩
  obtain ⟨cf4, hcf4⟩ : ∃ z, z = va_up cf3 2 (some (.inr (0, [.int (nI (0)), .null, .int (nI (0))]))) := ⟨_, rfl⟩
  have hW : mi_W D A ad4 cf4 H := by rw [had4, hcf4]; exact hW
  have he4_0 : cf4 1 = some (.inr (0, [.int (nI (0)), .ref (mi_de D), .int (nI (0))])) := by rw [hcf4]; exact (mi_up_n (by omega)).trans he3_0
  have ha4_0 : ad4 1 = a1 := by rw [had4]; exact (mi_up_n (by omega)).trans ha1_r
  have he4_1 : cf4 0 = some (.inr (5, [.ref (a1), .null, .null, .null, .null])) := by rw [hcf4]; exact (mi_up_n (by omega)).trans he3_r
  have ha4_1 : ad4 0 = a := by rw [had4]; exact (mi_up_n (by omega)).trans ha1_0
  have he4_r : cf4 2 = some (.inr (0, [.int (nI (0)), .null, .int (nI (0))])) := by rw [hcf4]; exact mi_up_s
  have ha4_r : ad4 2 = a4 := by rw [had4]; exact mi_up_s
  refine lv_dup S.1 S.2.1 dX4_init_19 rfl ?_
  refine mi_cMv (mi_runI (P := mi_W D A ad4 cf4) (As := []) (rest := [.ref (a4), .ref (a)]) S E hS hW a4 (c_AL_init l D A ha4_r he4_r) mw_50 mw_48 mw_49 mw_21 rfl ⟨by decide, by decide, by decide +kernel⟩ ⟨rfl, rfl, Nat.le_of_ble_eq_true rfl, Nat.le_of_ble_eq_true rfl⟩ (n := 0) rfl hl.1 rfl (Nat.le_of_ble_eq_true rfl) dX4_init_20 ⟨(by show _ ≤ (10 : Nat); omega), (by show _ ≤ (1410 : Nat); omega)⟩) hS (fun H locs hW hS hz => ?_)
  obtain ⟨cf5, hcf5⟩ : ∃ z, z = va_up cf4 2 (some (.inr (0, [.int (nI (0)), .ref (mi_de D), .int (nI (0))]))) := ⟨_, rfl⟩
  have hW : mi_W D A ad4 cf5 H := by rw [hcf5]; exact hW
  have he5_0 : cf5 1 = some (.inr (0, [.int (nI (0)), .ref (mi_de D), .int (nI (0))])) := by rw [hcf5]; exact (mi_up_n (by omega)).trans he4_0
  have he5_1 : cf5 0 = some (.inr (5, [.ref (a1), .null, .null, .null, .null])) := by rw [hcf5]; exact (mi_up_n (by omega)).trans he4_1
  have he5_r : cf5 2 = some (.inr (0, [.int (nI (0)), .ref (mi_de D), .int (nI (0))])) := by rw [hcf5]; exact mi_up_s
  refine fp_X4_16 S E hS hW 0 ha4_1 he5_1 (Nat.le_of_ble_eq_true rfl) rfl rfl hn dX4_init_23 (fun H locs hW hS hz => ?_)
  obtain ⟨cf6, hcf6⟩ : ∃ z, z = va_up cf5 0 (some (.inr (5, [.ref (a1), .ref (a4), .null, .null, .null]))) := ⟨_, rfl⟩
  have hW : mi_W D A ad4 cf6 H := by rw [hcf6]; exact hW
  have he6_0 : cf6 1 = some (.inr (0, [.int (nI (0)), .ref (mi_de D), .int (nI (0))])) := by rw [hcf6]; exact (mi_up_n (by omega)).trans he5_0
  have he6_1 : cf6 2 = some (.inr (0, [.int (nI (0)), .ref (mi_de D), .int (nI (0))])) := by rw [hcf6]; exact (mi_up_n (by omega)).trans he5_r
  have he6_r : cf6 0 = some (.inr (5, [.ref (a1), .ref (a4), .null, .null, .null])) := by rw [hcf6]; exact mi_up_s
  refine lv_aload_n S.1 S.2.1 dX4_init_26 rfl (lv_at hl 0 rfl) ?_
  obtain ⟨a7, hn7⟩ : ∃ z, z = H.size := ⟨_, rfl⟩
  refine mi_new (ci := 0) (fs := [.int (nI (0)), .null, .int (nI (0))]) S E hS hA hW 3 rfl (mg_Jx4a65c _) tyJx4a65c tyJx4a65c_ok (fun j hj => by rcases (show j = 0 ∨ j = 1 ∨ j = 2 by omega) with rfl | rfl | rfl <;> rfl) (List.mem_cons_of_mem _ mw_46) (List.mem_cons_of_mem _ mw_47) (List.mem_cons_of_mem _ mw_21) (by show _ ≤ (10 : Nat); omega) (by show _ ≤ (1410 : Nat); omega) dX4_init_27 (fun H9 hW hS hz => ?_)
  rw [← hn7] at hW hz ⊢
  obtain ⟨H, rfl⟩ : ∃ z, z = H9 := ⟨_, rfl⟩
  obtain ⟨ad7, had7⟩ : ∃ z, z = va_up ad4 3 a7 := ⟨_, rfl⟩
  obtain ⟨cf7, hcf7⟩ : ∃ z, z = va_up cf6 3 (some (.inr (0, [.int (nI (0)), .null, .int (nI (0))]))) := ⟨_, rfl⟩
  have hW : mi_W D A ad7 cf7 H := by rw [had7, hcf7]; exact hW
  have he7_0 : cf7 1 = some (.inr (0, [.int (nI (0)), .ref (mi_de D), .int (nI (0))])) := by rw [hcf7]; exact (mi_up_n (by omega)).trans he6_0
  have ha7_0 : ad7 1 = a1 := by rw [had7]; exact (mi_up_n (by omega)).trans ha4_0
  have he7_1 : cf7 2 = some (.inr (0, [.int (nI (0)), .ref (mi_de D), .int (nI (0))])) := by rw [hcf7]; exact (mi_up_n (by omega)).trans he6_1
  have ha7_1 : ad7 2 = a4 := by rw [had7]; exact (mi_up_n (by omega)).trans ha4_r
  have he7_2 : cf7 0 = some (.inr (5, [.ref (a1), .ref (a4), .null, .null, .null])) := by rw [hcf7]; exact (mi_up_n (by omega)).trans he6_r
  have ha7_2 : ad7 0 = a := by rw [had7]; exact (mi_up_n (by omega)).trans ha4_1
  have he7_r : cf7 3 = some (.inr (0, [.int (nI (0)), .null, .int (nI (0))])) := by rw [hcf7]; exact mi_up_s
  have ha7_r : ad7 3 = a7 := by rw [had7]; exact mi_up_s
  refine lv_dup S.1 S.2.1 dX4_init_30 rfl ?_
  refine mi_cMv (mi_runI (P := mi_W D A ad7 cf7) (As := []) (rest := [.ref (a7), .ref (a)]) S E hS hW a7 (c_AL_init l D A ha7_r he7_r) mw_50 mw_48 mw_49 mw_21 rfl ⟨by decide, by decide, by decide +kernel⟩ ⟨rfl, rfl, Nat.le_of_ble_eq_true rfl, Nat.le_of_ble_eq_true rfl⟩ (n := 0) rfl hl.1 rfl (Nat.le_of_ble_eq_true rfl) dX4_init_31 ⟨(by show _ ≤ (10 : Nat); omega), (by show _ ≤ (1410 : Nat); omega)⟩) hS (fun H locs hW hS hz => ?_)
  obtain ⟨cf8, hcf8⟩ : ∃ z, z = va_up cf7 3 (some (.inr (0, [.int (nI (0)), .ref (mi_de D), .int (nI (0))]))) := ⟨_, rfl⟩
  have hW : mi_W D A ad7 cf8 H := by rw [hcf8]; exact hW
  have he8_0 : cf8 1 = some (.inr (0, [.int (nI (0)), .ref (mi_de D), .int (nI (0))])) := by rw [hcf8]; exact (mi_up_n (by omega)).trans he7_0
  have he8_1 : cf8 2 = some (.inr (0, [.int (nI (0)), .ref (mi_de D), .int (nI (0))])) := by rw [hcf8]; exact (mi_up_n (by omega)).trans he7_1
  have he8_2 : cf8 0 = some (.inr (5, [.ref (a1), .ref (a4), .null, .null, .null])) := by rw [hcf8]; exact (mi_up_n (by omega)).trans he7_2
  have he8_r : cf8 3 = some (.inr (0, [.int (nI (0)), .ref (mi_de D), .int (nI (0))])) := by rw [hcf8]; exact mi_up_s
  refine fp_X4_19 S E hS hW 0 ha7_2 he8_2 (Nat.le_of_ble_eq_true rfl) rfl rfl hn dX4_init_34 (fun H locs hW hS hz => ?_)
  obtain ⟨cf9, hcf9⟩ : ∃ z, z = va_up cf8 0 (some (.inr (5, [.ref (a1), .ref (a4), .ref (a7), .null, .null]))) := ⟨_, rfl⟩
  have hW : mi_W D A ad7 cf9 H := by rw [hcf9]; exact hW
  have he9_0 : cf9 1 = some (.inr (0, [.int (nI (0)), .ref (mi_de D), .int (nI (0))])) := by rw [hcf9]; exact (mi_up_n (by omega)).trans he8_0
  have he9_1 : cf9 2 = some (.inr (0, [.int (nI (0)), .ref (mi_de D), .int (nI (0))])) := by rw [hcf9]; exact (mi_up_n (by omega)).trans he8_1
  have he9_2 : cf9 3 = some (.inr (0, [.int (nI (0)), .ref (mi_de D), .int (nI (0))])) := by rw [hcf9]; exact (mi_up_n (by omega)).trans he8_r
  have he9_r : cf9 0 = some (.inr (5, [.ref (a1), .ref (a4), .ref (a7), .null, .null])) := by rw [hcf9]; exact mi_up_s
  refine lv_aload_n S.1 S.2.1 dX4_init_37 rfl (lv_at hl 0 rfl) ?_
  obtain ⟨a10, hn10⟩ : ∃ z, z = H.size := ⟨_, rfl⟩
  refine mi_new (ci := 3) (fs := [.null, .null, .int (nI (0))]) S E hS hA hW 4 rfl (mg_X2 _) tyX2 tyX2_ok (fun j hj => by rcases (show j = 0 ∨ j = 1 ∨ j = 2 by omega) with rfl | rfl | rfl <;> rfl) (List.mem_cons_of_mem _ mw_72) (List.mem_cons_of_mem _ mw_73) (List.mem_cons_of_mem _ mw_22) (by show _ ≤ (10 : Nat); omega) (by show _ ≤ (1410 : Nat); omega) dX4_init_38 (fun H9 hW hS hz => ?_)
  rw [← hn10] at hW hz ⊢
  obtain ⟨H, rfl⟩ : ∃ z, z = H9 := ⟨_, rfl⟩
  obtain ⟨ad10, had10⟩ : ∃ z, z = va_up ad7 4 a10 := ⟨_, rfl⟩
  obtain ⟨cf10, hcf10⟩ : ∃ z, z = va_up cf9 4 (some (.inr (3, [.null, .null, .int (nI (0))]))) := ⟨_, rfl⟩
  have hW : mi_W D A ad10 cf10 H := by rw [had10, hcf10]; exact hW
  have he10_0 : cf10 1 = some (.inr (0, [.int (nI (0)), .ref (mi_de D), .int (nI (0))])) := by rw [hcf10]; exact (mi_up_n (by omega)).trans he9_0
  have ha10_0 : ad10 1 = a1 := by rw [had10]; exact (mi_up_n (by omega)).trans ha7_0
  have he10_1 : cf10 2 = some (.inr (0, [.int (nI (0)), .ref (mi_de D), .int (nI (0))])) := by rw [hcf10]; exact (mi_up_n (by omega)).trans he9_1
  have ha10_1 : ad10 2 = a4 := by rw [had10]; exact (mi_up_n (by omega)).trans ha7_1
  have he10_2 : cf10 3 = some (.inr (0, [.int (nI (0)), .ref (mi_de D), .int (nI (0))])) := by rw [hcf10]; exact (mi_up_n (by omega)).trans he9_2
  have ha10_2 : ad10 3 = a7 := by rw [had10]; exact (mi_up_n (by omega)).trans ha7_r
  have he10_3 : cf10 0 = some (.inr (5, [.ref (a1), .ref (a4), .ref (a7), .null, .null])) := by rw [hcf10]; exact (mi_up_n (by omega)).trans he9_r
  have ha10_3 : ad10 0 = a := by rw [had10]; exact (mi_up_n (by omega)).trans ha7_2
  have he10_r : cf10 4 = some (.inr (3, [.null, .null, .int (nI (0))])) := by rw [hcf10]; exact mi_up_s
  have ha10_r : ad10 4 = a10 := by rw [had10]; exact mi_up_s
  refine lv_dup S.1 S.2.1 dX4_init_41 rfl ?_
  refine mi_cMv (mi_runI (P := mi_W D A ad10 cf10) (As := []) (rest := [.ref (a10), .ref (a)]) S E hS hW a10 (c_PF_init l D A hAu ha10_r he10_r) mw_76 mw_74 mw_75 mw_22 rfl ⟨by decide, by decide, by decide +kernel⟩ ⟨rfl, rfl, Nat.le_of_ble_eq_true rfl, Nat.le_of_ble_eq_true rfl⟩ (n := 0) rfl hl.1 rfl (Nat.le_of_ble_eq_true rfl) dX4_init_42 ⟨(by show _ ≤ (10 : Nat); omega), (by show _ ≤ (1410 : Nat); omega)⟩) hS (fun H locs hp9 hS hz => ?_)
  obtain ⟨adP, cfP, hW, hpf, frP, aP⟩ := hp9
  have heP_0 := (frP 0 (by omega) (by omega) (by omega)).1.trans he10_3
  have haP_0 := (frP 0 (by omega) (by omega) (by omega)).2.trans ha10_3
  have heP_1 := (frP 1 (by omega) (by omega) (by omega)).1.trans he10_0
  have haP_1 := (frP 1 (by omega) (by omega) (by omega)).2.trans ha10_0
  have heP_2 := (frP 2 (by omega) (by omega) (by omega)).1.trans he10_1
  have haP_2 := (frP 2 (by omega) (by omega) (by omega)).2.trans ha10_1
  have heP_3 := (frP 3 (by omega) (by omega) (by omega)).1.trans he10_2
  have haP_3 := (frP 3 (by omega) (by omega) (by omega)).2.trans ha10_2
  have frB : ∀ k, k ≠ 0 → k ≠ 1 → k ≠ 2 → k ≠ 3 → k ≠ 4 → k ≠ 5 → k ≠ 6 → cfP k = cf k ∧ adP k = ad k := fun k k0 k1 k2 k3 k4 k5 k6 => ⟨by rw [(frP k k4 k5 k6).1, hcf10, mi_up_n (by omega), hcf9, mi_up_n (by omega), hcf8, mi_up_n (by omega), hcf7, mi_up_n (by omega), hcf6, mi_up_n (by omega), hcf5, mi_up_n (by omega), hcf4, mi_up_n (by omega), hcf3, mi_up_n (by omega), hcf2, mi_up_n (by omega), hcf1, mi_up_n (by omega)], by rw [(frP k k4 k5 k6).2, had10, mi_up_n (by omega), had7, mi_up_n (by omega), had4, mi_up_n (by omega), had1, mi_up_n (by omega)]⟩
  refine fp_X4_25 S E hS hW 0 haP_0 heP_0 (Nat.le_of_ble_eq_true rfl) rfl rfl hn dX4_init_45 (fun H locs hW hS hz => ?_)
  obtain ⟨cf11, hcf11⟩ : ∃ z, z = va_up cfP 0 (some (.inr (5, [.ref (a1), .ref (a4), .ref (a7), .ref (a10), .null]))) := ⟨_, rfl⟩
  have hW : mi_W D A adP cf11 H := by rw [hcf11]; exact hW
  have he11_0 : cf11 1 = some (.inr (0, [.int (nI (0)), .ref (mi_de D), .int (nI (0))])) := by rw [hcf11]; exact (mi_up_n (by omega)).trans heP_1
  have he11_1 : cf11 2 = some (.inr (0, [.int (nI (0)), .ref (mi_de D), .int (nI (0))])) := by rw [hcf11]; exact (mi_up_n (by omega)).trans heP_2
  have he11_2 : cf11 3 = some (.inr (0, [.int (nI (0)), .ref (mi_de D), .int (nI (0))])) := by rw [hcf11]; exact (mi_up_n (by omega)).trans heP_3
  have he11_3 : cf11 4 = some (.inr (3, [.ref (adP 5), .ref (adP 6), .int (nI 0)])) := by rw [hcf11]; exact (mi_up_n (by omega)).trans hpf.1
  have he11_r : cf11 0 = some (.inr (5, [.ref (a1), .ref (a4), .ref (a7), .ref (a10), .null])) := by rw [hcf11]; exact mi_up_s
  refine lv_aload_n S.1 S.2.1 dX4_init_48 rfl (lv_at hl 0 rfl) ?_
  obtain ⟨a12, hn12⟩ : ∃ z, z = H.size := ⟨_, rfl⟩
  refine mi_new (ci := 4) (fs := [.int (nI (0)), .null, .null]) S E hS hA hW 100 rfl (mg_X3 _) tyX3 tyX3_ok (fun j hj => by rcases (show j = 0 ∨ j = 1 ∨ j = 2 by omega) with rfl | rfl | rfl <;> rfl) (List.mem_cons_of_mem _ mw_89) (List.mem_cons_of_mem _ mw_90) (List.mem_cons_of_mem _ mw_23) (by show _ ≤ (10 : Nat); omega) (by show _ ≤ (1410 : Nat); omega) dX4_init_49 (fun H9 hW hS hz => ?_)
  rw [← hn12] at hW hz ⊢
  obtain ⟨H, rfl⟩ : ∃ z, z = H9 := ⟨_, rfl⟩
  obtain ⟨ad12, had12⟩ : ∃ z, z = va_up adP 100 a12 := ⟨_, rfl⟩
  obtain ⟨cf12, hcf12⟩ : ∃ z, z = va_up cf11 100 (some (.inr (4, [.int (nI (0)), .null, .null]))) := ⟨_, rfl⟩
  have hW : mi_W D A ad12 cf12 H := by rw [had12, hcf12]; exact hW
  have he12_0 : cf12 1 = some (.inr (0, [.int (nI (0)), .ref (mi_de D), .int (nI (0))])) := by rw [hcf12]; exact (mi_up_n (by omega)).trans he11_0
  have ha12_0 : ad12 1 = a1 := by rw [had12]; exact (mi_up_n (by omega)).trans haP_1
  have he12_1 : cf12 2 = some (.inr (0, [.int (nI (0)), .ref (mi_de D), .int (nI (0))])) := by rw [hcf12]; exact (mi_up_n (by omega)).trans he11_1
  have ha12_1 : ad12 2 = a4 := by rw [had12]; exact (mi_up_n (by omega)).trans haP_2
  have he12_2 : cf12 3 = some (.inr (0, [.int (nI (0)), .ref (mi_de D), .int (nI (0))])) := by rw [hcf12]; exact (mi_up_n (by omega)).trans he11_2
  have ha12_2 : ad12 3 = a7 := by rw [had12]; exact (mi_up_n (by omega)).trans haP_3
  have he12_3 : cf12 4 = some (.inr (3, [.ref (adP 5), .ref (adP 6), .int (nI 0)])) := by rw [hcf12]; exact (mi_up_n (by omega)).trans he11_3
  have ha12_3 : ad12 4 = a10 := by rw [had12]; exact (mi_up_n (by omega)).trans aP
  have he12_4 : cf12 0 = some (.inr (5, [.ref (a1), .ref (a4), .ref (a7), .ref (a10), .null])) := by rw [hcf12]; exact (mi_up_n (by omega)).trans he11_r
  have ha12_4 : ad12 0 = a := by rw [had12]; exact (mi_up_n (by omega)).trans haP_0
  have he12_r : cf12 100 = some (.inr (4, [.int (nI (0)), .null, .null])) := by rw [hcf12]; exact mi_up_s
  have ha12_r : ad12 100 = a12 := by rw [had12]; exact mi_up_s
  refine lv_dup S.1 S.2.1 dX4_init_52 rfl ?_
  refine lv_iconst (v := nI 0) S.1 S.2.1 dX4_init_53 (by decide) ?_
  refine lv_null S.1 S.2.1 dX4_init_54 ?_
  refine lv_sipush (v := nI 128) S.1 S.2.1 dX4_init_55 (by decide) ?_
  obtain ⟨a13, hn13⟩ : ∃ z, z = H.size := ⟨_, rfl⟩
  refine mi_newi S E hS hA hW 101 (List.mem_cons_of_mem _ mw_88) (by omega) (by show _ ≤ (10 : Nat); omega) (by show _ ≤ (1410 : Nat); omega) dX4_init_58 (fun H9 hW hS hz => ?_)
  rw [← hn13] at hW hz ⊢
  obtain ⟨H, rfl⟩ : ∃ z, z = H9 := ⟨_, rfl⟩
  obtain ⟨ad13, had13⟩ : ∃ z, z = va_up ad12 101 a13 := ⟨_, rfl⟩
  obtain ⟨cf13, hcf13⟩ : ∃ z, z = va_up cf12 101 (some (mi_ai D 128 (fun _ => 0))) := ⟨_, rfl⟩
  have hW : mi_W D A ad13 cf13 H := by rw [had13, hcf13]; exact hW
  have he13_0 : cf13 1 = some (.inr (0, [.int (nI (0)), .ref (mi_de D), .int (nI (0))])) := by rw [hcf13]; exact (mi_up_n (by omega)).trans he12_0
  have ha13_0 : ad13 1 = a1 := by rw [had13]; exact (mi_up_n (by omega)).trans ha12_0
  have he13_1 : cf13 2 = some (.inr (0, [.int (nI (0)), .ref (mi_de D), .int (nI (0))])) := by rw [hcf13]; exact (mi_up_n (by omega)).trans he12_1
  have ha13_1 : ad13 2 = a4 := by rw [had13]; exact (mi_up_n (by omega)).trans ha12_1
  have he13_2 : cf13 3 = some (.inr (0, [.int (nI (0)), .ref (mi_de D), .int (nI (0))])) := by rw [hcf13]; exact (mi_up_n (by omega)).trans he12_2
  have ha13_2 : ad13 3 = a7 := by rw [had13]; exact (mi_up_n (by omega)).trans ha12_2
  have he13_3 : cf13 4 = some (.inr (3, [.ref (adP 5), .ref (adP 6), .int (nI 0)])) := by rw [hcf13]; exact (mi_up_n (by omega)).trans he12_3
  have ha13_3 : ad13 4 = a10 := by rw [had13]; exact (mi_up_n (by omega)).trans ha12_3
  have he13_4 : cf13 0 = some (.inr (5, [.ref (a1), .ref (a4), .ref (a7), .ref (a10), .null])) := by rw [hcf13]; exact (mi_up_n (by omega)).trans he12_4
  have ha13_4 : ad13 0 = a := by rw [had13]; exact (mi_up_n (by omega)).trans ha12_4
  have he13_5 : cf13 100 = some (.inr (4, [.int (nI (0)), .null, .null])) := by rw [hcf13]; exact (mi_up_n (by omega)).trans he12_r
  have ha13_5 : ad13 100 = a12 := by rw [had13]; exact (mi_up_n (by omega)).trans ha12_r
  have he13_r : cf13 101 = some (mi_ai D 128 (fun _ => 0)) := by rw [hcf13]; exact mi_up_s
  have ha13_r : ad13 101 = a13 := by rw [had13]; exact mi_up_s
  refine mi_cMv (mi_runI (P := mi_W D A ad13 cf13) (As := [.int (nI (0)), .null, .ref (a13)]) (rest := [.ref (a12), .ref (a)]) S E hS hW a12 (c_State_init0 l D A ha13_5 he13_5) mw_93 mw_91 mw_92 mw_23 rfl ⟨by decide, by decide, by decide +kernel⟩ ⟨rfl, rfl, Nat.le_of_ble_eq_true rfl, Nat.le_of_ble_eq_true rfl⟩ (n := 3) rfl hl.1 rfl (Nat.le_of_ble_eq_true rfl) dX4_init_60 ⟨(by show _ ≤ (10 : Nat); omega), (by show _ ≤ (1410 : Nat); omega)⟩) hS (fun H locs hW hS hz => ?_)
  obtain ⟨cf14, hcf14⟩ : ∃ z, z = va_up cf13 100 (some (.inr (4, [.int (nI (0)), .null, .ref (a13)]))) := ⟨_, rfl⟩
  have hW : mi_W D A ad13 cf14 H := by rw [hcf14]; exact hW
  have he14_0 : cf14 1 = some (.inr (0, [.int (nI (0)), .ref (mi_de D), .int (nI (0))])) := by rw [hcf14]; exact (mi_up_n (by omega)).trans he13_0
  have he14_1 : cf14 2 = some (.inr (0, [.int (nI (0)), .ref (mi_de D), .int (nI (0))])) := by rw [hcf14]; exact (mi_up_n (by omega)).trans he13_1
  have he14_2 : cf14 3 = some (.inr (0, [.int (nI (0)), .ref (mi_de D), .int (nI (0))])) := by rw [hcf14]; exact (mi_up_n (by omega)).trans he13_2
  have he14_3 : cf14 4 = some (.inr (3, [.ref (adP 5), .ref (adP 6), .int (nI 0)])) := by rw [hcf14]; exact (mi_up_n (by omega)).trans he13_3
  have he14_4 : cf14 0 = some (.inr (5, [.ref (a1), .ref (a4), .ref (a7), .ref (a10), .null])) := by rw [hcf14]; exact (mi_up_n (by omega)).trans he13_4
  have he14_5 : cf14 101 = some (mi_ai D 128 (fun _ => 0)) := by rw [hcf14]; exact (mi_up_n (by omega)).trans he13_r
  have he14_r : cf14 100 = some (.inr (4, [.int (nI (0)), .null, .ref (a13)])) := by rw [hcf14]; exact mi_up_s
  refine fp_X4_34 S E hS hW 0 ha13_4 he14_4 (Nat.le_of_ble_eq_true rfl) rfl rfl dX4_init_63 (fun H locs hW hS hz => ?_)
  obtain ⟨cf15, hcf15⟩ : ∃ z, z = va_up cf14 0 (some (.inr (5, [.ref (a1), .ref (a4), .ref (a7), .ref (a10), .ref (a12)]))) := ⟨_, rfl⟩
  have hW : mi_W D A ad13 cf15 H := by rw [hcf15]; exact hW
  have he15_0 : cf15 1 = some (.inr (0, [.int (nI (0)), .ref (mi_de D), .int (nI (0))])) := by rw [hcf15]; exact (mi_up_n (by omega)).trans he14_0
  have he15_1 : cf15 2 = some (.inr (0, [.int (nI (0)), .ref (mi_de D), .int (nI (0))])) := by rw [hcf15]; exact (mi_up_n (by omega)).trans he14_1
  have he15_2 : cf15 3 = some (.inr (0, [.int (nI (0)), .ref (mi_de D), .int (nI (0))])) := by rw [hcf15]; exact (mi_up_n (by omega)).trans he14_2
  have he15_3 : cf15 4 = some (.inr (3, [.ref (adP 5), .ref (adP 6), .int (nI 0)])) := by rw [hcf15]; exact (mi_up_n (by omega)).trans he14_3
  have he15_4 : cf15 101 = some (mi_ai D 128 (fun _ => 0)) := by rw [hcf15]; exact (mi_up_n (by omega)).trans he14_5
  have he15_5 : cf15 100 = some (.inr (4, [.int (nI (0)), .null, .ref (a13)])) := by rw [hcf15]; exact (mi_up_n (by omega)).trans he14_r
  have he15_r : cf15 0 = some (.inr (5, [.ref (a1), .ref (a4), .ref (a7), .ref (a10), .ref (a12)])) := by rw [hcf15]; exact mi_up_s
  have a5 : ad13 5 = adP 5 := by rw [had13, mi_up_n (by omega), had12, mi_up_n (by omega)]
  have a6 : ad13 6 = adP 6 := by rw [had13, mi_up_n (by omega), had12, mi_up_n (by omega)]
  have hpf4 : cf15 4 = some (.inr (3, [.ref (ad13 5), .ref (ad13 6), .int (nI 0)])) := by rw [a5, a6]; exact he15_3
  have hpf5 : cf15 5 = some (mi_ai D 128 (fun j => nI ((fun _ => 0 : Nat → Nat) j))) := by rw [hcf15, mi_up_n (by omega), hcf14, mi_up_n (by omega), hcf13, mi_up_n (by omega), hcf12, mi_up_n (by omega), hcf11, mi_up_n (by omega)]; exact hpf.2.1
  have hpf6 : cf15 6 = some (mi_ai D 128 (fun j => nI ((fun _ => 0 : Nat → Nat) j))) := by rw [hcf15, mi_up_n (by omega), hcf14, mi_up_n (by omega), hcf13, mi_up_n (by omega), hcf12, mi_up_n (by omega), hcf11, mi_up_n (by omega)]; exact hpf.2.2
  refine lv_aload_n S.1 S.2.1 dX4_init_66 rfl (lv_at hl 0 rfl) ?_
  refine fg_X4_12 S E hW 0 ha13_4 he15_r rfl dX4_init_67 ?_
  refine lv_aload_n S.1 S.2.1 dX4_init_70 rfl (lv_at hl 0 rfl) ?_
  refine fg_X4_34 S E hW 0 ha13_4 he15_r rfl dX4_init_71 ?_
  refine mi_two (v' := .ref (ad13 100)) (u' := .ref (ad13 1)) (congrArg Value.ref (Eq.symm ha13_5)) (congrArg Value.ref (Eq.symm ha13_0)) ?_
  have h999 : cf15 999 = none := by rw [hcf15, mi_up_n (by omega), hcf14, mi_up_n (by omega), hcf13, mi_up_n (by omega), hcf12, mi_up_n (by omega), hcf11, mi_up_n (by omega)]; exact (frB 999 (by omega) (by omega) (by omega) (by omega) (by omega) (by omega) (by omega)).1.trans h9
  refine mi_cMi (mi_runV (P := mi_W D A ad13 cf15) (As := [.ref (ad13 100)]) (rest := []) S E hS hW (ad13 1) (c_addL l D A hAu (r := 1) (q := 11) (n := 0) (g := fun i => 100 + 2 * i) ⟨_, Or.inl ⟨rfl, he15_0⟩⟩ (by omega) (ro := 100) he15_5 rfl (by decide) (by omega) (by omega) (by omega) (by omega) (by omega) (by omega) h999 (fun i hi => absurd hi (Nat.not_lt_zero i))) (hW.recv E he15_0 rfl) mw_111 mw_108 mw_109 mw_110 mw_21 ⟨by decide, by decide, by decide +kernel⟩ ⟨rfl, rfl, Nat.le_of_ble_eq_true rfl, Nat.le_of_ble_eq_true rfl⟩ (n := 1) rfl hl.1 rfl (Nat.le_of_ble_eq_true rfl) dX4_init_74 ⟨(by show _ ≤ (10 : Nat); omega), (by show _ ≤ (1410 : Nat); omega)⟩) hS (fun r9 H locs hp9 hS hz => ?_)
  obtain ⟨e9, adL, cfL, hW, kL, frL, aL⟩ := hp9
  refine lv_pop S.1 S.2.1 dX4_init_77 rfl ?_
  refine mi_retMv S hr hk hS dX4_init_78 (by show _ ≤ (10 : Nat); omega) (by show _ ≤ (1410 : Nat); omega) ⟨adL, cfL, hW, ⟨?_, ?_, ⟨_, Or.inl ⟨rfl, (frL 2 (by omega) (by omega)).1.trans he15_1⟩⟩, ⟨_, Or.inl ⟨rfl, (frL 3 (by omega) (by omega)).1.trans he15_2⟩⟩, ⟨fun _ => 0, fun _ => 0, 0, ?_, ?_, ?_⟩, fun i hi => ?_, ⟨fun _ _ => 0, fun _ => 0, fun _ => 0, fun d hd => absurd hd (Nat.not_lt_zero d), fun i hi => absurd hi (Nat.not_lt_zero i)⟩, ?_⟩, fun k hk => ⟨?_, ?_⟩, ?_⟩
  · unfold rx_ob
    show cfL 0 = some (.inr (5, [.ref (adL 1), .ref (adL 2), .ref (adL 3), .ref (adL 4), .ref (adL 100)]))
    rw [(frL 0 (by omega) (by omega)).1, aL, ha13_0, (frL 2 (by omega) (by omega)).2, ha13_1, (frL 3 (by omega) (by omega)).2, ha13_2, (frL 4 (by omega) (by omega)).2, ha13_3, (frL 100 (by omega) (by omega)).2, ha13_5]; exact he15_r
  · rw [mi_un_id (g := fun i => 100 + 2 * i) rfl] at kL; exact kL
  · rw [(frL 4 (by omega) (by omega)).1, (frL 5 (by omega) (by omega)).2, (frL 6 (by omega) (by omega)).2]; exact hpf4
  · exact (frL 5 (by omega) (by omega)).1.trans hpf5
  · exact (frL 6 (by omega) (by omega)).1.trans hpf6
  · have hi : i < 1 := hi
    obtain rfl : i = 0 := by omega
    refine ⟨?_, ?_⟩
    · show cfL 100 = some (.inr (4, [.int (nI 0), .null, .ref (adL 101)]))
      rw [(frL 100 (by omega) (by omega)).1, (frL 101 (by omega) (by omega)).2, ha13_r]; exact he15_5
    · exact (frL 101 (by omega) (by omega)).1.trans he15_4
  · exact (frL 999 (by omega) (by omega)).1.trans h999
  · rw [(frL k (by omega) (by omega)).1, hcf15, mi_up_n (by omega), hcf14, mi_up_n (by omega), hcf13, mi_up_n (by omega), hcf12, mi_up_n (by omega), hcf11, mi_up_n (by omega), (frB k (by omega) (by omega) (by omega) (by omega) (by omega) (by omega) (by omega)).1]
  · rw [(frL k (by omega) (by omega)).2, had13, mi_up_n (by omega), had12, mi_up_n (by omega), (frB k (by omega) (by omega) (by omega) (by omega) (by omega) (by omega) (by omega)).2]
  · exact (frL 0 (by omega) (by omega)).2.trans (ha13_4.trans (Eq.symm ha0))
