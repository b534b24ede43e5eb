/-! the reference begins -/
def st_0 : sT := fun k i _ => if k = 0 ∧ i = 0 then 1 else 0
def mo_f0 : Nat → Int32 := fun k => if k = 1 then 1 else 0
def mo_g0 : Nat → Nat → Int32 := fun k => if k = 3 then upd (fun _ => 0) 0 (-1) else fun _ => 0
theorem mo_kd_0 {l : Nat} (hl : l < 8) : mo_kd 0 l = nI 0 := by
  refine mo_kd_ext (y := 0) ?_ ?_ |>.trans ?_
  · rfl
  · rfl
  · refine b_ext (fun i hi => ?_)
    rcases Nat.lt_or_ge i 2 with h | h
    · rw [mo_kd_bt hl h, b_0]
      exact (b_0 i).symm
    · rw [mo_kd_hi h]
      exact (b_0 i).symm
theorem st_mo_st0 : st_mo st_0 mo_f0 mo_g0 := by
  refine ⟨⟨rfl, rfl, rfl, rfl⟩, rfl, fun i h1 h2 => ?_, fun i c h1 h2 => ?_, fun d c h1 => ?_, fun d h1 => ?_, fun i h1 => ?_, fun i c h1 => ?_⟩
  · have h2 : i < 1 := h2
    omega
  · have h1 : i < 1 := h1
    obtain rfl : i = 0 := by omega
    exact ⟨fun l hl => mo_kd_0 hl, fun b _ => b_0 b⟩
  · exact absurd h1 (Nat.not_lt_zero _)
  · exact absurd h1 (Nat.not_lt_zero _)
  · exact absurd h1 (Nat.not_lt_zero _)
  · exact absurd h1 (Nat.not_lt_zero _)
theorem st_ok_st0 : st_ok st_0 := by
  refine ⟨⟨by decide, by decide, by decide, by decide, by decide⟩, fun i h1 h2 => ?_, fun i p h1 h2 => ?_, fun d c h1 => ?_, fun d h1 => ?_, fun i c h1 => ?_, fun i h1 => ?_⟩
  · have h2 : i < 1 := h2
    omega
  · show 0 < 4
    omega
  · exact absurd h1 (Nat.not_lt_zero _)
  · exact absurd h1 (Nat.not_lt_zero _)
  · exact absurd h1 (Nat.not_lt_zero _)
  · exact absurd h1 (Nat.not_lt_zero _)
set_option maxHeartbeats 4000000 in
set_option maxRecDepth 100000 in
theorem c_minit (l : Launch) (D : va_G) (A : Nat → Prop) {ad : Nat → Nat} {cf : Nat → Option va_E} {a : Nat} (hAu : ∀ a b, A a → a ≤ b → A b) (ha0 : ad 1000020 = a) (hr0 : cf 1000020 = some (.inr (6, [.int (nI (0)), .int (nI (0)), .int (nI (0)), .null, .null, .null, .int (nI (0)), .null, .null, .null, .int (nI (0)), .null, .null, .null, .null]))) : mi_Mv l yX5_init (Cond.code yX5_init cX5_init 1 none) (mi_rq 1 10 2525) D A (mi_W D A ad cf) [.ref (a)] 10 2525 (fun H => ∃ ad1 cf1, mi_W D A ad1 cf1 H ∧ mo_at D ad1 cf1 mo_f0 mo_g0 ∧ (∀ r, (r < 1000000 ∨ 1000020 < r) → cf1 r = cf r ∧ ad1 r = ad r) ∧ ad1 1000020 = a) := by
  refine mi_start (cc := cX5_init) (nL := 1) (ret := none) rfl (by decide) (Nat.le_of_ble_eq_true rfl) ?_
  intro p e s m below meth c ls S E hW hS hr hk hn hl
  have S : CallFix p m c cX5_init 1 s _ ((Cond.code yX5_init cX5_init 1 none) :: mi_G) RX5 := S
  have hl : lv_has ls 1 [(0, .ref (a))] := hl
  have hA : ∀ q, s.heap.size ≤ q → A q := hW.up hAu hr0
  refine lv_aload_n S.1 S.2.1 dX5_init_0 rfl (lv_at hl 0 rfl) ?_
  refine W.objInit S.1 S.2.1 S.2.2.2.1 (S.2.2.2.2 _ (List.mem_cons_of_mem _ mw_676)) (S.2.2.2.2 _ (List.mem_cons_of_mem _ mw_60)) (S.2.2.2.2 _ (List.mem_cons_of_mem _ mw_61)) rfl (hl.1.trans S.2.2.1.symm) rfl dX5_init_1 (Nat.le_of_ble_eq_true rfl) (Nat.le_of_ble_eq_true rfl) ?_
  refine W.eq (g2 := F0 m 4 ls []) rfl ?_
  refine lv_aload_n S.1 S.2.1 dX5_init_4 rfl (lv_at hl 0 rfl) ?_
  refine lv_iconst (v := nI 1) S.1 S.2.1 dX5_init_5 (by decide) ?_
  refine fp_X5_7 S E hS hW 1000020 ha0 hr0 (Nat.le_of_ble_eq_true rfl) dX5_init_6 (fun H locs hW hS hz => ?_)
  obtain ⟨cf1, hcf1⟩ : ∃ z, z = va_up cf 1000020 (some (.inr (6, [.int (nI (0)), .int (nI (1)), .int (nI (0)), .null, .null, .null, .int (nI (0)), .null, .null, .null, .int (nI (0)), .null, .null, .null, .null]))) := ⟨_, rfl⟩
  have hW : mi_W D A ad cf1 H := by rw [hcf1]; exact hW
  have he1_r : cf1 1000020 = some (.inr (6, [.int (nI (0)), .int (nI (1)), .int (nI (0)), .null, .null, .null, .int (nI (0)), .null, .null, .null, .int (nI (0)), .null, .null, .null, .null])) := by rw [hcf1]; exact mi_up_s
  refine lv_aload_n S.1 S.2.1 dX5_init_9 rfl (lv_at hl 0 rfl) ?_
  refine lv_bipush (v := nI 61) S.1 S.2.1 dX5_init_10 (by decide) ?_
  obtain ⟨a2, hn2⟩ : ∃ z, z = H.size := ⟨_, rfl⟩
  refine mi_newi S E hS hA hW 1000003 (List.mem_cons_of_mem _ mw_104) (by omega) (by show _ ≤ (10 : Nat); omega) (by show _ ≤ (2525 : Nat); omega) dX5_init_12 (fun H9 hW hS hz => ?_)
  rw [← hn2] at hW hz ⊢
  obtain ⟨H, rfl⟩ : ∃ z, z = H9 := ⟨_, rfl⟩
  obtain ⟨ad2, had2⟩ : ∃ z, z = va_up ad 1000003 a2 := ⟨_, rfl⟩
  obtain ⟨cf2, hcf2⟩ : ∃ z, z = va_up cf1 1000003 (some (mi_ai D 61 (fun _ => 0))) := ⟨_, rfl⟩
  have hW : mi_W D A ad2 cf2 H := by rw [had2, hcf2]; exact hW
  have he2_0 : cf2 1000020 = some (.inr (6, [.int (nI (0)), .int (nI (1)), .int (nI (0)), .null, .null, .null, .int (nI (0)), .null, .null, .null, .int (nI (0)), .null, .null, .null, .null])) := by rw [hcf2]; exact (mi_up_n (by omega)).trans he1_r
  have ha2_0 : ad2 1000020 = a := by rw [had2]; exact (mi_up_n (by omega)).trans ha0
  have he2_r : cf2 1000003 = some (mi_ai D 61 (fun _ => 0)) := by rw [hcf2]; exact mi_up_s
  have ha2_r : ad2 1000003 = a2 := by rw [had2]; exact mi_up_s
  refine fp_X5_13 S E hS hW 1000020 ha2_0 he2_0 (Nat.le_of_ble_eq_true rfl) rfl rfl hn dX5_init_14 (fun H locs hW hS hz => ?_)
  obtain ⟨cf3, hcf3⟩ : ∃ z, z = va_up cf2 1000020 (some (.inr (6, [.int (nI (0)), .int (nI (1)), .int (nI (0)), .ref (a2), .null, .null, .int (nI (0)), .null, .null, .null, .int (nI (0)), .null, .null, .null, .null]))) := ⟨_, rfl⟩
  have hW : mi_W D A ad2 cf3 H := by rw [hcf3]; exact hW
  have he3_0 : cf3 1000003 = some (mi_ai D 61 (fun _ => 0)) := by rw [hcf3]; exact (mi_up_n (by omega)).trans he2_r
  have he3_r : cf3 1000020 = some (.inr (6, [.int (nI (0)), .int (nI (1)), .int (nI (0)), .ref (a2), .null, .null, .int (nI (0)), .null, .null, .null, .int (nI (0)), .null, .null, .null, .null])) := by rw [hcf3]; exact mi_up_s
  refine lv_aload_n S.1 S.2.1 dX5_init_17 rfl (lv_at hl 0 rfl) ?_
  refine lv_sipush (v := nI 976) S.1 S.2.1 dX5_init_18 (by decide) ?_
  obtain ⟨a4, hn4⟩ : ∃ z, z = H.size := ⟨_, rfl⟩
  refine mi_newi S E hS hA hW 1000004 (List.mem_cons_of_mem _ mw_104) (by omega) (by show _ ≤ (10 : Nat); omega) (by show _ ≤ (2525 : Nat); omega) dX5_init_21 (fun H9 hW hS hz => ?_)
  rw [← hn4] at hW hz ⊢
  obtain ⟨H, rfl⟩ : ∃ z, z = H9 := ⟨_, rfl⟩
  obtain ⟨ad4, had4⟩ : ∃ z, z = va_up ad2 1000004 a4 := ⟨_, rfl⟩
  obtain ⟨cf4, hcf4⟩ : ∃ z, z = va_up cf3 1000004 (some (mi_ai D 976 (fun _ => 0))) := ⟨_, rfl⟩
  have hW : mi_W D A ad4 cf4 H := by rw [had4, hcf4]; exact hW
  have he4_0 : cf4 1000003 = some (mi_ai D 61 (fun _ => 0)) := by rw [hcf4]; exact (mi_up_n (by omega)).trans he3_0
  have ha4_0 : ad4 1000003 = a2 := by rw [had4]; exact (mi_up_n (by omega)).trans ha2_r
  have he4_1 : cf4 1000020 = some (.inr (6, [.int (nI (0)), .int (nI (1)), .int (nI (0)), .ref (a2), .null, .null, .int (nI (0)), .null, .null, .null, .int (nI (0)), .null, .null, .null, .null])) := by rw [hcf4]; exact (mi_up_n (by omega)).trans he3_r
  have ha4_1 : ad4 1000020 = a := by rw [had4]; exact (mi_up_n (by omega)).trans ha2_0
  have he4_r : cf4 1000004 = some (mi_ai D 976 (fun _ => 0)) := by rw [hcf4]; exact mi_up_s
  have ha4_r : ad4 1000004 = a4 := by rw [had4]; exact mi_up_s
  refine fp_X5_17 S E hS hW 1000020 ha4_1 he4_1 (Nat.le_of_ble_eq_true rfl) rfl rfl hn dX5_init_23 (fun H locs hW hS hz => ?_)
  obtain ⟨cf5, hcf5⟩ : ∃ z, z = va_up cf4 1000020 (some (.inr (6, [.int (nI (0)), .int (nI (1)), .int (nI (0)), .ref (a2), .ref (a4), .null, .int (nI (0)), .null, .null, .null, .int (nI (0)), .null, .null, .null, .null]))) := ⟨_, rfl⟩
  have hW : mi_W D A ad4 cf5 H := by rw [hcf5]; exact hW
  have he5_0 : cf5 1000003 = some (mi_ai D 61 (fun _ => 0)) := by rw [hcf5]; exact (mi_up_n (by omega)).trans he4_0
  have he5_1 : cf5 1000004 = some (mi_ai D 976 (fun _ => 0)) := by rw [hcf5]; exact (mi_up_n (by omega)).trans he4_r
  have he5_r : cf5 1000020 = some (.inr (6, [.int (nI (0)), .int (nI (1)), .int (nI (0)), .ref (a2), .ref (a4), .null, .int (nI (0)), .null, .null, .null, .int (nI (0)), .null, .null, .null, .null])) := by rw [hcf5]; exact mi_up_s
  refine lv_aload_n S.1 S.2.1 dX5_init_26 rfl (lv_at hl 0 rfl) ?_
  refine lv_sipush (v := nI 128) S.1 S.2.1 dX5_init_27 (by decide) ?_
  obtain ⟨a6, hn6⟩ : ∃ z, z = H.size := ⟨_, rfl⟩
  refine mi_newi S E hS hA hW 1000005 (List.mem_cons_of_mem _ mw_104) (by omega) (by show _ ≤ (10 : Nat); omega) (by show _ ≤ (2525 : Nat); omega) dX5_init_30 (fun H9 hW hS hz => ?_)
  rw [← hn6] at hW hz ⊢
  obtain ⟨H, rfl⟩ : ∃ z, z = H9 := ⟨_, rfl⟩
  obtain ⟨ad6, had6⟩ : ∃ z, z = va_up ad4 1000005 a6 := ⟨_, rfl⟩
  obtain ⟨cf6, hcf6⟩ : ∃ z, z = va_up cf5 1000005 (some (mi_ai D 128 (fun _ => 0))) := ⟨_, rfl⟩
  have hW : mi_W D A ad6 cf6 H := by rw [had6, hcf6]; exact hW
  have he6_0 : cf6 1000003 = some (mi_ai D 61 (fun _ => 0)) := by rw [hcf6]; exact (mi_up_n (by omega)).trans he5_0
  have ha6_0 : ad6 1000003 = a2 := by rw [had6]; exact (mi_up_n (by omega)).trans ha4_0
  have he6_1 : cf6 1000004 = some (mi_ai D 976 (fun _ => 0)) := by rw [hcf6]; exact (mi_up_n (by omega)).trans he5_1
  have ha6_1 : ad6 1000004 = a4 := by rw [had6]; exact (mi_up_n (by omega)).trans ha4_r
  have he6_2 : cf6 1000020 = some (.inr (6, [.int (nI (0)), .int (nI (1)), .int (nI (0)), .ref (a2), .ref (a4), .null, .int (nI (0)), .null, .null, .null, .int (nI (0)), .null, .null, .null, .null])) := by rw [hcf6]; exact (mi_up_n (by omega)).trans he5_r
  have ha6_2 : ad6 1000020 = a := by rw [had6]; exact (mi_up_n (by omega)).trans ha4_1
  have he6_r : cf6 1000005 = some (mi_ai D 128 (fun _ => 0)) := by rw [hcf6]; exact mi_up_s
  have ha6_r : ad6 1000005 = a6 := by rw [had6]; exact mi_up_s
  refine fp_X5_20 S E hS hW 1000020 ha6_2 he6_2 (Nat.le_of_ble_eq_true rfl) rfl rfl hn dX5_init_32 (fun H locs hW hS hz => ?_)
  obtain ⟨cf7, hcf7⟩ : ∃ z, z = va_up cf6 1000020 (some (.inr (6, [.int (nI (0)), .int (nI (1)), .int (nI (0)), .ref (a2), .ref (a4), .ref (a6), .int (nI (0)), .null, .null, .null, .int (nI (0)), .null, .null, .null, .null]))) := ⟨_, rfl⟩
  have hW : mi_W D A ad6 cf7 H := by rw [hcf7]; exact hW
  have he7_0 : cf7 1000003 = some (mi_ai D 61 (fun _ => 0)) := by rw [hcf7]; exact (mi_up_n (by omega)).trans he6_0
  have he7_1 : cf7 1000004 = some (mi_ai D 976 (fun _ => 0)) := by rw [hcf7]; exact (mi_up_n (by omega)).trans he6_1
  have he7_2 : cf7 1000005 = some (mi_ai D 128 (fun _ => 0)) := by rw [hcf7]; exact (mi_up_n (by omega)).trans he6_r
  have he7_r : cf7 1000020 = some (.inr (6, [.int (nI (0)), .int (nI (1)), .int (nI (0)), .ref (a2), .ref (a4), .ref (a6), .int (nI (0)), .null, .null, .null, .int (nI (0)), .null, .null, .null, .null])) := by rw [hcf7]; exact mi_up_s
  refine lv_aload_n S.1 S.2.1 dX5_init_35 rfl (lv_at hl 0 rfl) ?_
  refine lv_sipush (v := nI 128) S.1 S.2.1 dX5_init_36 (by decide) ?_
  obtain ⟨a8, hn8⟩ : ∃ z, z = H.size := ⟨_, rfl⟩
  refine mi_newi S E hS hA hW 1000007 (List.mem_cons_of_mem _ mw_104) (by omega) (by show _ ≤ (10 : Nat); omega) (by show _ ≤ (2525 : Nat); omega) dX5_init_39 (fun H9 hW hS hz => ?_)
  rw [← hn8] at hW hz ⊢
  obtain ⟨H, rfl⟩ : ∃ z, z = H9 := ⟨_, rfl⟩
  obtain ⟨ad8, had8⟩ : ∃ z, z = va_up ad6 1000007 a8 := ⟨_, rfl⟩
  obtain ⟨cf8, hcf8⟩ : ∃ z, z = va_up cf7 1000007 (some (mi_ai D 128 (fun _ => 0))) := ⟨_, rfl⟩
  have hW : mi_W D A ad8 cf8 H := by rw [had8, hcf8]; exact hW
  have he8_0 : cf8 1000003 = some (mi_ai D 61 (fun _ => 0)) := by rw [hcf8]; exact (mi_up_n (by omega)).trans he7_0
  have ha8_0 : ad8 1000003 = a2 := by rw [had8]; exact (mi_up_n (by omega)).trans ha6_0
  have he8_1 : cf8 1000004 = some (mi_ai D 976 (fun _ => 0)) := by rw [hcf8]; exact (mi_up_n (by omega)).trans he7_1
  have ha8_1 : ad8 1000004 = a4 := by rw [had8]; exact (mi_up_n (by omega)).trans ha6_1
  have he8_2 : cf8 1000005 = some (mi_ai D 128 (fun _ => 0)) := by rw [hcf8]; exact (mi_up_n (by omega)).trans he7_2
  have ha8_2 : ad8 1000005 = a6 := by rw [had8]; exact (mi_up_n (by omega)).trans ha6_r
  have he8_3 : cf8 1000020 = some (.inr (6, [.int (nI (0)), .int (nI (1)), .int (nI (0)), .ref (a2), .ref (a4), .ref (a6), .int (nI (0)), .null, .null, .null, .int (nI (0)), .null, .null, .null, .null])) := by rw [hcf8]; exact (mi_up_n (by omega)).trans he7_r
  have ha8_3 : ad8 1000020 = a := by rw [had8]; exact (mi_up_n (by omega)).trans ha6_2
  have he8_r : cf8 1000007 = some (mi_ai D 128 (fun _ => 0)) := by rw [hcf8]; exact mi_up_s
  have ha8_r : ad8 1000007 = a8 := by rw [had8]; exact mi_up_s
  refine fp_X5_23 S E hS hW 1000020 ha8_3 he8_3 (Nat.le_of_ble_eq_true rfl) rfl rfl hn dX5_init_41 (fun H locs hW hS hz => ?_)
  obtain ⟨cf9, hcf9⟩ : ∃ z, z = va_up cf8 1000020 (some (.inr (6, [.int (nI (0)), .int (nI (1)), .int (nI (0)), .ref (a2), .ref (a4), .ref (a6), .int (nI (0)), .ref (a8), .null, .null, .int (nI (0)), .null, .null, .null, .null]))) := ⟨_, rfl⟩
  have hW : mi_W D A ad8 cf9 H := by rw [hcf9]; exact hW
  have he9_0 : cf9 1000003 = some (mi_ai D 61 (fun _ => 0)) := by rw [hcf9]; exact (mi_up_n (by omega)).trans he8_0
  have he9_1 : cf9 1000004 = some (mi_ai D 976 (fun _ => 0)) := by rw [hcf9]; exact (mi_up_n (by omega)).trans he8_1
  have he9_2 : cf9 1000005 = some (mi_ai D 128 (fun _ => 0)) := by rw [hcf9]; exact (mi_up_n (by omega)).trans he8_2
  have he9_3 : cf9 1000007 = some (mi_ai D 128 (fun _ => 0)) := by rw [hcf9]; exact (mi_up_n (by omega)).trans he8_r
  have he9_r : cf9 1000020 = some (.inr (6, [.int (nI (0)), .int (nI (1)), .int (nI (0)), .ref (a2), .ref (a4), .ref (a6), .int (nI (0)), .ref (a8), .null, .null, .int (nI (0)), .null, .null, .null, .null])) := by rw [hcf9]; exact mi_up_s
  refine lv_aload_n S.1 S.2.1 dX5_init_44 rfl (lv_at hl 0 rfl) ?_
  refine lv_sipush (v := nI 128) S.1 S.2.1 dX5_init_45 (by decide) ?_
  obtain ⟨a10, hn10⟩ : ∃ z, z = H.size := ⟨_, rfl⟩
  refine mi_newi S E hS hA hW 1000008 (List.mem_cons_of_mem _ mw_104) (by omega) (by show _ ≤ (10 : Nat); omega) (by show _ ≤ (2525 : Nat); omega) dX5_init_48 (fun H9 hW hS hz => ?_)
  rw [← hn10] at hW hz ⊢
  obtain ⟨H, rfl⟩ : ∃ z, z = H9 := ⟨_, rfl⟩
  obtain ⟨ad10, had10⟩ : ∃ z, z = va_up ad8 1000008 a10 := ⟨_, rfl⟩
  obtain ⟨cf10, hcf10⟩ : ∃ z, z = va_up cf9 1000008 (some (mi_ai D 128 (fun _ => 0))) := ⟨_, rfl⟩
  have hW : mi_W D A ad10 cf10 H := by rw [had10, hcf10]; exact hW
  have he10_0 : cf10 1000003 = some (mi_ai D 61 (fun _ => 0)) := by rw [hcf10]; exact (mi_up_n (by omega)).trans he9_0
  have ha10_0 : ad10 1000003 = a2 := by rw [had10]; exact (mi_up_n (by omega)).trans ha8_0
  have he10_1 : cf10 1000004 = some (mi_ai D 976 (fun _ => 0)) := by rw [hcf10]; exact (mi_up_n (by omega)).trans he9_1
  have ha10_1 : ad10 1000004 = a4 := by rw [had10]; exact (mi_up_n (by omega)).trans ha8_1
  have he10_2 : cf10 1000005 = some (mi_ai D 128 (fun _ => 0)) := by rw [hcf10]; exact (mi_up_n (by omega)).trans he9_2
  have ha10_2 : ad10 1000005 = a6 := by rw [had10]; exact (mi_up_n (by omega)).trans ha8_2
  have he10_3 : cf10 1000007 = some (mi_ai D 128 (fun _ => 0)) := by rw [hcf10]; exact (mi_up_n (by omega)).trans he9_3
  have ha10_3 : ad10 1000007 = a8 := by rw [had10]; exact (mi_up_n (by omega)).trans ha8_r
  have he10_4 : cf10 1000020 = some (.inr (6, [.int (nI (0)), .int (nI (1)), .int (nI (0)), .ref (a2), .ref (a4), .ref (a6), .int (nI (0)), .ref (a8), .null, .null, .int (nI (0)), .null, .null, .null, .null])) := by rw [hcf10]; exact (mi_up_n (by omega)).trans he9_r
  have ha10_4 : ad10 1000020 = a := by rw [had10]; exact (mi_up_n (by omega)).trans ha8_3
  have he10_r : cf10 1000008 = some (mi_ai D 128 (fun _ => 0)) := by rw [hcf10]; exact mi_up_s
  have ha10_r : ad10 1000008 = a10 := by rw [had10]; exact mi_up_s
  refine fp_X5_26 S E hS hW 1000020 ha10_4 he10_4 (Nat.le_of_ble_eq_true rfl) rfl rfl hn dX5_init_50 (fun H locs hW hS hz => ?_)
  obtain ⟨cf11, hcf11⟩ : ∃ z, z = va_up cf10 1000020 (some (.inr (6, [.int (nI (0)), .int (nI (1)), .int (nI (0)), .ref (a2), .ref (a4), .ref (a6), .int (nI (0)), .ref (a8), .ref (a10), .null, .int (nI (0)), .null, .null, .null, .null]))) := ⟨_, rfl⟩
  have hW : mi_W D A ad10 cf11 H := by rw [hcf11]; exact hW
  have he11_0 : cf11 1000003 = some (mi_ai D 61 (fun _ => 0)) := by rw [hcf11]; exact (mi_up_n (by omega)).trans he10_0
  have he11_1 : cf11 1000004 = some (mi_ai D 976 (fun _ => 0)) := by rw [hcf11]; exact (mi_up_n (by omega)).trans he10_1
  have he11_2 : cf11 1000005 = some (mi_ai D 128 (fun _ => 0)) := by rw [hcf11]; exact (mi_up_n (by omega)).trans he10_2
  have he11_3 : cf11 1000007 = some (mi_ai D 128 (fun _ => 0)) := by rw [hcf11]; exact (mi_up_n (by omega)).trans he10_3
  have he11_4 : cf11 1000008 = some (mi_ai D 128 (fun _ => 0)) := by rw [hcf11]; exact (mi_up_n (by omega)).trans he10_r
  have he11_r : cf11 1000020 = some (.inr (6, [.int (nI (0)), .int (nI (1)), .int (nI (0)), .ref (a2), .ref (a4), .ref (a6), .int (nI (0)), .ref (a8), .ref (a10), .null, .int (nI (0)), .null, .null, .null, .null])) := by rw [hcf11]; exact mi_up_s
  refine lv_aload_n S.1 S.2.1 dX5_init_53 rfl (lv_at hl 0 rfl) ?_
  refine lv_bipush (v := nI 8) S.1 S.2.1 dX5_init_54 (by decide) ?_
  obtain ⟨a12, hn12⟩ : ∃ z, z = H.size := ⟨_, rfl⟩
  refine mi_newi S E hS hA hW 1000009 (List.mem_cons_of_mem _ mw_104) (by omega) (by show _ ≤ (10 : Nat); omega) (by show _ ≤ (2525 : Nat); omega) dX5_init_56 (fun H9 hW hS hz => ?_)
  rw [← hn12] at hW hz ⊢
  obtain ⟨H, rfl⟩ : ∃ z, z = H9 := ⟨_, rfl⟩
  obtain ⟨ad12, had12⟩ : ∃ z, z = va_up ad10 1000009 a12 := ⟨_, rfl⟩
  obtain ⟨cf12, hcf12⟩ : ∃ z, z = va_up cf11 1000009 (some (mi_ai D 8 (fun _ => 0))) := ⟨_, rfl⟩
  have hW : mi_W D A ad12 cf12 H := by rw [had12, hcf12]; exact hW
  have he12_0 : cf12 1000003 = some (mi_ai D 61 (fun _ => 0)) := by rw [hcf12]; exact (mi_up_n (by omega)).trans he11_0
  have ha12_0 : ad12 1000003 = a2 := by rw [had12]; exact (mi_up_n (by omega)).trans ha10_0
  have he12_1 : cf12 1000004 = some (mi_ai D 976 (fun _ => 0)) := by rw [hcf12]; exact (mi_up_n (by omega)).trans he11_1
  have ha12_1 : ad12 1000004 = a4 := by rw [had12]; exact (mi_up_n (by omega)).trans ha10_1
  have he12_2 : cf12 1000005 = some (mi_ai D 128 (fun _ => 0)) := by rw [hcf12]; exact (mi_up_n (by omega)).trans he11_2
  have ha12_2 : ad12 1000005 = a6 := by rw [had12]; exact (mi_up_n (by omega)).trans ha10_2
  have he12_3 : cf12 1000007 = some (mi_ai D 128 (fun _ => 0)) := by rw [hcf12]; exact (mi_up_n (by omega)).trans he11_3
  have ha12_3 : ad12 1000007 = a8 := by rw [had12]; exact (mi_up_n (by omega)).trans ha10_3
  have he12_4 : cf12 1000008 = some (mi_ai D 128 (fun _ => 0)) := by rw [hcf12]; exact (mi_up_n (by omega)).trans he11_4
  have ha12_4 : ad12 1000008 = a10 := by rw [had12]; exact (mi_up_n (by omega)).trans ha10_r
  have he12_5 : cf12 1000020 = some (.inr (6, [.int (nI (0)), .int (nI (1)), .int (nI (0)), .ref (a2), .ref (a4), .ref (a6), .int (nI (0)), .ref (a8), .ref (a10), .null, .int (nI (0)), .null, .null, .null, .null])) := by rw [hcf12]; exact (mi_up_n (by omega)).trans he11_r
  have ha12_5 : ad12 1000020 = a := by rw [had12]; exact (mi_up_n (by omega)).trans ha10_4
  have he12_r : cf12 1000009 = some (mi_ai D 8 (fun _ => 0)) := by rw [hcf12]; exact mi_up_s
  have ha12_r : ad12 1000009 = a12 := by rw [had12]; exact mi_up_s
  refine fp_X5_29 S E hS hW 1000020 ha12_5 he12_5 (Nat.le_of_ble_eq_true rfl) rfl rfl hn dX5_init_58 (fun H locs hW hS hz => ?_)
  obtain ⟨cf13, hcf13⟩ : ∃ z, z = va_up cf12 1000020 (some (.inr (6, [.int (nI (0)), .int (nI (1)), .int (nI (0)), .ref (a2), .ref (a4), .ref (a6), .int (nI (0)), .ref (a8), .ref (a10), .ref (a12), .int (nI (0)), .null, .null, .null, .null]))) := ⟨_, rfl⟩
  have hW : mi_W D A ad12 cf13 H := by rw [hcf13]; exact hW
  have he13_0 : cf13 1000003 = some (mi_ai D 61 (fun _ => 0)) := by rw [hcf13]; exact (mi_up_n (by omega)).trans he12_0
  have he13_1 : cf13 1000004 = some (mi_ai D 976 (fun _ => 0)) := by rw [hcf13]; exact (mi_up_n (by omega)).trans he12_1
  have he13_2 : cf13 1000005 = some (mi_ai D 128 (fun _ => 0)) := by rw [hcf13]; exact (mi_up_n (by omega)).trans he12_2
  have he13_3 : cf13 1000007 = some (mi_ai D 128 (fun _ => 0)) := by rw [hcf13]; exact (mi_up_n (by omega)).trans he12_3
  have he13_4 : cf13 1000008 = some (mi_ai D 128 (fun _ => 0)) := by rw [hcf13]; exact (mi_up_n (by omega)).trans he12_4
  have he13_5 : cf13 1000009 = some (mi_ai D 8 (fun _ => 0)) := by rw [hcf13]; exact (mi_up_n (by omega)).trans he12_r
  have he13_r : cf13 1000020 = some (.inr (6, [.int (nI (0)), .int (nI (1)), .int (nI (0)), .ref (a2), .ref (a4), .ref (a6), .int (nI (0)), .ref (a8), .ref (a10), .ref (a12), .int (nI (0)), .null, .null, .null, .null])) := by rw [hcf13]; exact mi_up_s
  refine lv_aload_n S.1 S.2.1 dX5_init_61 rfl (lv_at hl 0 rfl) ?_
  refine lv_sipush (v := nI 960) S.1 S.2.1 dX5_init_62 (by decide) ?_
  obtain ⟨a14, hn14⟩ : ∃ z, z = H.size := ⟨_, rfl⟩
  refine mi_newi S E hS hA hW 1000011 (List.mem_cons_of_mem _ mw_104) (by omega) (by show _ ≤ (10 : Nat); omega) (by show _ ≤ (2525 : Nat); omega) dX5_init_65 (fun H9 hW hS hz => ?_)
  rw [← hn14] at hW hz ⊢
  obtain ⟨H, rfl⟩ : ∃ z, z = H9 := ⟨_, rfl⟩
  obtain ⟨ad14, had14⟩ : ∃ z, z = va_up ad12 1000011 a14 := ⟨_, rfl⟩
  obtain ⟨cf14, hcf14⟩ : ∃ z, z = va_up cf13 1000011 (some (mi_ai D 960 (fun _ => 0))) := ⟨_, rfl⟩
  have hW : mi_W D A ad14 cf14 H := by rw [had14, hcf14]; exact hW
  have he14_0 : cf14 1000003 = some (mi_ai D 61 (fun _ => 0)) := by rw [hcf14]; exact (mi_up_n (by omega)).trans he13_0
  have ha14_0 : ad14 1000003 = a2 := by rw [had14]; exact (mi_up_n (by omega)).trans ha12_0
  have he14_1 : cf14 1000004 = some (mi_ai D 976 (fun _ => 0)) := by rw [hcf14]; exact (mi_up_n (by omega)).trans he13_1
  have ha14_1 : ad14 1000004 = a4 := by rw [had14]; exact (mi_up_n (by omega)).trans ha12_1
  have he14_2 : cf14 1000005 = some (mi_ai D 128 (fun _ => 0)) := by rw [hcf14]; exact (mi_up_n (by omega)).trans he13_2
  have ha14_2 : ad14 1000005 = a6 := by rw [had14]; exact (mi_up_n (by omega)).trans ha12_2
  have he14_3 : cf14 1000007 = some (mi_ai D 128 (fun _ => 0)) := by rw [hcf14]; exact (mi_up_n (by omega)).trans he13_3
  have ha14_3 : ad14 1000007 = a8 := by rw [had14]; exact (mi_up_n (by omega)).trans ha12_3
  have he14_4 : cf14 1000008 = some (mi_ai D 128 (fun _ => 0)) := by rw [hcf14]; exact (mi_up_n (by omega)).trans he13_4
  have ha14_4 : ad14 1000008 = a10 := by rw [had14]; exact (mi_up_n (by omega)).trans ha12_4
  have he14_5 : cf14 1000009 = some (mi_ai D 8 (fun _ => 0)) := by rw [hcf14]; exact (mi_up_n (by omega)).trans he13_5
  have ha14_5 : ad14 1000009 = a12 := by rw [had14]; exact (mi_up_n (by omega)).trans ha12_r
  have he14_6 : cf14 1000020 = some (.inr (6, [.int (nI (0)), .int (nI (1)), .int (nI (0)), .ref (a2), .ref (a4), .ref (a6), .int (nI (0)), .ref (a8), .ref (a10), .ref (a12), .int (nI (0)), .null, .null, .null, .null])) := by rw [hcf14]; exact (mi_up_n (by omega)).trans he13_r
  have ha14_6 : ad14 1000020 = a := by rw [had14]; exact (mi_up_n (by omega)).trans ha12_5
  have he14_r : cf14 1000011 = some (mi_ai D 960 (fun _ => 0)) := by rw [hcf14]; exact mi_up_s
  have ha14_r : ad14 1000011 = a14 := by rw [had14]; exact mi_up_s
  refine fp_X5_32 S E hS hW 1000020 ha14_6 he14_6 (Nat.le_of_ble_eq_true rfl) rfl rfl hn dX5_init_67 (fun H locs hW hS hz => ?_)
  obtain ⟨cf15, hcf15⟩ : ∃ z, z = va_up cf14 1000020 (some (.inr (6, [.int (nI (0)), .int (nI (1)), .int (nI (0)), .ref (a2), .ref (a4), .ref (a6), .int (nI (0)), .ref (a8), .ref (a10), .ref (a12), .int (nI (0)), .ref (a14), .null, .null, .null]))) := ⟨_, rfl⟩
  have hW : mi_W D A ad14 cf15 H := by rw [hcf15]; exact hW
  have he15_0 : cf15 1000003 = some (mi_ai D 61 (fun _ => 0)) := by rw [hcf15]; exact (mi_up_n (by omega)).trans he14_0
  have he15_1 : cf15 1000004 = some (mi_ai D 976 (fun _ => 0)) := by rw [hcf15]; exact (mi_up_n (by omega)).trans he14_1
  have he15_2 : cf15 1000005 = some (mi_ai D 128 (fun _ => 0)) := by rw [hcf15]; exact (mi_up_n (by omega)).trans he14_2
  have he15_3 : cf15 1000007 = some (mi_ai D 128 (fun _ => 0)) := by rw [hcf15]; exact (mi_up_n (by omega)).trans he14_3
  have he15_4 : cf15 1000008 = some (mi_ai D 128 (fun _ => 0)) := by rw [hcf15]; exact (mi_up_n (by omega)).trans he14_4
  have he15_5 : cf15 1000009 = some (mi_ai D 8 (fun _ => 0)) := by rw [hcf15]; exact (mi_up_n (by omega)).trans he14_5
  have he15_6 : cf15 1000011 = some (mi_ai D 960 (fun _ => 0)) := by rw [hcf15]; exact (mi_up_n (by omega)).trans he14_r
  have he15_r : cf15 1000020 = some (.inr (6, [.int (nI (0)), .int (nI (1)), .int (nI (0)), .ref (a2), .ref (a4), .ref (a6), .int (nI (0)), .ref (a8), .ref (a10), .ref (a12), .int (nI (0)), .ref (a14), .null, .null, .null])) := by rw [hcf15]; exact mi_up_s
  refine lv_aload_n S.1 S.2.1 dX5_init_70 rfl (lv_at hl 0 rfl) ?_
  refine lv_bipush (v := nI 60) S.1 S.2.1 dX5_init_71 (by decide) ?_
  obtain ⟨a16, hn16⟩ : ∃ z, z = H.size := ⟨_, rfl⟩
  refine mi_newi S E hS hA hW 1000012 (List.mem_cons_of_mem _ mw_104) (by omega) (by show _ ≤ (10 : Nat); omega) (by show _ ≤ (2525 : Nat); omega) dX5_init_73 (fun H9 hW hS hz => ?_)
  rw [← hn16] at hW hz ⊢
  obtain ⟨H, rfl⟩ : ∃ z, z = H9 := ⟨_, rfl⟩
  obtain ⟨ad16, had16⟩ : ∃ z, z = va_up ad14 1000012 a16 := ⟨_, rfl⟩
  obtain ⟨cf16, hcf16⟩ : ∃ z, z = va_up cf15 1000012 (some (mi_ai D 60 (fun _ => 0))) := ⟨_, rfl⟩
  have hW : mi_W D A ad16 cf16 H := by rw [had16, hcf16]; exact hW
  have he16_0 : cf16 1000003 = some (mi_ai D 61 (fun _ => 0)) := by rw [hcf16]; exact (mi_up_n (by omega)).trans he15_0
  have ha16_0 : ad16 1000003 = a2 := by rw [had16]; exact (mi_up_n (by omega)).trans ha14_0
  have he16_1 : cf16 1000004 = some (mi_ai D 976 (fun _ => 0)) := by rw [hcf16]; exact (mi_up_n (by omega)).trans he15_1
  have ha16_1 : ad16 1000004 = a4 := by rw [had16]; exact (mi_up_n (by omega)).trans ha14_1
  have he16_2 : cf16 1000005 = some (mi_ai D 128 (fun _ => 0)) := by rw [hcf16]; exact (mi_up_n (by omega)).trans he15_2
  have ha16_2 : ad16 1000005 = a6 := by rw [had16]; exact (mi_up_n (by omega)).trans ha14_2
  have he16_3 : cf16 1000007 = some (mi_ai D 128 (fun _ => 0)) := by rw [hcf16]; exact (mi_up_n (by omega)).trans he15_3
  have ha16_3 : ad16 1000007 = a8 := by rw [had16]; exact (mi_up_n (by omega)).trans ha14_3
  have he16_4 : cf16 1000008 = some (mi_ai D 128 (fun _ => 0)) := by rw [hcf16]; exact (mi_up_n (by omega)).trans he15_4
  have ha16_4 : ad16 1000008 = a10 := by rw [had16]; exact (mi_up_n (by omega)).trans ha14_4
  have he16_5 : cf16 1000009 = some (mi_ai D 8 (fun _ => 0)) := by rw [hcf16]; exact (mi_up_n (by omega)).trans he15_5
  have ha16_5 : ad16 1000009 = a12 := by rw [had16]; exact (mi_up_n (by omega)).trans ha14_5
  have he16_6 : cf16 1000011 = some (mi_ai D 960 (fun _ => 0)) := by rw [hcf16]; exact (mi_up_n (by omega)).trans he15_6
  have ha16_6 : ad16 1000011 = a14 := by rw [had16]; exact (mi_up_n (by omega)).trans ha14_r
  have he16_7 : cf16 1000020 = some (.inr (6, [.int (nI (0)), .int (nI (1)), .int (nI (0)), .ref (a2), .ref (a4), .ref (a6), .int (nI (0)), .ref (a8), .ref (a10), .ref (a12), .int (nI (0)), .ref (a14), .null, .null, .null])) := by rw [hcf16]; exact (mi_up_n (by omega)).trans he15_r
  have ha16_7 : ad16 1000020 = a := by rw [had16]; exact (mi_up_n (by omega)).trans ha14_6
  have he16_r : cf16 1000012 = some (mi_ai D 60 (fun _ => 0)) := by rw [hcf16]; exact mi_up_s
  have ha16_r : ad16 1000012 = a16 := by rw [had16]; exact mi_up_s
  refine fp_X5_35 S E hS hW 1000020 ha16_7 he16_7 (Nat.le_of_ble_eq_true rfl) rfl rfl hn dX5_init_75 (fun H locs hW hS hz => ?_)
  obtain ⟨cf17, hcf17⟩ : ∃ z, z = va_up cf16 1000020 (some (.inr (6, [.int (nI (0)), .int (nI (1)), .int (nI (0)), .ref (a2), .ref (a4), .ref (a6), .int (nI (0)), .ref (a8), .ref (a10), .ref (a12), .int (nI (0)), .ref (a14), .ref (a16), .null, .null]))) := ⟨_, rfl⟩
  have hW : mi_W D A ad16 cf17 H := by rw [hcf17]; exact hW
  have he17_0 : cf17 1000003 = some (mi_ai D 61 (fun _ => 0)) := by rw [hcf17]; exact (mi_up_n (by omega)).trans he16_0
  have he17_1 : cf17 1000004 = some (mi_ai D 976 (fun _ => 0)) := by rw [hcf17]; exact (mi_up_n (by omega)).trans he16_1
  have he17_2 : cf17 1000005 = some (mi_ai D 128 (fun _ => 0)) := by rw [hcf17]; exact (mi_up_n (by omega)).trans he16_2
  have he17_3 : cf17 1000007 = some (mi_ai D 128 (fun _ => 0)) := by rw [hcf17]; exact (mi_up_n (by omega)).trans he16_3
  have he17_4 : cf17 1000008 = some (mi_ai D 128 (fun _ => 0)) := by rw [hcf17]; exact (mi_up_n (by omega)).trans he16_4
  have he17_5 : cf17 1000009 = some (mi_ai D 8 (fun _ => 0)) := by rw [hcf17]; exact (mi_up_n (by omega)).trans he16_5
  have he17_6 : cf17 1000011 = some (mi_ai D 960 (fun _ => 0)) := by rw [hcf17]; exact (mi_up_n (by omega)).trans he16_6
  have he17_7 : cf17 1000012 = some (mi_ai D 60 (fun _ => 0)) := by rw [hcf17]; exact (mi_up_n (by omega)).trans he16_r
  have he17_r : cf17 1000020 = some (.inr (6, [.int (nI (0)), .int (nI (1)), .int (nI (0)), .ref (a2), .ref (a4), .ref (a6), .int (nI (0)), .ref (a8), .ref (a10), .ref (a12), .int (nI (0)), .ref (a14), .ref (a16), .null, .null])) := by rw [hcf17]; exact mi_up_s
  refine lv_aload_n S.1 S.2.1 dX5_init_78 rfl (lv_at hl 0 rfl) ?_
  refine lv_bipush (v := nI 60) S.1 S.2.1 dX5_init_79 (by decide) ?_
  obtain ⟨a18, hn18⟩ : ∃ z, z = H.size := ⟨_, rfl⟩
  refine mi_newi S E hS hA hW 1000013 (List.mem_cons_of_mem _ mw_104) (by omega) (by show _ ≤ (10 : Nat); omega) (by show _ ≤ (2525 : Nat); omega) dX5_init_81 (fun H9 hW hS hz => ?_)
  rw [← hn18] at hW hz ⊢
  obtain ⟨H, rfl⟩ : ∃ z, z = H9 := ⟨_, rfl⟩
  obtain ⟨ad18, had18⟩ : ∃ z, z = va_up ad16 1000013 a18 := ⟨_, rfl⟩
  obtain ⟨cf18, hcf18⟩ : ∃ z, z = va_up cf17 1000013 (some (mi_ai D 60 (fun _ => 0))) := ⟨_, rfl⟩
  have hW : mi_W D A ad18 cf18 H := by rw [had18, hcf18]; exact hW
  have he18_0 : cf18 1000003 = some (mi_ai D 61 (fun _ => 0)) := by rw [hcf18]; exact (mi_up_n (by omega)).trans he17_0
  have ha18_0 : ad18 1000003 = a2 := by rw [had18]; exact (mi_up_n (by omega)).trans ha16_0
  have he18_1 : cf18 1000004 = some (mi_ai D 976 (fun _ => 0)) := by rw [hcf18]; exact (mi_up_n (by omega)).trans he17_1
  have ha18_1 : ad18 1000004 = a4 := by rw [had18]; exact (mi_up_n (by omega)).trans ha16_1
  have he18_2 : cf18 1000005 = some (mi_ai D 128 (fun _ => 0)) := by rw [hcf18]; exact (mi_up_n (by omega)).trans he17_2
  have ha18_2 : ad18 1000005 = a6 := by rw [had18]; exact (mi_up_n (by omega)).trans ha16_2
  have he18_3 : cf18 1000007 = some (mi_ai D 128 (fun _ => 0)) := by rw [hcf18]; exact (mi_up_n (by omega)).trans he17_3
  have ha18_3 : ad18 1000007 = a8 := by rw [had18]; exact (mi_up_n (by omega)).trans ha16_3
  have he18_4 : cf18 1000008 = some (mi_ai D 128 (fun _ => 0)) := by rw [hcf18]; exact (mi_up_n (by omega)).trans he17_4
  have ha18_4 : ad18 1000008 = a10 := by rw [had18]; exact (mi_up_n (by omega)).trans ha16_4
  have he18_5 : cf18 1000009 = some (mi_ai D 8 (fun _ => 0)) := by rw [hcf18]; exact (mi_up_n (by omega)).trans he17_5
  have ha18_5 : ad18 1000009 = a12 := by rw [had18]; exact (mi_up_n (by omega)).trans ha16_5
  have he18_6 : cf18 1000011 = some (mi_ai D 960 (fun _ => 0)) := by rw [hcf18]; exact (mi_up_n (by omega)).trans he17_6
  have ha18_6 : ad18 1000011 = a14 := by rw [had18]; exact (mi_up_n (by omega)).trans ha16_6
  have he18_7 : cf18 1000012 = some (mi_ai D 60 (fun _ => 0)) := by rw [hcf18]; exact (mi_up_n (by omega)).trans he17_7
  have ha18_7 : ad18 1000012 = a16 := by rw [had18]; exact (mi_up_n (by omega)).trans ha16_r
  have he18_8 : cf18 1000020 = some (.inr (6, [.int (nI (0)), .int (nI (1)), .int (nI (0)), .ref (a2), .ref (a4), .ref (a6), .int (nI (0)), .ref (a8), .ref (a10), .ref (a12), .int (nI (0)), .ref (a14), .ref (a16), .null, .null])) := by rw [hcf18]; exact (mi_up_n (by omega)).trans he17_r
  have ha18_8 : ad18 1000020 = a := by rw [had18]; exact (mi_up_n (by omega)).trans ha16_7
  have he18_r : cf18 1000013 = some (mi_ai D 60 (fun _ => 0)) := by rw [hcf18]; exact mi_up_s
  have ha18_r : ad18 1000013 = a18 := by rw [had18]; exact mi_up_s
  refine fp_X5_38 S E hS hW 1000020 ha18_8 he18_8 (Nat.le_of_ble_eq_true rfl) rfl rfl hn dX5_init_83 (fun H locs hW hS hz => ?_)
  obtain ⟨cf19, hcf19⟩ : ∃ z, z = va_up cf18 1000020 (some (.inr (6, [.int (nI (0)), .int (nI (1)), .int (nI (0)), .ref (a2), .ref (a4), .ref (a6), .int (nI (0)), .ref (a8), .ref (a10), .ref (a12), .int (nI (0)), .ref (a14), .ref (a16), .ref (a18), .null]))) := ⟨_, rfl⟩
  have hW : mi_W D A ad18 cf19 H := by rw [hcf19]; exact hW
  have he19_0 : cf19 1000003 = some (mi_ai D 61 (fun _ => 0)) := by rw [hcf19]; exact (mi_up_n (by omega)).trans he18_0
  have he19_1 : cf19 1000004 = some (mi_ai D 976 (fun _ => 0)) := by rw [hcf19]; exact (mi_up_n (by omega)).trans he18_1
  have he19_2 : cf19 1000005 = some (mi_ai D 128 (fun _ => 0)) := by rw [hcf19]; exact (mi_up_n (by omega)).trans he18_2
  have he19_3 : cf19 1000007 = some (mi_ai D 128 (fun _ => 0)) := by rw [hcf19]; exact (mi_up_n (by omega)).trans he18_3
  have he19_4 : cf19 1000008 = some (mi_ai D 128 (fun _ => 0)) := by rw [hcf19]; exact (mi_up_n (by omega)).trans he18_4
  have he19_5 : cf19 1000009 = some (mi_ai D 8 (fun _ => 0)) := by rw [hcf19]; exact (mi_up_n (by omega)).trans he18_5
  have he19_6 : cf19 1000011 = some (mi_ai D 960 (fun _ => 0)) := by rw [hcf19]; exact (mi_up_n (by omega)).trans he18_6
  have he19_7 : cf19 1000012 = some (mi_ai D 60 (fun _ => 0)) := by rw [hcf19]; exact (mi_up_n (by omega)).trans he18_7
  have he19_8 : cf19 1000013 = some (mi_ai D 60 (fun _ => 0)) := by rw [hcf19]; exact (mi_up_n (by omega)).trans he18_r
  have he19_r : cf19 1000020 = some (.inr (6, [.int (nI (0)), .int (nI (1)), .int (nI (0)), .ref (a2), .ref (a4), .ref (a6), .int (nI (0)), .ref (a8), .ref (a10), .ref (a12), .int (nI (0)), .ref (a14), .ref (a16), .ref (a18), .null])) := by rw [hcf19]; exact mi_up_s
  refine lv_aload_n S.1 S.2.1 dX5_init_86 rfl (lv_at hl 0 rfl) ?_
  refine lv_bipush (v := nI 16) S.1 S.2.1 dX5_init_87 (by decide) ?_
  obtain ⟨a20, hn20⟩ : ∃ z, z = H.size := ⟨_, rfl⟩
  refine mi_newi S E hS hA hW 1000014 (List.mem_cons_of_mem _ mw_104) (by omega) (by show _ ≤ (10 : Nat); omega) (by show _ ≤ (2525 : Nat); omega) dX5_init_89 (fun H9 hW hS hz => ?_)
  rw [← hn20] at hW hz ⊢
  obtain ⟨H, rfl⟩ : ∃ z, z = H9 := ⟨_, rfl⟩
  obtain ⟨ad20, had20⟩ : ∃ z, z = va_up ad18 1000014 a20 := ⟨_, rfl⟩
  obtain ⟨cf20, hcf20⟩ : ∃ z, z = va_up cf19 1000014 (some (mi_ai D 16 (fun _ => 0))) := ⟨_, rfl⟩
  have hW : mi_W D A ad20 cf20 H := by rw [had20, hcf20]; exact hW
  have he20_0 : cf20 1000003 = some (mi_ai D 61 (fun _ => 0)) := by rw [hcf20]; exact (mi_up_n (by omega)).trans he19_0
  have ha20_0 : ad20 1000003 = a2 := by rw [had20]; exact (mi_up_n (by omega)).trans ha18_0
  have he20_1 : cf20 1000004 = some (mi_ai D 976 (fun _ => 0)) := by rw [hcf20]; exact (mi_up_n (by omega)).trans he19_1
  have ha20_1 : ad20 1000004 = a4 := by rw [had20]; exact (mi_up_n (by omega)).trans ha18_1
  have he20_2 : cf20 1000005 = some (mi_ai D 128 (fun _ => 0)) := by rw [hcf20]; exact (mi_up_n (by omega)).trans he19_2
  have ha20_2 : ad20 1000005 = a6 := by rw [had20]; exact (mi_up_n (by omega)).trans ha18_2
  have he20_3 : cf20 1000007 = some (mi_ai D 128 (fun _ => 0)) := by rw [hcf20]; exact (mi_up_n (by omega)).trans he19_3
  have ha20_3 : ad20 1000007 = a8 := by rw [had20]; exact (mi_up_n (by omega)).trans ha18_3
  have he20_4 : cf20 1000008 = some (mi_ai D 128 (fun _ => 0)) := by rw [hcf20]; exact (mi_up_n (by omega)).trans he19_4
  have ha20_4 : ad20 1000008 = a10 := by rw [had20]; exact (mi_up_n (by omega)).trans ha18_4
  have he20_5 : cf20 1000009 = some (mi_ai D 8 (fun _ => 0)) := by rw [hcf20]; exact (mi_up_n (by omega)).trans he19_5
  have ha20_5 : ad20 1000009 = a12 := by rw [had20]; exact (mi_up_n (by omega)).trans ha18_5
  have he20_6 : cf20 1000011 = some (mi_ai D 960 (fun _ => 0)) := by rw [hcf20]; exact (mi_up_n (by omega)).trans he19_6
  have ha20_6 : ad20 1000011 = a14 := by rw [had20]; exact (mi_up_n (by omega)).trans ha18_6
  have he20_7 : cf20 1000012 = some (mi_ai D 60 (fun _ => 0)) := by rw [hcf20]; exact (mi_up_n (by omega)).trans he19_7
  have ha20_7 : ad20 1000012 = a16 := by rw [had20]; exact (mi_up_n (by omega)).trans ha18_7
  have he20_8 : cf20 1000013 = some (mi_ai D 60 (fun _ => 0)) := by rw [hcf20]; exact (mi_up_n (by omega)).trans he19_8
  have ha20_8 : ad20 1000013 = a18 := by rw [had20]; exact (mi_up_n (by omega)).trans ha18_r
  have he20_9 : cf20 1000020 = some (.inr (6, [.int (nI (0)), .int (nI (1)), .int (nI (0)), .ref (a2), .ref (a4), .ref (a6), .int (nI (0)), .ref (a8), .ref (a10), .ref (a12), .int (nI (0)), .ref (a14), .ref (a16), .ref (a18), .null])) := by rw [hcf20]; exact (mi_up_n (by omega)).trans he19_r
  have ha20_9 : ad20 1000020 = a := by rw [had20]; exact (mi_up_n (by omega)).trans ha18_8
  have he20_r : cf20 1000014 = some (mi_ai D 16 (fun _ => 0)) := by rw [hcf20]; exact mi_up_s
  have ha20_r : ad20 1000014 = a20 := by rw [had20]; exact mi_up_s
  refine fp_X5_41 S E hS hW 1000020 ha20_9 he20_9 (Nat.le_of_ble_eq_true rfl) rfl rfl hn dX5_init_91 (fun H locs hW hS hz => ?_)
  obtain ⟨cf21, hcf21⟩ : ∃ z, z = va_up cf20 1000020 (some (.inr (6, [.int (nI (0)), .int (nI (1)), .int (nI (0)), .ref (a2), .ref (a4), .ref (a6), .int (nI (0)), .ref (a8), .ref (a10), .ref (a12), .int (nI (0)), .ref (a14), .ref (a16), .ref (a18), .ref (a20)]))) := ⟨_, rfl⟩
  have hW : mi_W D A ad20 cf21 H := by rw [hcf21]; exact hW
  have he21_0 : cf21 1000003 = some (mi_ai D 61 (fun _ => 0)) := by rw [hcf21]; exact (mi_up_n (by omega)).trans he20_0
  have he21_1 : cf21 1000004 = some (mi_ai D 976 (fun _ => 0)) := by rw [hcf21]; exact (mi_up_n (by omega)).trans he20_1
  have he21_2 : cf21 1000005 = some (mi_ai D 128 (fun _ => 0)) := by rw [hcf21]; exact (mi_up_n (by omega)).trans he20_2
  have he21_3 : cf21 1000007 = some (mi_ai D 128 (fun _ => 0)) := by rw [hcf21]; exact (mi_up_n (by omega)).trans he20_3
  have he21_4 : cf21 1000008 = some (mi_ai D 128 (fun _ => 0)) := by rw [hcf21]; exact (mi_up_n (by omega)).trans he20_4
  have he21_5 : cf21 1000009 = some (mi_ai D 8 (fun _ => 0)) := by rw [hcf21]; exact (mi_up_n (by omega)).trans he20_5
  have he21_6 : cf21 1000011 = some (mi_ai D 960 (fun _ => 0)) := by rw [hcf21]; exact (mi_up_n (by omega)).trans he20_6
  have he21_7 : cf21 1000012 = some (mi_ai D 60 (fun _ => 0)) := by rw [hcf21]; exact (mi_up_n (by omega)).trans he20_7
  have he21_8 : cf21 1000013 = some (mi_ai D 60 (fun _ => 0)) := by rw [hcf21]; exact (mi_up_n (by omega)).trans he20_8
  have he21_9 : cf21 1000014 = some (mi_ai D 16 (fun _ => 0)) := by rw [hcf21]; exact (mi_up_n (by omega)).trans he20_r
  have he21_r : cf21 1000020 = some (.inr (6, [.int (nI (0)), .int (nI (1)), .int (nI (0)), .ref (a2), .ref (a4), .ref (a6), .int (nI (0)), .ref (a8), .ref (a10), .ref (a12), .int (nI (0)), .ref (a14), .ref (a16), .ref (a18), .ref (a20)])) := by rw [hcf21]; exact mi_up_s
  refine lv_aload_n S.1 S.2.1 dX5_init_94 rfl (lv_at hl 0 rfl) ?_
  refine fg_X5_13 S E hW 1000020 ha20_9 he21_r rfl dX5_init_95 ?_
  refine lv_iconst (v := nI 0) S.1 S.2.1 dX5_init_98 (by decide) ?_
  refine lv_iconst (v := (-1)) S.1 S.2.1 dX5_init_99 (by decide) ?_
  refine mi_iast S E hS hW 1000003 ha20_0 he21_0 (by omega) (by omega) dX5_init_100 (fun H locs hW hS hz => ?_)
  obtain ⟨cf22, hcf22⟩ : ∃ z, z = va_up cf21 1000003 (some (mi_ai D 61 (upd (fun _ => 0) 0 (-1)))) := ⟨_, rfl⟩
  have hW : mi_W D A ad20 cf22 H := by rw [hcf22]; exact hW
  have he22_0 : cf22 1000004 = some (mi_ai D 976 (fun _ => 0)) := by rw [hcf22]; exact (mi_up_n (by omega)).trans he21_1
  have he22_1 : cf22 1000005 = some (mi_ai D 128 (fun _ => 0)) := by rw [hcf22]; exact (mi_up_n (by omega)).trans he21_2
  have he22_2 : cf22 1000007 = some (mi_ai D 128 (fun _ => 0)) := by rw [hcf22]; exact (mi_up_n (by omega)).trans he21_3
  have he22_3 : cf22 1000008 = some (mi_ai D 128 (fun _ => 0)) := by rw [hcf22]; exact (mi_up_n (by omega)).trans he21_4
  have he22_4 : cf22 1000009 = some (mi_ai D 8 (fun _ => 0)) := by rw [hcf22]; exact (mi_up_n (by omega)).trans he21_5
  have he22_5 : cf22 1000011 = some (mi_ai D 960 (fun _ => 0)) := by rw [hcf22]; exact (mi_up_n (by omega)).trans he21_6
  have he22_6 : cf22 1000012 = some (mi_ai D 60 (fun _ => 0)) := by rw [hcf22]; exact (mi_up_n (by omega)).trans he21_7
  have he22_7 : cf22 1000013 = some (mi_ai D 60 (fun _ => 0)) := by rw [hcf22]; exact (mi_up_n (by omega)).trans he21_8
  have he22_8 : cf22 1000014 = some (mi_ai D 16 (fun _ => 0)) := by rw [hcf22]; exact (mi_up_n (by omega)).trans he21_9
  have he22_9 : cf22 1000020 = some (.inr (6, [.int (nI (0)), .int (nI (1)), .int (nI (0)), .ref (a2), .ref (a4), .ref (a6), .int (nI (0)), .ref (a8), .ref (a10), .ref (a12), .int (nI (0)), .ref (a14), .ref (a16), .ref (a18), .ref (a20)])) := by rw [hcf22]; exact (mi_up_n (by omega)).trans he21_r
  have he22_r : cf22 1000003 = some (mi_ai D 61 (upd (fun _ => 0) 0 (-1))) := by rw [hcf22]; exact mi_up_s
  refine mi_retMv S hr hk hS dX5_init_101 (by show _ ≤ (10 : Nat); omega) (by show _ ≤ (2525 : Nat); omega) ?_
  refine ⟨ad20, cf22, hW, ⟨?_, fun k hk => ?_⟩, fun r hr => ⟨?_, ?_⟩, ?_⟩
  · rw [he22_9]; unfold mo_fs; rw [ha20_0, ha20_1, ha20_2, ha20_3, ha20_4, ha20_5, ha20_6, ha20_7, ha20_8, ha20_r]; rfl
  · simp only [mo_ar, Bool.or_eq_true, beq_iff_eq] at hk
    rcases hk with ((((((((rfl | rfl) | rfl) | rfl) | rfl) | rfl) | rfl) | rfl) | rfl) | rfl
    · exact he22_r
    · exact he22_0
    · exact he22_1
    · exact he22_2
    · exact he22_3
    · exact he22_4
    · exact he22_5
    · exact he22_6
    · exact he22_7
    · exact he22_8
  · rw [hcf22, mi_up_n (by omega), hcf21, mi_up_n (by omega), hcf20, mi_up_n (by omega), hcf19, mi_up_n (by omega), hcf18, mi_up_n (by omega), hcf17, mi_up_n (by omega), hcf16, mi_up_n (by omega), hcf15, mi_up_n (by omega), hcf14, mi_up_n (by omega), hcf13, mi_up_n (by omega), hcf12, mi_up_n (by omega), hcf11, mi_up_n (by omega), hcf10, mi_up_n (by omega), hcf9, mi_up_n (by omega), hcf8, mi_up_n (by omega), hcf7, mi_up_n (by omega), hcf6, mi_up_n (by omega), hcf5, mi_up_n (by omega), hcf4, mi_up_n (by omega), hcf3, mi_up_n (by omega), hcf2, mi_up_n (by omega), hcf1, mi_up_n (by omega)]
  · rw [had20, mi_up_n (by omega), had18, mi_up_n (by omega), had16, mi_up_n (by omega), had14, mi_up_n (by omega), had12, mi_up_n (by omega), had10, mi_up_n (by omega), had8, mi_up_n (by omega), had6, mi_up_n (by omega), had4, mi_up_n (by omega), had2, mi_up_n (by omega)]
  · exact ha20_9
