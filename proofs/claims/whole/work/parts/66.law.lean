/-! the law's loop, its start -/
set_option maxHeartbeats 4000000 in
set_option maxRecDepth 100000 in
theorem law_loop {p : Program} {l : Launch} {e : Env} {s : State} {m : MethodId} {below : List Frame} {meth : Method} {c : Code} {b L : Nat} {xs : Nat → Int32} {D : va_G} (hst : l.stackTraces = false) (S9 : CallFix p m c cL_law 7 s #[Value.ref b] (lw_w0 :: mi_G) RL) (hX9 : va_X b L xs s s.heap) (hbl : b < s.heap.size) (hL : L ≤ 2048) (E : mi_E D (fun q => s.heap.size ≤ q) s) (hb : c.code = code) (hr : meth.sig.returnType = ret) (hlocks : meth.locks = false) {q0 q1 q2 : Nat} : ∀ (n j : Nat), 513 ≤ j + n → j ≤ 512 → ∀ (S : sT) (H : Heap) (locs : List Loc) (ls : Array Slot), st_ok S → lw_I D (fun q => s.heap.size ≤ q) S q0 q1 q2 H → va_S (fun q => s.heap.size ≤ q) s.heap H locs → lv_has ls 7 [(4, .int (nI (4 * j))), (0, .ref b), (1, .ref q0), (2, .ref q1), (3, .ref q2)] → W p l e room_1 s m #[Value.ref b] below meth c H locs (60 + 6 * j) (6000 + 2019 * j) (lw_Z below #[Value.ref b] s) (F0 m 23 ls []) := by
  intro n
  induction n with
  | zero => intro j h1 h2; exact absurd h1 (by omega)
  | succ n ih =>
    intro j h1 h2 S H locs ls hO hI hS hl
    refine lv_iload S9.1 S9.2.1 dL_law_23 (lv_at hl 0 rfl) ?_
    refine lv_aload_n S9.1 S9.2.1 dL_law_25 rfl (lv_at hl 1 rfl) ?_
    refine va_slen S9.1 S9.2.1 hX9 hbl (fun h => absurd hbl (Nat.not_lt.mpr h)) hS dL_law_26 ?_
    refine mi_top (v' := .int (nI L)) rfl ?_
    refine lv_iconst (v := nI 4) S9.1 S9.2.1 dL_law_27 (by decide) ?_
    refine lv_isub S9.1 S9.2.1 dL_law_28 ?_
    refine mi_xcmp_gt (tgt := 1439) S9 (nI_toInt (n := 4 * j) (by omega)) (pk_sub_toInt (a := L) (b := 4) (by omega) (by omega)) dL_law_29 (by decide) (fun c1 => ?_) (fun c1 => ?_)
    · refine lv_iconst (v := 1) S9.1 S9.2.1 dL_law_1439 (by decide) ?_
      refine va_forget (fun q hq => hS.2.2 q hq) ?_
      refine W.widen (k := 601024) (n := 7293033) (by omega) (by omega) ?_
      exact lw_ret S9.1 hb hr hlocks dL_law_1440
    · have hi : 4 * j + 4 ≤ L := by omega
      have KK : ∀ (S1 : sT) (H : Heap) (locs : List Loc) (ls : Array Slot), st_ok S1 → lw_I D (fun q => s.heap.size ≤ q) S1 q0 q1 q2 H → va_S (fun q => s.heap.size ≤ q) s.heap H locs → lv_has ls 7 [(4, .int (nI (4 * j))), (0, .ref b), (1, .ref q0), (2, .ref q1), (3, .ref q2)] → W p l e room_1 s m #[Value.ref b] below meth c H locs (60 + 6 * j + 6) (6000 + 2019 * j + 2019) (lw_Z below #[Value.ref b] s) (F0 m 1433 ls []) := by
        intro S1 H locs ls hO hI hS hl
        refine lv_iinc (v := nI (4 * j + 4)) (lv' := [(4, .int (nI (4 * j + 4))), (0, .ref b), (1, .ref q0), (2, .ref q1), (3, .ref q2)]) S9.1 S9.2.1 dL_law_1433 hl (k := 0) rfl (mi_inc4 _) (by decide) rfl (fun ls hl => ?_)
        refine lv_goto (tgt := 23) S9.1 S9.2.1 dL_law_1436 (by decide) ?_
        rw [show 60 + 6 * j + 6 = 60 + 6 * (j + 1) by omega, show 6000 + 2019 * j + 2019 = 6000 + 2019 * (j + 1) by omega]
        exact ih (j + 1) (by omega) (by omega) S1 H locs ls hO hI hS (by rw [show 4 * (j + 1) = 4 * j + 4 by omega]; exact hl)
      refine lv_aload_n S9.1 S9.2.1 dL_law_32 rfl (lv_at hl 1 rfl) ?_
      refine lv_iload S9.1 S9.2.1 dL_law_33 (lv_at hl 0 rfl) ?_
      refine lw_sld S9 hX9 hbl hS (by omega) hL dL_law_35 ?_
      refine lv_bipush (v := nI 31) S9.1 S9.2.1 dL_law_36 (by decide) ?_
      refine lv_iand S9.1 S9.2.1 dL_law_38 ?_
      obtain ⟨t, ht, et⟩ := lw_31 (xs (4 * j))
      refine mi_top (v' := .int (nI t)) (by rw [et]) ?_
      by_cases h25 : t < 25
      · rcases (show t = 0 ∨ t = 1 ∨ t = 2 ∨ t = 3 ∨ t = 4 ∨ t = 5 ∨ t = 6 ∨ t = 7 ∨ t = 8 ∨ t = 9 ∨ t = 10 ∨ t = 11 ∨ t = 12 ∨ t = 13 ∨ t = 14 ∨ t = 15 ∨ t = 16 ∨ t = 17 ∨ t = 18 ∨ t = 19 ∨ t = 20 ∨ t = 21 ∨ t = 22 ∨ t = 23 ∨ t = 24 by omega) with rfl | rfl | rfl | rfl | rfl | rfl | rfl | rfl | rfl | rfl | rfl | rfl | rfl | rfl | rfl | rfl | rfl | rfl | rfl | rfl | rfl | rfl | rfl | rfl | rfl
        · refine lv_tableIn (off := 113) (tgt := 152) S9.1 S9.2.1 dL_law_39 (by decide) (by decide) rfl (by decide) ?_
          exact lw_case_0 hst S9 hX9 hbl hL E hO hi hI hS hl (by omega) (by omega) KK
        · refine lv_tableIn (off := 193) (tgt := 232) S9.1 S9.2.1 dL_law_39 (by decide) (by decide) rfl (by decide) ?_
          exact lw_case_1 hst S9 hX9 hbl hL E hO hi hI hS hl (by omega) (by omega) KK
        · refine lv_tableIn (off := 273) (tgt := 312) S9.1 S9.2.1 dL_law_39 (by decide) (by decide) rfl (by decide) ?_
          exact lw_case_2 hst S9 hX9 hbl hL E hO hi hI hS hl (by omega) (by omega) KK
        · refine lv_tableIn (off := 341) (tgt := 380) S9.1 S9.2.1 dL_law_39 (by decide) (by decide) rfl (by decide) ?_
          exact lw_case_3 hst S9 hX9 hbl hL E hO hi hI hS hl (by omega) (by omega) KK
        · refine lv_tableIn (off := 409) (tgt := 448) S9.1 S9.2.1 dL_law_39 (by decide) (by decide) rfl (by decide) ?_
          exact lw_case_4 hst S9 hX9 hbl hL E hO hi hI hS hl (by omega) (by omega) KK
        · refine lv_tableIn (off := 465) (tgt := 504) S9.1 S9.2.1 dL_law_39 (by decide) (by decide) rfl (by decide) ?_
          exact lw_case_5 hst S9 hX9 hbl hL E hO hi hI hS hl (by omega) (by omega) KK
        · refine lv_tableIn (off := 533) (tgt := 572) S9.1 S9.2.1 dL_law_39 (by decide) (by decide) rfl (by decide) ?_
          exact lw_case_6 hst S9 hX9 hbl hL E hO hi hI hS hl (by omega) (by omega) KK
        · refine lv_tableIn (off := 546) (tgt := 585) S9.1 S9.2.1 dL_law_39 (by decide) (by decide) rfl (by decide) ?_
          exact lw_case_7 hst S9 hX9 hbl hL E hO hi hI hS hl (by omega) (by omega) KK
        · refine lv_tableIn (off := 559) (tgt := 598) S9.1 S9.2.1 dL_law_39 (by decide) (by decide) rfl (by decide) ?_
          exact lw_case_8 hst S9 hX9 hbl hL E hO hi hI hS hl (by omega) (by omega) KK
        · refine lv_tableIn (off := 572) (tgt := 611) S9.1 S9.2.1 dL_law_39 (by decide) (by decide) rfl (by decide) ?_
          exact lw_case_9 hst S9 hX9 hbl hL E hO hi hI hS hl (by omega) (by omega) KK
        · refine lv_tableIn (off := 628) (tgt := 667) S9.1 S9.2.1 dL_law_39 (by decide) (by decide) rfl (by decide) ?_
          exact lw_case_10 hst S9 hX9 hbl hL E hO hi hI hS hl (by omega) (by omega) KK
        · refine lv_tableIn (off := 641) (tgt := 680) S9.1 S9.2.1 dL_law_39 (by decide) (by decide) rfl (by decide) ?_
          exact lw_case_11 hst S9 hX9 hbl hL E hO hi hI hS hl (by omega) (by omega) KK
        · refine lv_tableIn (off := 654) (tgt := 693) S9.1 S9.2.1 dL_law_39 (by decide) (by decide) rfl (by decide) ?_
          exact lw_case_12 hst S9 hX9 hbl hL E hO hi hI hS hl (by omega) (by omega) KK
        · refine lv_tableIn (off := 710) (tgt := 749) S9.1 S9.2.1 dL_law_39 (by decide) (by decide) rfl (by decide) ?_
          exact lw_case_13 hst S9 hX9 hbl hL E hO hi hI hS hl (by omega) (by omega) KK
        · refine lv_tableIn (off := 754) (tgt := 793) S9.1 S9.2.1 dL_law_39 (by decide) (by decide) rfl (by decide) ?_
          exact lw_case_14 hst S9 hX9 hbl hL E hO hi hI hS hl (by omega) (by omega) KK
        · refine lv_tableIn (off := 810) (tgt := 849) S9.1 S9.2.1 dL_law_39 (by decide) (by decide) rfl (by decide) ?_
          exact lw_case_15 hst S9 hX9 hbl hL E hO hi hI hS hl (by omega) (by omega) KK
        · refine lv_tableIn (off := 823) (tgt := 862) S9.1 S9.2.1 dL_law_39 (by decide) (by decide) rfl (by decide) ?_
          exact lw_case_16 hst S9 hX9 hbl hL E hO hi hI hS hl (by omega) (by omega) KK
        · refine lv_tableIn (off := 891) (tgt := 930) S9.1 S9.2.1 dL_law_39 (by decide) (by decide) rfl (by decide) ?_
          exact lw_case_17 hst S9 hX9 hbl hL E hO hi hI hS hl (by omega) (by omega) KK
        · refine lv_tableIn (off := 935) (tgt := 974) S9.1 S9.2.1 dL_law_39 (by decide) (by decide) rfl (by decide) ?_
          exact lw_case_18 hst S9 hX9 hbl hL E hO hi hI hS hl (by omega) (by omega) KK
        · refine lv_tableIn (off := 991) (tgt := 1030) S9.1 S9.2.1 dL_law_39 (by decide) (by decide) rfl (by decide) ?_
          exact lw_case_19 hst S9 hX9 hbl hL E hO hi hI hS hl (by omega) (by omega) KK
        · refine lv_tableIn (off := 1071) (tgt := 1110) S9.1 S9.2.1 dL_law_39 (by decide) (by decide) rfl (by decide) ?_
          exact lw_case_20 hst S9 hX9 hbl hL E hO hi hI hS hl (by omega) (by omega) KK
        · refine lv_tableIn (off := 1139) (tgt := 1178) S9.1 S9.2.1 dL_law_39 (by decide) (by decide) rfl (by decide) ?_
          exact lw_case_21 hst S9 hX9 hbl hL E hO hi hI hS hl (by omega) (by omega) KK
        · refine lv_tableIn (off := 1207) (tgt := 1246) S9.1 S9.2.1 dL_law_39 (by decide) (by decide) rfl (by decide) ?_
          exact lw_case_22 hst S9 hX9 hbl hL E hO hi hI hS hl (by omega) (by omega) KK
        · refine lv_tableIn (off := 1263) (tgt := 1302) S9.1 S9.2.1 dL_law_39 (by decide) (by decide) rfl (by decide) ?_
          exact lw_case_23 hst S9 hX9 hbl hL E hO hi hI hS hl (by omega) (by omega) KK
        · refine lv_tableIn (off := 1326) (tgt := 1365) S9.1 S9.2.1 dL_law_39 (by decide) (by decide) rfl (by decide) ?_
          exact lw_case_24 hst S9 hX9 hbl hL E hO hi hI hS hl (by omega) (by omega) KK
      · refine lv_tableOut (tgt := 1433) S9.1 S9.2.1 dL_law_39 (Or.inr (by rw [nI_toInt (by omega)]; omega)) (by decide) ?_
        refine W.widen (k := 60 + 6 * j + 6) (n := 6000 + 2019 * j + 2019) (by omega) (by omega) ?_
        exact KK S H locs ls hO hI hS hl
set_option maxHeartbeats 4000000 in
set_option maxRecDepth 100000 in
/-- THE LAW, from its entry -/
theorem whole_start {p : Program} {e : Env} {s : State} {m : MethodId} {below : List Frame} {meth : Method} {c : Code} (l : Launch) (hflags : l.flags = flags0) {b L : Nat} {xs : Nat → Int32} (hL : L ≤ 2048) (C0 : lw_At p s m meth c b L xs) : W p l e room_1 s m #[Value.ref b] below meth c s.heap [] 0 0 (lw_Z below #[Value.ref b] s) (entryFrame m ([Value.ref b] : List Value).toArray 7) := by
  have hst : l.stackTraces = false := by unfold Launch.stackTraces; rw [hflags]; decide +kernel
  obtain ⟨D, E⟩ := lw_env C0
  obtain ⟨hx, hb, hr, hml, hown, hts, hX9, hbl, hlocks, hgv⟩ := C0
  have S9 : CallFix p m c cL_law 7 s #[Value.ref b] (lw_w0 :: mi_G) RL := ⟨hx, hb, hml, hown, List.forall_mem_cons.mpr ⟨hts _ (lw_inG mw_32), fun w hw => hts w (lw_inG hw)⟩⟩
  have hA : ∀ q : Nat, s.heap.size ≤ q → (fun q => s.heap.size ≤ q) q := fun _ h => h
  have hAu : ∀ a b : Nat, (fun q => s.heap.size ≤ q) a → a ≤ b → (fun q => s.heap.size ≤ q) b := fun a b h1 h2 => Nat.le_trans h1 h2
  have hS : va_S (fun q => s.heap.size ≤ q) s.heap s.heap [] := va_S.rf
  have hW : mi_W D (fun q => s.heap.size ≤ q) (fun _ => 0) (fun _ => none) s.heap := ⟨fun r e h => (by cases h), fun r r9 e e9 h => (by cases h)⟩
  have hl := lv_entry ([.ref b]) (n := 7) (Nat.le_of_ble_eq_true rfl)
  rw [lg_entry_eq]
  generalize (lg_sl ([.ref b]) ++ List.replicate (7 - (lg_sl ([.ref b])).length) Slot.unset).toArray = ls at hl ⊢
  have hl : lv_has ls 7 [(0, .ref b)] := hl
  refine mi_new (ci := 5) (fs := [.null, .null, .null, .null, .null]) S9 E hS hA hW 0 rfl (mg_X4 _) tyX4 tyX4_ok (fun j hj => by rcases (show j = 0 ∨ j = 1 ∨ j = 2 ∨ j = 3 ∨ j = 4 by omega) with rfl | rfl | rfl | rfl | rfl <;> rfl) (List.mem_cons_of_mem _ mw_54) (List.mem_cons_of_mem _ mw_55) (List.mem_cons_of_mem _ mw_33) (Nat.le_of_ble_eq_true rfl) (Nat.le_of_ble_eq_true rfl) dL_law_0 (fun H hW hS hz => ?_)
  obtain ⟨ad1, had1⟩ : ∃ z, z = va_up (fun _ => 0 : Nat → Nat) 0 s.heap.size := ⟨_, rfl⟩
  obtain ⟨cf1, hcf1⟩ : ∃ z, z = va_up (fun _ => none : Nat → Option va_E) 0 (some (.inr (5, [.null, .null, .null, .null, .null]))) := ⟨_, rfl⟩
  rw [← had1, ← hcf1] at hW
  have he1 : cf1 0 = some (.inr (5, [.null, .null, .null, .null, .null])) := by rw [hcf1]; exact mi_up_s
  have ha1 : ad1 0 = s.heap.size := by rw [had1]; exact mi_up_s
  refine lv_dup S9.1 S9.2.1 dL_law_3 rfl ?_
  refine mi_cMv (mi_runI (P := mi_W D (fun q => s.heap.size ≤ q) ad1 cf1) (As := []) (rest := [.ref s.heap.size]) S9 E hS hW (s.heap.size) (c_vinit l D (fun q => s.heap.size ≤ q) hAu ha1 he1 (by rw [hcf1]; rfl)) mw_58 mw_56 mw_57 mw_33 rfl ⟨by decide, by decide, by decide +kernel⟩ ⟨rfl, rfl, Nat.le_of_ble_eq_true rfl, Nat.le_of_ble_eq_true rfl⟩ (n := 0) rfl hl.1 rfl (Nat.le_of_ble_eq_true rfl) dL_law_4 ⟨Nat.le_of_ble_eq_true rfl, Nat.le_of_ble_eq_true rfl⟩) hS (fun H locs hp9 hS hz => ?_)
  obtain ⟨ad2, cf2, hW, hX2, fr2, a20⟩ := hp9
  have ha2 : ad2 0 = s.heap.size := a20.trans ha1
  refine lv_astore_n (lv' := [(1, .ref s.heap.size), (0, .ref b)]) S9.1 S9.2.1 dL_law_7 rfl hl (by decide) rfl (fun ls hl => ?_)
  obtain ⟨H2, eH2⟩ : ∃ z, z = H := ⟨_, rfl⟩
  obtain ⟨q1, hq1⟩ : ∃ z, z = H.size := ⟨_, rfl⟩
  refine mi_new (ci := 6) (fs := [.int (nI 0), .int (nI 0), .int (nI 0), .null, .null, .null, .int (nI 0), .null, .null, .null, .int (nI 0), .null, .null, .null, .null]) S9 E hS hA hW 1000020 rfl (mg_X5 _) tyX5 tyX5_ok (fun j hj => by rcases (show j = 0 ∨ j = 1 ∨ j = 2 ∨ j = 3 ∨ j = 4 ∨ j = 5 ∨ j = 6 ∨ j = 7 ∨ j = 8 ∨ j = 9 ∨ j = 10 ∨ j = 11 ∨ j = 12 ∨ j = 13 ∨ j = 14 by omega) with rfl | rfl | rfl | rfl | rfl | rfl | rfl | rfl | rfl | rfl | rfl | rfl | rfl | rfl | rfl <;> rfl) (List.mem_cons_of_mem _ mw_671) (List.mem_cons_of_mem _ mw_672) (List.mem_cons_of_mem _ mw_43) (Nat.le_of_ble_eq_true rfl) (Nat.le_of_ble_eq_true rfl) dL_law_8 (fun H hW hS hz => ?_)
  rw [← hq1] at hW hz ⊢
  obtain ⟨ad3, had3⟩ : ∃ z, z = va_up ad2 1000020 q1 := ⟨_, rfl⟩
  obtain ⟨cf3, hcf3⟩ : ∃ z, z = va_up cf2 1000020 (some (.inr (6, [.int (nI 0), .int (nI 0), .int (nI 0), .null, .null, .null, .int (nI 0), .null, .null, .null, .int (nI 0), .null, .null, .null, .null]))) := ⟨_, rfl⟩
  rw [← had3, ← hcf3] at hW
  have he3 : cf3 1000020 = some (.inr (6, [.int (nI 0), .int (nI 0), .int (nI 0), .null, .null, .null, .int (nI 0), .null, .null, .null, .int (nI 0), .null, .null, .null, .null])) := by rw [hcf3]; exact mi_up_s
  have ha3 : ad3 1000020 = q1 := by rw [had3]; exact mi_up_s
  refine lv_dup S9.1 S9.2.1 dL_law_11 rfl ?_
  refine mi_cMv (mi_runI (P := mi_W D (fun q => s.heap.size ≤ q) ad3 cf3) (As := []) (rest := [.ref q1]) S9 E hS hW (q1) (c_minit l D (fun q => s.heap.size ≤ q) hAu ha3 he3) mw_675 mw_673 mw_674 mw_43 rfl ⟨by decide, by decide, by decide +kernel⟩ ⟨rfl, rfl, Nat.le_of_ble_eq_true rfl, Nat.le_of_ble_eq_true rfl⟩ (n := 0) rfl hl.1 rfl (Nat.le_of_ble_eq_true rfl) dL_law_12 ⟨Nat.le_of_ble_eq_true rfl, Nat.le_of_ble_eq_true rfl⟩) hS (fun H locs hp9 hS hz => ?_)
  obtain ⟨ad4, cf4, hW, hm4, fr4, a41⟩ := hp9
  refine lv_astore_n (lv' := [(2, .ref q1), (1, .ref s.heap.size), (0, .ref b)]) S9.1 S9.2.1 dL_law_15 rfl hl (by decide) rfl (fun ls hl => ?_)
  refine lv_iconst (v := nI 1) S9.1 S9.2.1 dL_law_16 (by decide) ?_
  obtain ⟨q2, hq2⟩ : ∃ z, z = H.size := ⟨_, rfl⟩
  refine mi_newl (n := 1) S9 E hS hA hW 1500 (List.mem_cons_of_mem _ mw_899) (by omega) (Nat.le_of_ble_eq_true rfl) (Nat.le_of_ble_eq_true rfl) dL_law_17 (fun H hW hS hz => ?_)
  rw [← hq2] at hW hz ⊢
  refine lv_astore_n (lv' := [(3, .ref q2), (2, .ref q1), (1, .ref s.heap.size), (0, .ref b)]) S9.1 S9.2.1 dL_law_19 rfl hl (by decide) rfl (fun ls hl => ?_)
  refine lv_iconst (v := nI 0) S9.1 S9.2.1 dL_law_20 (by decide) ?_
  refine lv_istore (lv' := [(4, .int (nI 0)), (3, .ref q2), (2, .ref q1), (1, .ref s.heap.size), (0, .ref b)]) S9.1 S9.2.1 dL_law_21 hl (by decide) rfl (fun ls hl => ?_)
  refine W.widen (k := 60 + 6 * 0) (n := 6000 + 2019 * 0) (Nat.le_of_ble_eq_true rfl) (Nat.le_of_ble_eq_true rfl) ?_
  refine law_loop hst S9 hX9 hbl hL E hb hr hlocks (q0 := s.heap.size) (q1 := q1) (q2 := q2) 513 0 (by omega) (by omega) st_0 _ _ ls st_ok_st0 ⟨_, _, mo_f0, mo_g0, _, hW, hX2.same st_ok_st0 (fun k hk => ⟨?_, ?_⟩), st_mo_st0, mo_at_keep hm4 (fun r hr => ⟨mi_up_n (by omega), mi_up_n (by omega)⟩), mi_up_s, ?_, ?_, mi_up_s⟩ hS (lv_sub hl [0, 4, 3, 2, 1] rfl)
  · exact (mi_up_n (by omega)).trans (((fr4 k (Or.inl (by omega))).1).trans (by rw [hcf3]; exact mi_up_n (by omega)))
  · exact (mi_up_n (by omega)).trans (((fr4 k (Or.inl (by omega))).2).trans (by rw [had3]; exact mi_up_n (by omega)))
  · exact (mi_up_n (by omega)).trans (((fr4 0 (Or.inl (by omega))).2).trans ((by rw [had3]; exact mi_up_n (by omega) : ad3 0 = ad2 0).trans ha2))
  · exact (mi_up_n (by omega)).trans a41
