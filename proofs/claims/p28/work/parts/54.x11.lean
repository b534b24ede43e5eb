/-! strike, forge -/
set_option maxHeartbeats 4000000 in
set_option maxRecDepth 100000 in
theorem c_makeCoin (l : Launch) (D : va_G) (A : Nat → Prop) {ad : Nat → Nat} {cf : Nat → Option va_E} {S0 : sT} {co : Nat → Nat → Nat} {hrr grr : Nat → Nat} (hC : RepC D S0 ad cf co hrr grr) (hO : st_ok S0) (hAu : ∀ a b, A a → a ≤ b → A b) {d : Nat} (hd : d < sD S0) (h60 : sC S0 < 60) : mi_Mr l yX1_makeCoin (Cond.code yX1_makeCoin cX1_makeCoin 3 (some (Jvm.ClassFile.FieldType.object "Voxelmint$Coin"))) (mi_rq 7 3 1019) D A (mi_W D A ad cf) [.ref (ad (300 + d))] 3 1019 (fun r H => ∃ ad1 cf1, mi_W D A ad1 cf1 H ∧ r = ad1 (400 + sC S0) ∧ cf1 (400 + sC S0) = some (.inr (1, [.ref (ad1 (300 + d)), .ref (ad1 (500 + sC S0)), .ref (ad1 (500 + sC S0))])) ∧ cf1 (500 + sC S0) = some (mi_ai D 16 (fun c => nI (sH S0 d c))) ∧ cf1 (320 + d) = some (mi_ai D 16 (fun c => nI (st_af S0 d c))) ∧ mi_L D ad1 cf1 (330 + d) (340 + d) (sX S0 d + 1) (mi_un (fun k => 400 + co d k) (sX S0 d) (400 + sC S0)) ∧ (∀ k, k ≠ (400 + sC S0) → k ≠ (500 + sC S0) → k ≠ (320 + d) → k ≠ (330 + d) → k ≠ (340 + d) → cf1 k = cf k) ∧ (∀ k, k ≠ (400 + sC S0) → k ≠ (500 + sC S0) → k ≠ (340 + d) → ad1 k = ad k)) := by
  refine mi_start (cc := cX1_makeCoin) (nL := 3) (ret := (some (Jvm.ClassFile.FieldType.object "Voxelmint$Coin"))) rfl (by decide) (Nat.le_of_ble_eq_true rfl) ?_
  intro p e s m below meth c ls S E hW hS hr hk hn hl
  have S : CallFix p m c cX1_makeCoin 3 s _ ((Cond.code yX1_makeCoin cX1_makeCoin 3 (some (Jvm.ClassFile.FieldType.object "Voxelmint$Coin"))) :: mi_G) RX1 := S
  have hl : lv_has ls 3 [(0, .ref (ad (300 + d)))] := hl
  obtain ⟨⟨o1, o2, o3, o4, o5⟩, oP, oK, oD, oX, oC, oI⟩ := id hO
  obtain ⟨y0, y1, y2, y3, ⟨ym, yq, yn, yp⟩, ys, yd, yc, y9⟩ := id hC
  obtain ⟨⟨hd1, hd2, hd3, hd4⟩, hd5⟩ := yd d hd
  have oXd := oX d hd
  have hA : ∀ q, s.heap.size ≤ q → A q := hW.up hAu y0
  refine lv_aload_n S.1 S.2.1 dX1_makeCoin_0 rfl (lv_at hl 0 rfl) ?_
  refine fg_X1_20 S E hW ((300 + d)) rfl hd1 rfl dX1_makeCoin_1 ?_
  obtain ⟨a1, hn1⟩ : ∃ z, z = s.heap.size := ⟨_, rfl⟩
  refine mi_clone S E hS hA hW ((320 + d)) (500 + sC S0) rfl hd3 hl.1 (List.mem_cons_of_mem _ mw_485) (List.mem_cons_of_mem _ mw_329) (List.mem_cons_of_mem _ mw_330) (List.mem_cons_of_mem _ mw_331) (List.mem_cons_of_mem _ mw_332) (Nat.le_of_ble_eq_true rfl) (Nat.le_of_ble_eq_true rfl) (by show _ ≤ (3 : Nat); omega) (by show _ ≤ (1019 : Nat); omega) dX1_makeCoin_4 (fun H9 hW hS hz => ?_)
  rw [← hn1] at hW hz ⊢
  obtain ⟨H, rfl⟩ : ∃ z, z = H9 := ⟨_, rfl⟩
  obtain ⟨ad1, had1⟩ : ∃ z, z = va_up ad ((500 + sC S0)) a1 := ⟨_, rfl⟩
  obtain ⟨cf1, hcf1⟩ : ∃ z, z = va_up cf ((500 + sC S0)) (some (mi_ai D 16 (fun c => nI (sH S0 d c)))) := ⟨_, rfl⟩
  have hW : mi_W D A ad1 cf1 H := by rw [had1, hcf1]; exact hW
  have he1_0 : cf1 ((300 + d)) = some (.inr (2, [.ref (ad (310 + d)), .ref (ad (320 + d)), .ref (ad (330 + d))])) := by rw [hcf1]; exact (mi_up_n (by omega)).trans hd1
  have ha1_0 : ad1 ((300 + d)) = ad (300 + d) := by rw [had1]; exact (mi_up_n (by omega)).trans rfl
  have he1_1 : cf1 ((320 + d)) = some (mi_ai D 16 (fun c => nI (sH S0 d c))) := by rw [hcf1]; exact (mi_up_n (by omega)).trans hd3
  have ha1_1 : ad1 ((320 + d)) = ad (320 + d) := by rw [had1]; exact (mi_up_n (by omega)).trans rfl
  have he1_r : cf1 ((500 + sC S0)) = some (mi_ai D 16 (fun c => nI (sH S0 d c))) := by rw [hcf1]; exact mi_up_s
  have ha1_r : ad1 ((500 + sC S0)) = a1 := by rw [had1]; exact mi_up_s
  refine mi_castI S E hW ((500 + sC S0)) ha1_r he1_r (List.mem_cons_of_mem _ mw_486) dX1_makeCoin_7 ?_
  refine lv_astore_n (lv' := [(1, .ref (a1)), (0, .ref (ad (300 + d)))]) S.1 S.2.1 dX1_makeCoin_10 rfl hl (by decide) rfl (fun ls hl => ?_)
  obtain ⟨a2, hn2⟩ : ∃ z, z = H.size := ⟨_, rfl⟩
  refine mi_new (ci := 1) (fs := [.null, .null, .null]) S E hS hA hW (400 + sC S0) rfl (mg_X0 _) tyX0 tyX0_ok (fun j hj => by rcases (show j = 0 ∨ j = 1 ∨ j = 2 by omega) with rfl | rfl | rfl <;> rfl) (List.mem_cons_of_mem _ mw_526) (List.mem_cons_of_mem _ mw_527) (List.mem_cons_of_mem _ mw_37) (by show _ ≤ (3 : Nat); omega) (by show _ ≤ (1019 : Nat); omega) dX1_makeCoin_11 (fun H9 hW hS hz => ?_)
  rw [← hn2] at hW hz ⊢
  obtain ⟨H, rfl⟩ : ∃ z, z = H9 := ⟨_, rfl⟩
  obtain ⟨ad2, had2⟩ : ∃ z, z = va_up ad1 ((400 + sC S0)) a2 := ⟨_, rfl⟩
  obtain ⟨cf2, hcf2⟩ : ∃ z, z = va_up cf1 ((400 + sC S0)) (some (.inr (1, [.null, .null, .null]))) := ⟨_, rfl⟩
  have hW : mi_W D A ad2 cf2 H := by rw [had2, hcf2]; exact hW
  have he2_0 : cf2 ((300 + d)) = some (.inr (2, [.ref (ad (310 + d)), .ref (ad (320 + d)), .ref (ad (330 + d))])) := by rw [hcf2]; exact (mi_up_n (by omega)).trans he1_0
  have ha2_0 : ad2 ((300 + d)) = ad (300 + d) := by rw [had2]; exact (mi_up_n (by omega)).trans ha1_0
  have he2_1 : cf2 ((320 + d)) = some (mi_ai D 16 (fun c => nI (sH S0 d c))) := by rw [hcf2]; exact (mi_up_n (by omega)).trans he1_1
  have ha2_1 : ad2 ((320 + d)) = ad (320 + d) := by rw [had2]; exact (mi_up_n (by omega)).trans ha1_1
  have he2_2 : cf2 ((500 + sC S0)) = some (mi_ai D 16 (fun c => nI (sH S0 d c))) := by rw [hcf2]; exact (mi_up_n (by omega)).trans he1_r
  have ha2_2 : ad2 ((500 + sC S0)) = a1 := by rw [had2]; exact (mi_up_n (by omega)).trans ha1_r
  have he2_r : cf2 ((400 + sC S0)) = some (.inr (1, [.null, .null, .null])) := by rw [hcf2]; exact mi_up_s
  have ha2_r : ad2 ((400 + sC S0)) = a2 := by rw [had2]; exact mi_up_s
  refine lv_dup S.1 S.2.1 dX1_makeCoin_14 rfl ?_
  refine lv_aload_n S.1 S.2.1 dX1_makeCoin_15 rfl (lv_at hl 1 rfl) ?_
  refine lv_aload_n S.1 S.2.1 dX1_makeCoin_16 rfl (lv_at hl 0 rfl) ?_
  refine lv_aload_n S.1 S.2.1 dX1_makeCoin_17 rfl (lv_at hl 0 rfl) ?_
  refine mi_cMv (mi_runI (P := mi_W D A ad2 cf2) (As := [.ref (ad (300 + d)), .ref (a1), .ref (a1)]) (rest := [.ref (a2)]) S E hS hW a2 (c_Coin_init l D A ha2_r he2_r) mw_530 mw_528 mw_529 mw_37 rfl ⟨by decide, by decide, by decide +kernel⟩ ⟨rfl, rfl, Nat.le_of_ble_eq_true rfl, Nat.le_of_ble_eq_true rfl⟩ (n := 3) rfl hl.1 rfl (Nat.le_of_ble_eq_true rfl) dX1_makeCoin_18 ⟨(by show _ ≤ (3 : Nat); omega), (by show _ ≤ (1019 : Nat); omega)⟩) hS (fun H locs hW hS hz => ?_)
  obtain ⟨cf3, hcf3⟩ : ∃ z, z = va_up cf2 ((400 + sC S0)) (some (.inr (1, [.ref (ad (300 + d)), .ref (a1), .ref (a1)]))) := ⟨_, rfl⟩
  have hW : mi_W D A ad2 cf3 H := by rw [hcf3]; exact hW
  have he3_0 : cf3 ((300 + d)) = some (.inr (2, [.ref (ad (310 + d)), .ref (ad (320 + d)), .ref (ad (330 + d))])) := by rw [hcf3]; exact (mi_up_n (by omega)).trans he2_0
  have he3_1 : cf3 ((320 + d)) = some (mi_ai D 16 (fun c => nI (sH S0 d c))) := by rw [hcf3]; exact (mi_up_n (by omega)).trans he2_1
  have he3_2 : cf3 ((500 + sC S0)) = some (mi_ai D 16 (fun c => nI (sH S0 d c))) := by rw [hcf3]; exact (mi_up_n (by omega)).trans he2_2
  have he3_r : cf3 ((400 + sC S0)) = some (.inr (1, [.ref (ad (300 + d)), .ref (a1), .ref (a1)])) := by rw [hcf3]; exact mi_up_s
  refine lv_astore_n (lv' := [(2, .ref (a2)), (1, .ref (a1)), (0, .ref (ad (300 + d)))]) S.1 S.2.1 dX1_makeCoin_21 rfl hl (by decide) rfl (fun ls hl => ?_)
  refine lv_aload_n S.1 S.2.1 dX1_makeCoin_22 rfl (lv_at hl 2 rfl) ?_
  refine fg_X1_26 S E hW ((300 + d)) ha2_0 he3_0 rfl dX1_makeCoin_23 ?_
  refine lv_aload_n S.1 S.2.1 dX1_makeCoin_26 rfl (lv_at hl 0 rfl) ?_
  have eC : ∀ k, k ≠ (400 + sC S0) → k ≠ (500 + sC S0) → cf3 k = cf k := fun k _ _ => by rw [hcf3, mi_up_n (by omega), hcf2, mi_up_n (by omega), hcf1, mi_up_n (by omega)]
  have eA : ∀ k, k ≠ (400 + sC S0) → k ≠ (500 + sC S0) → ad2 k = ad k := fun k _ _ => by rw [had2, mi_up_n (by omega), had1, mi_up_n (by omega)]
  refine mi_two (v' := .ref (ad2 (400 + sC S0))) (u' := .ref (ad2 (330 + d))) (congrArg Value.ref (Eq.symm ha2_r)) (congrArg Value.ref (Eq.symm (eA (330 + d) (by omega) (by omega)))) ?_
  have kL9 : mi_L D ad2 cf3 (330 + d) (340 + d) (sX S0 d) (fun k => 400 + co d k) := hd4.keep (eC _ (by omega) (by omega)) ⟨eC _ (by omega) (by omega), eA _ (by omega) (by omega)⟩ (fun k hk => eA _ (by have := (hd5 k hk).1; omega) (by have := (hd5 k hk).1; omega))
  obtain ⟨mc8, ea8, hs8⟩ := kL9.size
  refine mi_cMi (mi_runV (P := mi_W D A ad2 cf3) (As := [.ref (ad2 (400 + sC S0))]) (rest := []) S E hS hW (ad2 (330 + d)) (c_addL l D A hAu kL9 (by omega) (ro := (400 + sC S0)) he3_r rfl (by decide) (by omega) (by omega) (by omega) (by omega) (by omega) (by omega) ((eC 999 (by omega) (by omega)).trans y9) (fun i hi => ⟨⟨_, (eC _ (by have := (hd5 i hi).1; omega) (by have := (hd5 i hi).1; omega)).trans (yc (co d i) (hd5 i hi).1).1⟩, (fun he => absurd (hW.2 _ (330 + d) _ _ ((eC _ (by have := (hd5 i hi).1; omega) (by have := (hd5 i hi).1; omega)).trans (yc (co d i) (hd5 i hi).1).1) hs8 he) (by omega)), by omega⟩)) (hW.recv E hs8 rfl) mw_111 mw_545 mw_109 mw_110 mw_21 ⟨by decide, by decide, by decide +kernel⟩ ⟨rfl, rfl, Nat.le_of_ble_eq_true rfl, Nat.le_of_ble_eq_true rfl⟩ (n := 1) rfl hl.1 rfl (Nat.le_of_ble_eq_true rfl) dX1_makeCoin_27 ⟨(by show _ ≤ (3 : Nat); omega), (by show _ ≤ (1019 : Nat); omega)⟩) hS (fun r9 H locs hp9 hS hz => ?_)
  obtain ⟨e9, adL, cfL, hW, kL, frL, aL⟩ := hp9
  obtain ⟨mc6, ea6, hs6⟩ := kL.size
  have hy6 := (frL (300 + d) (by omega) (by omega)).1.trans he3_0
  have aD6 : adL (300 + d) = ad (300 + d) := (frL (300 + d) (by omega) (by omega)).2.trans (eA _ (by omega) (by omega))
  have aS6 : adL (330 + d) = ad (330 + d) := aL.trans (eA _ (by omega) (by omega))
  have hH6 := (frL (320 + d) (by omega) (by omega)).1.trans ((eC _ (by omega) (by omega)).trans hd3)
  have aH6 : adL (320 + d) = ad (320 + d) := (frL (320 + d) (by omega) (by omega)).2.trans (eA _ (by omega) (by omega))
  have hC6 := (frL (400 + sC S0) (by omega) (by omega)).1.trans he3_r
  have hR6 := (frL (500 + sC S0) (by omega) (by omega)).1.trans he3_2
  have aC6 := (frL (400 + sC S0) (by omega) (by omega)).2.trans ha2_r
  have aR6 := (frL (500 + sC S0) (by omega) (by omega)).2.trans ha2_2
  refine lv_pop S.1 S.2.1 dX1_makeCoin_30 rfl ?_
  refine lv_aload_n S.1 S.2.1 dX1_makeCoin_31 rfl (lv_at hl 2 rfl) ?_
  refine fg_X1_26 S E hW ((300 + d)) aD6 hy6 rfl dX1_makeCoin_32 ?_
  refine mi_top (v' := .ref (adL (330 + d))) (congrArg Value.ref (Eq.symm aS6)) ?_
  refine mi_cR (mi_runV (P := mi_W D A adL cfL) (As := []) (rest := []) S E hS hW (adL (330 + d)) (c_AL_size l D A hs6) (hW.recv E hs6 rfl) mw_307 mw_546 mw_305 mw_306 mw_21 ⟨by decide, by decide, by decide +kernel⟩ ⟨rfl, rfl, Nat.le_of_ble_eq_true rfl, Nat.le_of_ble_eq_true rfl⟩ (n := 0) rfl hl.1 rfl (Nat.le_of_ble_eq_true rfl) dX1_makeCoin_35 ⟨(by show _ ≤ (3 : Nat); omega), (by show _ ≤ (1019 : Nat); omega)⟩) (fun r9 e9 => ?_)
  subst e9
  refine lv_iconst (v := nI 2) S.1 S.2.1 dX1_makeCoin_38 (by decide) ?_
  refine mi_irem S (by omega) (by omega) (by omega) dX1_makeCoin_39 ?_
  refine mi_if_ne (tgt := 47) S (by omega) dX1_makeCoin_40 (by decide) (fun c40_3 => ?_) (fun c40_3 => ?_)
  · refine lv_aload_n S.1 S.2.1 dX1_makeCoin_47 rfl (lv_at hl 0 rfl) ?_
    exact mi_retMr S hr (Or.inl ⟨_, rfl⟩) hk hS dX1_makeCoin_48 (by show _ ≤ (3 : Nat); omega) (by show _ ≤ (1019 : Nat); omega) ⟨adL, cfL, hW, aC6.symm, (by rw [aD6, aR6]; exact hC6), hR6, (by unfold st_af; rw [if_neg (by omega)]; exact hH6), kL, (fun k q1 q2 q3 q4 q5 => (frL k q4 q5).1.trans (eC k q1 q2)), (fun k q1 q2 q5 => if z : k = (330 + d) then by rw [z]; exact aS6 else (frL k z q5).2.trans (eA k q1 q2))⟩
  · refine lv_aload_n S.1 S.2.1 dX1_makeCoin_43 rfl (lv_at hl 2 rfl) ?_
    refine mi_cMv (mi_runV (P := mi_W D A adL cfL) (As := []) (rest := []) S E hS hW (ad (300 + d)) (c_wear l D A (d := d) aD6 hy6 aH6 hH6 (fun c hc => st_hb hO hd hc)) (hW.recvA E aD6 hy6 rfl) mw_550 mw_547 mw_549 mw_13 mw_36 ⟨by decide, by decide, by decide +kernel⟩ ⟨rfl, rfl, Nat.le_of_ble_eq_true rfl, Nat.le_of_ble_eq_true rfl⟩ (n := 0) rfl hl.1 rfl (Nat.le_of_ble_eq_true rfl) dX1_makeCoin_44 ⟨(by show _ ≤ (3 : Nat); omega), (by show _ ≤ (1019 : Nat); omega)⟩) hS (fun H locs hW hS hz => ?_)
    refine lv_aload_n S.1 S.2.1 dX1_makeCoin_47 rfl (lv_at hl 0 rfl) ?_
    exact mi_retMr S hr (Or.inl ⟨_, rfl⟩) hk hS dX1_makeCoin_48 (by show _ ≤ (3 : Nat); omega) (by show _ ≤ (1019 : Nat); omega) ⟨adL, _, hW, aC6.symm, (by rw [aD6, aR6]; exact ((mi_up_n (by omega)).trans (hC6))), ((mi_up_n (by omega)).trans (hR6)), (by unfold st_af; rw [if_pos (by omega)]; exact mi_up_s), (kL.keep (mi_up_n (by omega)) ⟨mi_up_n (by omega), rfl⟩ (fun _ _ => rfl)), (fun k q1 q2 q3 q4 q5 => ((mi_up_n (by omega)).trans ((frL k q4 q5).1.trans (eC k q1 q2)))), (fun k q1 q2 q5 => if z : k = (330 + d) then by rw [z]; exact aS6 else (frL k z q5).2.trans (eA k q1 q2))⟩
set_option maxHeartbeats 4000000 in
set_option maxRecDepth 100000 in
theorem c_strike (l : Launch) (D : va_G) (A : Nat → Prop) {ad : Nat → Nat} {cf : Nat → Option va_E} {S0 : sT} (hX : RepX D S0 ad cf) (hO : st_ok S0) (hAu : ∀ a b, A a → a ≤ b → A b) {d : Nat} (hd : d < sD S0) (h60 : sC S0 < 60) : mi_Mi l yX4_strike (Cond.code yX4_strike cX4_strike 2 (some Jvm.ClassFile.FieldType.int)) (mi_rq 8 4 2019) D A (mi_W D A ad cf) [.ref (ad 0), .int (nI (d))] 4 2019 (fun r H => r = nI (sC S0) ∧ rx_P D A (st_strike S0 d) ad cf H) := by
  refine mi_start (cc := cX4_strike) (nL := 2) (ret := (some Jvm.ClassFile.FieldType.int)) rfl (by decide) (Nat.le_of_ble_eq_true rfl) ?_
  intro p e s m below meth c ls S E hW hS hr hk hn hl
  have S : CallFix p m c cX4_strike 2 s _ ((Cond.code yX4_strike cX4_strike 2 (some Jvm.ClassFile.FieldType.int)) :: mi_G) RX4 := S
  have hl : lv_has ls 2 [(0, .ref (ad 0)), (1, .int (nI (d)))] := hl
  obtain ⟨⟨o1, o2, o3, o4, o5⟩, oP, oK, oD, oX, oC, oI⟩ := id hO
  obtain ⟨x0, x1, x2, x3, ⟨pm, pq, pn, xp⟩, xs, -, x9⟩ := id hX
  have hx0 := x0
  unfold rx_ob at hx0
  obtain ⟨co, hrr, grr, hC⟩ := hX.C
  obtain ⟨y0, y1, y2, y3, ⟨ym, yq, yn, yp⟩, ys, yd, yc, y9⟩ := id hC
  obtain ⟨mw2, cap2, f2, hc2, hn2, hr2, hq2, hf2⟩ := x2.row (by omega)
  obtain ⟨⟨hd1, hd2, hd3, hd4⟩, hd5⟩ := yd d hd
  have hA : ∀ q, s.heap.size ≤ q → A q := hW.up hAu hx0
  refine lv_aload_n S.1 S.2.1 dX4_strike_0 rfl (lv_at hl 0 rfl) ?_
  refine lv_iload_n S.1 S.2.1 dX4_strike_1 rfl (lv_at hl 1 rfl) ?_
  refine mi_cV (mi_runV (P := mi_W D A ad cf) (As := [.int (nI (d))]) (rest := []) S E hS hW (ad 0) (c_checkDie l D A hX hO (by omega)) (hW.recv E hx0 rfl) mw_515 mw_512 mw_514 mw_11 mw_18 ⟨by decide, by decide, by decide +kernel⟩ ⟨rfl, rfl, Nat.le_of_ble_eq_true rfl, Nat.le_of_ble_eq_true rfl⟩ (n := 1) rfl hl.1 rfl (Nat.le_of_ble_eq_true rfl) dX4_strike_2 ⟨Nat.le_of_ble_eq_true rfl, Nat.le_of_ble_eq_true rfl⟩) ?_
  refine lv_aload_n S.1 S.2.1 dX4_strike_5 rfl (lv_at hl 0 rfl) ?_
  refine mi_cV (mi_runV (P := mi_W D A ad cf) (As := []) (rest := []) S E hS hW (ad 0) (c_checkRoomForCoin l D A hX hO h60) (hW.recv E hx0 rfl) mw_520 mw_517 mw_519 mw_12 mw_18 ⟨by decide, by decide, by decide +kernel⟩ ⟨rfl, rfl, Nat.le_of_ble_eq_true rfl, Nat.le_of_ble_eq_true rfl⟩ (n := 0) rfl hl.1 rfl (Nat.le_of_ble_eq_true rfl) dX4_strike_6 ⟨Nat.le_of_ble_eq_true rfl, Nat.le_of_ble_eq_true rfl⟩) ?_
  refine lv_aload_n S.1 S.2.1 dX4_strike_9 rfl (lv_at hl 0 rfl) ?_
  refine lv_aload_n S.1 S.2.1 dX4_strike_10 rfl (lv_at hl 0 rfl) ?_
  refine fg_X4_16 S E hW 0 rfl hx0 rfl dX4_strike_11 ?_
  refine lv_iload_n S.1 S.2.1 dX4_strike_14 rfl (lv_at hl 1 rfl) ?_
  refine mi_cQ (mi_runV (P := mi_W D A ad cf) (As := [.int (nI (d))]) (rest := [.ref (ad 0)]) S E hS hW (ad 2) (c_AL_get l D A hr2 hq2 hc2 (i := d) (by omega) hn2) (hW.recv E hr2 rfl) mw_392 mw_389 mw_390 mw_391 mw_21 ⟨by decide, by decide, by decide +kernel⟩ ⟨rfl, rfl, Nat.le_of_ble_eq_true rfl, Nat.le_of_ble_eq_true rfl⟩ (n := 1) rfl hl.1 rfl (Nat.le_of_ble_eq_true rfl) dX4_strike_15 ⟨Nat.le_of_ble_eq_true rfl, Nat.le_of_ble_eq_true rfl⟩) (fun r9 e9 => ?_)
  subst e9
  refine mi_top (v' := .ref (ad (300 + d))) (congrArg va_rf (hf2 d (by omega))) ?_
  refine mi_castX S E hW ((300 + d)) rfl hd1 rfl (List.mem_cons_of_mem _ mw_470) dX4_strike_18 ?_
  refine mi_cMr (mi_runV (P := mi_W D A ad cf) (As := []) (rest := [.ref (ad 0)]) S E hS hW (ad (300 + d)) (c_makeCoin l D A hC hO hAu hd h60) (hW.recv E hd1 rfl) mw_525 mw_522 mw_523 mw_524 mw_36 ⟨by decide, by decide, by decide +kernel⟩ ⟨rfl, rfl, Nat.le_of_ble_eq_true rfl, Nat.le_of_ble_eq_true rfl⟩ (n := 0) rfl hl.1 rfl (Nat.le_of_ble_eq_true rfl) dX4_strike_21 ⟨(by show _ ≤ (4 : Nat); omega), (by show _ ≤ (2019 : Nat); omega)⟩) hS (fun r9 H locs hp9 hS hz => ?_)
  obtain ⟨ad1, cf1, hW, er, kC, kR, kH, kS, fC, fA⟩ := hp9
  refine mi_cMi (mi_runV (P := mi_W D A ad1 cf1) (As := [.ref (r9)]) (rest := []) S E hS hW (ad 0) (c_keepCoin l D A (n := sC S0) hAu (fA 0 (by omega) (by omega) (by omega)) er.symm (show cf1 0 = some (.inr (5, [.ref (ad 1), .ref (ad 2), .ref (ad1 3), .ref (ad 4), .ref (ad (100 + 2 * sW S0))])) from by rw [fC 0 (by omega) (by omega) (by omega) (by omega) (by omega), fA 3 (by omega) (by omega) (by omega)]; exact hx0) (y3.keep (fC _ (by omega) (by omega) (by omega) (by omega) (by omega)) ⟨fC _ (by omega) (by omega) (by omega) (by omega) (by omega), fA _ (by omega) (by omega) (by omega)⟩ (fun i hi => fA _ (by omega) (by omega) (by omega))) h60 kC ((fC 999 (by omega) (by omega) (by omega) (by omega) (by omega)).trans y9) (fun i hi => ⟨_, (fC _ (by omega) (by omega) (by omega) (by omega) (by omega)).trans (yc i hi).1⟩)) (hW.recvA E (fA 0 (by omega) (by omega) (by omega)) (show cf1 0 = some (.inr (5, [.ref (ad 1), .ref (ad 2), .ref (ad1 3), .ref (ad 4), .ref (ad (100 + 2 * sW S0))])) from by rw [fC 0 (by omega) (by omega) (by omega) (by omega) (by omega), fA 3 (by omega) (by omega) (by omega)]; exact hx0) rfl) mw_554 mw_551 mw_553 mw_14 mw_18 ⟨by decide, by decide, by decide +kernel⟩ ⟨rfl, rfl, Nat.le_of_ble_eq_true rfl, Nat.le_of_ble_eq_true rfl⟩ (n := 1) rfl hl.1 rfl (Nat.le_of_ble_eq_true rfl) dX4_strike_24 ⟨(by show _ ≤ (4 : Nat); omega), (by show _ ≤ (2019 : Nat); omega)⟩) hS (fun r9 H locs hp9 hS hz => ?_)
  obtain ⟨e9, ad2, cf2, hW, kL, frL, aL⟩ := hp9
  subst e9
  refine mi_retMi S hr hk hS dX4_strike_27 (by show _ ≤ (4 : Nat); omega) (by show _ ≤ (2019 : Nat); omega) ⟨rfl, ad2, cf2, hW, (RepC.strike hO h60 hd hC kL (aL.trans (fA 3 (by omega) (by omega) (by omega))) ?_ ((frL (500 + sC S0) (by omega) (by omega)).1.trans kR) ((frL (320 + d) (by omega) (by omega)).1.trans kH) ((frL (320 + d) (by omega) (by omega)).2.trans (fA _ (by omega) (by omega) (by omega))) ((frL (330 + d) (by omega) (by omega)).2.trans (fA _ (by omega) (by omega) (by omega))) (kS.keep (frL (330 + d) (by omega) (by omega)).1 (frL (340 + d) (by omega) (by omega)) ?_) (fun k q1 q2 q3 q4 q5 q6 q7 q8 => ⟨(frL k q2 q3).1.trans (fC k q4 q5 q6 q7 q8), (frL k q2 q3).2.trans (fA k q4 q5 q8)⟩)).X, fun k hk => ⟨(frL k (by omega) (by omega)).1.trans (fC k (by omega) (by omega) (by omega) (by omega) (by omega)), (frL k (by omega) (by omega)).2.trans (fA k (by omega) (by omega) (by omega))⟩, (frL 0 (by omega) (by omega)).2.trans (fA 0 (by omega) (by omega) (by omega))⟩
  · rw [(frL (400 + sC S0) (by omega) (by omega)).1, (frL (300 + d) (by omega) (by omega)).2, (frL (500 + sC S0) (by omega) (by omega)).2]; exact kC
  · intro k hk9; by_cases z : k = sX S0 d; (rw [z, mi_un_s]; exact (frL (400 + sC S0) (by omega) (by omega)).2); (rw [mi_un_n z]; exact (frL _ (by have := (hd5 k (by omega)).1; omega) (by have := (hd5 k (by omega)).1; omega)).2)
set_option maxHeartbeats 4000000 in
set_option maxRecDepth 100000 in
theorem c_strike_x1 (l : Launch) (D : va_G) (A : Nat → Prop) (hst : l.stackTraces = false) {ad : Nat → Nat} {cf : Nat → Option va_E} {S0 : sT} (hX : RepX D S0 ad cf) (hO : st_ok S0) {x : Int32} (hx : ¬ (0 ≤ x.toInt ∧ x.toInt < sD S0)) : mi_Th l yX4_strike (Cond.code yX4_strike cX4_strike 2 (some Jvm.ClassFile.FieldType.int)) (mi_rq 7 1 6) D A (mi_W D A ad cf) [.ref (ad 0), .int (x)] mi_IO 1 6 := by
  refine mi_startX (cc := cX4_strike) (nL := 2) (ret := (some Jvm.ClassFile.FieldType.int)) rfl (by decide) (Nat.le_of_ble_eq_true rfl) ?_
  intro p e s m below meth c ls S E hW hS hr hk hno hl
  have S : CallFix p m c cX4_strike 2 s _ ((Cond.code yX4_strike cX4_strike 2 (some Jvm.ClassFile.FieldType.int)) :: mi_G) RX4 := S
  have hl : lv_has ls 2 [(0, .ref (ad 0)), (1, .int (x))] := hl
  obtain ⟨⟨o1, o2, o3, o4, o5⟩, oP, oK, oD, oX, oC, oI⟩ := id hO
  obtain ⟨x0, x1, x2, x3, ⟨pm, pq, pn, xp⟩, xs, ⟨co, hrr, grr, xd, xc⟩, x9⟩ := id hX
  have hx0 := x0
  unfold rx_ob at hx0
  refine lv_aload_n S.1 S.2.1 dX4_strike_0 rfl (lv_at hl 0 rfl) ?_
  refine lv_iload_n S.1 S.2.1 dX4_strike_1 rfl (lv_at hl 1 rfl) ?_
  refine mi_cTh (mi_runVX (P := mi_W D A ad cf) (As := [.int (x)]) (rest := []) S E hS hW (ad 0) (c_checkDie_x l D A hst hX hO hx) (hW.recv E hx0 rfl) mw_515 mw_512 mw_514 mw_11 mw_18 ⟨by decide, by decide, by decide +kernel⟩ ⟨rfl, rfl, Nat.le_of_ble_eq_true rfl, Nat.le_of_ble_eq_true rfl⟩ (n := 1) rfl hl.1 rfl (Nat.le_of_ble_eq_true rfl) dX4_strike_2 ⟨(by show _ ≤ (1 : Nat); omega), (by show _ ≤ (6 : Nat); omega)⟩) hS (fun ce q9 H locs hW hS h1 h2 h3 => ?_)
  exact mi_out hno hk hW hS h1 h2 h3 (by show _ ≤ (1 : Nat); omega) (by show _ ≤ (6 : Nat); omega)
set_option maxHeartbeats 4000000 in
set_option maxRecDepth 100000 in
theorem c_strike_x2 (l : Launch) (D : va_G) (A : Nat → Prop) (hst : l.stackTraces = false) {ad : Nat → Nat} {cf : Nat → Option va_E} {S0 : sT} (hX : RepX D S0 ad cf) (hO : st_ok S0) {d : Nat} (hd : d < sD S0) (h60 : sC S0 = 60) : mi_Th l yX4_strike (Cond.code yX4_strike cX4_strike 2 (some Jvm.ClassFile.FieldType.int)) (mi_rq 7 1 6) D A (mi_W D A ad cf) [.ref (ad 0), .int (nI (d))] mi_IS 1 6 := by
  refine mi_startX (cc := cX4_strike) (nL := 2) (ret := (some Jvm.ClassFile.FieldType.int)) rfl (by decide) (Nat.le_of_ble_eq_true rfl) ?_
  intro p e s m below meth c ls S E hW hS hr hk hno hl
  have S : CallFix p m c cX4_strike 2 s _ ((Cond.code yX4_strike cX4_strike 2 (some Jvm.ClassFile.FieldType.int)) :: mi_G) RX4 := S
  have hl : lv_has ls 2 [(0, .ref (ad 0)), (1, .int (nI (d)))] := hl
  obtain ⟨⟨o1, o2, o3, o4, o5⟩, oP, oK, oD, oX, oC, oI⟩ := id hO
  obtain ⟨x0, x1, x2, x3, ⟨pm, pq, pn, xp⟩, xs, ⟨co, hrr, grr, xd, xc⟩, x9⟩ := id hX
  have hx0 := x0
  unfold rx_ob at hx0
  refine lv_aload_n S.1 S.2.1 dX4_strike_0 rfl (lv_at hl 0 rfl) ?_
  refine lv_iload_n S.1 S.2.1 dX4_strike_1 rfl (lv_at hl 1 rfl) ?_
  refine mi_cV (mi_runV (P := mi_W D A ad cf) (As := [.int (nI (d))]) (rest := []) S E hS hW (ad 0) (c_checkDie l D A hX hO (by omega)) (hW.recv E hx0 rfl) mw_515 mw_512 mw_514 mw_11 mw_18 ⟨by decide, by decide, by decide +kernel⟩ ⟨rfl, rfl, Nat.le_of_ble_eq_true rfl, Nat.le_of_ble_eq_true rfl⟩ (n := 1) rfl hl.1 rfl (Nat.le_of_ble_eq_true rfl) dX4_strike_2 ⟨Nat.le_of_ble_eq_true rfl, Nat.le_of_ble_eq_true rfl⟩) ?_
  refine lv_aload_n S.1 S.2.1 dX4_strike_5 rfl (lv_at hl 0 rfl) ?_
  refine mi_cTh (mi_runVX (P := mi_W D A ad cf) (As := []) (rest := []) S E hS hW (ad 0) (c_checkRoomForCoin_x l D A hst hX hO h60) (hW.recv E hx0 rfl) mw_520 mw_517 mw_519 mw_12 mw_18 ⟨by decide, by decide, by decide +kernel⟩ ⟨rfl, rfl, Nat.le_of_ble_eq_true rfl, Nat.le_of_ble_eq_true rfl⟩ (n := 0) rfl hl.1 rfl (Nat.le_of_ble_eq_true rfl) dX4_strike_6 ⟨(by show _ ≤ (1 : Nat); omega), (by show _ ≤ (6 : Nat); omega)⟩) hS (fun ce q9 H locs hW hS h1 h2 h3 => ?_)
  exact mi_out hno hk hW hS h1 h2 h3 (by show _ ≤ (1 : Nat); omega) (by show _ ≤ (6 : Nat); omega)
