/-! forge; the constructors -/
set_option maxHeartbeats 4000000 in
set_option maxRecDepth 100000 in
theorem c_forge (l : Launch) (D : va_G) (A : Nat → Prop) {ad : Nat → Nat} {cf : Nat → Option va_E} {S0 : sT} (hX : RepX D S0 ad cf) (hO : st_ok S0) (hAu : ∀ a b, A a → a ≤ b → A b) {a d : Nat} (ha : a < sC S0) (hd : d < sD S0) {u : Nat} (hu1 : 1 ≤ u) (hu : u ≤ sX S0 d) (h60 : sC S0 < 60) : mi_Mi l yX4_forge (Cond.code yX4_forge cX4_forge 6 (some Jvm.ClassFile.FieldType.int)) (mi_rq 8 2 1003) D A (mi_W D A ad cf) [.ref (ad 0), .int (nI (a)), .int (nI (d)), .int (nI (u))] 2 1003 (fun r H => r = nI (sC S0) ∧ rx_P D A (st_forge S0 a d u) ad cf H) := by
  refine mi_start (cc := cX4_forge) (nL := 6) (ret := (some Jvm.ClassFile.FieldType.int)) rfl (by decide) (Nat.le_of_ble_eq_true rfl) ?_
  intro p e s m below meth c ls S E hW hS hr hk hn hl
  have S : CallFix p m c cX4_forge 6 s _ ((Cond.code yX4_forge cX4_forge 6 (some Jvm.ClassFile.FieldType.int)) :: mi_G) RX4 := S
  have hl : lv_has ls 6 [(0, .ref (ad 0)), (1, .int (nI (a))), (2, .int (nI (d))), (3, .int (nI (u)))] := hl
  obtain ⟨⟨o1, o2, o3, o4, o5⟩, oP, oK, oD, oX, oC, oI⟩ := id hO
  obtain ⟨x0, x1, x2, x3, ⟨pm, pq, pn, xp⟩, xs, -, x9⟩ := id hX
  have hx0 := x0
  unfold rx_ob at hx0
  obtain ⟨co, hrr, grr, hC⟩ := hX.C
  obtain ⟨y0, y1, y2, y3, ⟨ym, yq, yn, yp⟩, ys, yd, yc, y9⟩ := id hC
  obtain ⟨mw2, cap2, f2, hc2, hn2, hr2, hq2, hf2⟩ := x2.row (by omega)
  obtain ⟨mw3, cap3, f3, hc3, hn3, hr3, hq3, hf3⟩ := x3.row (by omega)
  obtain ⟨⟨hd1, hd2, hd3, hd4⟩, hd5⟩ := yd d hd
  have oXd := oX d hd
  obtain ⟨mwS, capS, fS, hcS, hnS, hrS, hqS, hfS⟩ := hd4.row (by omega)
  have hA : ∀ q, s.heap.size ≤ q → A q := hW.up hAu hx0
  refine lv_aload_n S.1 S.2.1 dX4_forge_0 rfl (lv_at hl 0 rfl) ?_
  refine lv_iload_n S.1 S.2.1 dX4_forge_1 rfl (lv_at hl 1 rfl) ?_
  refine mi_cV (mi_runV (P := mi_W D A ad cf) (As := [.int (nI (a))]) (rest := []) S E hS hW (ad 0) (c_checkCoin l D A hX hO (by omega)) (hW.recv E hx0 rfl) mw_572 mw_569 mw_571 mw_15 mw_18 ⟨by decide, by decide, by decide +kernel⟩ ⟨rfl, rfl, Nat.le_of_ble_eq_true rfl, Nat.le_of_ble_eq_true rfl⟩ (n := 1) rfl hl.1 rfl (Nat.le_of_ble_eq_true rfl) dX4_forge_2 ⟨Nat.le_of_ble_eq_true rfl, Nat.le_of_ble_eq_true rfl⟩) ?_
  refine lv_aload_n S.1 S.2.1 dX4_forge_5 rfl (lv_at hl 0 rfl) ?_
  refine lv_iload_n S.1 S.2.1 dX4_forge_6 rfl (lv_at hl 2 rfl) ?_
  refine mi_cV (mi_runV (P := mi_W D A ad cf) (As := [.int (nI (d))]) (rest := []) S E hS hW (ad 0) (c_checkDie l D A hX hO (by omega)) (hW.recv E hx0 rfl) mw_515 mw_512 mw_514 mw_11 mw_18 ⟨by decide, by decide, by decide +kernel⟩ ⟨rfl, rfl, Nat.le_of_ble_eq_true rfl, Nat.le_of_ble_eq_true rfl⟩ (n := 1) rfl hl.1 rfl (Nat.le_of_ble_eq_true rfl) dX4_forge_7 ⟨Nat.le_of_ble_eq_true rfl, Nat.le_of_ble_eq_true rfl⟩) ?_
  refine lv_iload_n S.1 S.2.1 dX4_forge_10 rfl (lv_at hl 3 rfl) ?_
  refine lv_iconst (v := nI 1) S.1 S.2.1 dX4_forge_11 (by decide) ?_
  refine mi_icmp_lt (tgt := 21) S (by omega) (by omega) dX4_forge_12 (by decide) (fun c12_0 => by exfalso; omega) (fun c12_0 => ?_)
  refine lv_iload_n S.1 S.2.1 dX4_forge_15 rfl (lv_at hl 3 rfl) ?_
  refine lv_bipush (v := nI 60) S.1 S.2.1 dX4_forge_16 (by decide) ?_
  refine mi_icmp_le (tgt := 31) S (by omega) (by omega) dX4_forge_18 (by decide) (fun c18_1 => ?_) (fun c18_1 => by exfalso; omega)
  refine lv_aload_n S.1 S.2.1 dX4_forge_31 rfl (lv_at hl 0 rfl) ?_
  refine mi_cV (mi_runV (P := mi_W D A ad cf) (As := []) (rest := []) S E hS hW (ad 0) (c_checkRoomForCoin l D A hX hO h60) (hW.recv E hx0 rfl) mw_520 mw_517 mw_519 mw_12 mw_18 ⟨by decide, by decide, by decide +kernel⟩ ⟨rfl, rfl, Nat.le_of_ble_eq_true rfl, Nat.le_of_ble_eq_true rfl⟩ (n := 0) rfl hl.1 rfl (Nat.le_of_ble_eq_true rfl) dX4_forge_32 ⟨Nat.le_of_ble_eq_true rfl, Nat.le_of_ble_eq_true rfl⟩) ?_
  refine lv_aload_n S.1 S.2.1 dX4_forge_35 rfl (lv_at hl 0 rfl) ?_
  refine fg_X4_16 S E hW 0 rfl hx0 rfl dX4_forge_36 ?_
  refine lv_iload_n S.1 S.2.1 dX4_forge_39 rfl (lv_at hl 2 rfl) ?_
  refine mi_cQ (mi_runV (P := mi_W D A ad cf) (As := [.int (nI (d))]) (rest := []) S E hS hW (ad 2) (c_AL_get l D A hr2 hq2 hc2 (i := d) (by omega) hn2) (hW.recv E hr2 rfl) mw_392 mw_389 mw_390 mw_391 mw_21 ⟨by decide, by decide, by decide +kernel⟩ ⟨rfl, rfl, Nat.le_of_ble_eq_true rfl, Nat.le_of_ble_eq_true rfl⟩ (n := 1) rfl hl.1 rfl (Nat.le_of_ble_eq_true rfl) dX4_forge_40 ⟨Nat.le_of_ble_eq_true rfl, Nat.le_of_ble_eq_true rfl⟩) (fun r9 e9 => ?_)
  subst e9
  refine mi_top (v' := .ref (ad (300 + d))) (congrArg va_rf (hf2 d (by omega))) ?_
  refine mi_castX S E hW ((300 + d)) rfl hd1 rfl (List.mem_cons_of_mem _ mw_470) dX4_forge_43 ?_
  refine lv_astore (lv' := [(4, .ref (ad (300 + d))), (0, .ref (ad 0)), (1, .int (nI (a))), (2, .int (nI (d))), (3, .int (nI (u)))]) S.1 S.2.1 dX4_forge_46 hl (by decide) rfl (fun ls hl => ?_)
  refine lv_iload_n S.1 S.2.1 dX4_forge_48 rfl (lv_at hl 4 rfl) ?_
  refine lv_aload S.1 S.2.1 dX4_forge_49 (lv_at hl 0 rfl) ?_
  refine fg_X4_164 S E hW ((300 + d)) rfl hd1 rfl dX4_forge_51 ?_
  refine mi_cR (mi_runV (P := mi_W D A ad cf) (As := []) (rest := [.int (nI (u))]) S E hS hW (ad (330 + d)) (c_AL_size l D A hrS) (hW.recv E hrS rfl) mw_307 mw_304 mw_305 mw_306 mw_21 ⟨by decide, by decide, by decide +kernel⟩ ⟨rfl, rfl, Nat.le_of_ble_eq_true rfl, Nat.le_of_ble_eq_true rfl⟩ (n := 0) rfl hl.1 rfl (Nat.le_of_ble_eq_true rfl) dX4_forge_54 ⟨(by show _ ≤ (2 : Nat); omega), (by show _ ≤ (1003 : Nat); omega)⟩) (fun r9 e9 => ?_)
  subst e9
  refine mi_icmp_le (tgt := 70) S (by omega) (by omega) dX4_forge_57 (by decide) (fun c57_2 => ?_) (fun c57_2 => by exfalso; omega)
  refine lv_aload S.1 S.2.1 dX4_forge_70 (lv_at hl 0 rfl) ?_
  refine fg_X4_164 S E hW ((300 + d)) rfl hd1 rfl dX4_forge_72 ?_
  refine lv_iload_n S.1 S.2.1 dX4_forge_75 rfl (lv_at hl 4 rfl) ?_
  refine lv_iconst (v := nI 1) S.1 S.2.1 dX4_forge_76 (by decide) ?_
  refine mi_isub S (by omega) dX4_forge_77 ?_
  refine mi_cQ (mi_runV (P := mi_W D A ad cf) (As := [.int (nI (u - 1))]) (rest := []) S E hS hW (ad (330 + d)) (c_AL_get l D A hrS hqS hcS (i := u - 1) (by omega) hnS) (hW.recv E hrS rfl) mw_392 mw_389 mw_390 mw_391 mw_21 ⟨by decide, by decide, by decide +kernel⟩ ⟨rfl, rfl, Nat.le_of_ble_eq_true rfl, Nat.le_of_ble_eq_true rfl⟩ (n := 1) rfl hl.1 rfl (Nat.le_of_ble_eq_true rfl) dX4_forge_78 ⟨(by show _ ≤ (2 : Nat); omega), (by show _ ≤ (1003 : Nat); omega)⟩) (fun r9 e9 => ?_)
  subst e9
  refine mi_top (v' := .ref (ad (400 + co d (u - 1)))) (congrArg va_rf (hfS (u - 1) (by omega))) ?_
  obtain ⟨hg1, hg2, hg3, hg4, -⟩ := yc (co d (u - 1)) (hd5 (u - 1) (by omega)).1
  refine mi_castX S E hW ((400 + co d (u - 1))) rfl hg1 rfl (List.mem_cons_of_mem _ mw_576) dX4_forge_81 ?_
  refine fg_X4_171 S E hW ((400 + co d (u - 1))) rfl hg1 rfl dX4_forge_84 ?_
  refine lv_astore (lv' := [(5, .ref (ad (500 + hrr (co d (u - 1))))), (4, .ref (ad (300 + d))), (0, .ref (ad 0)), (1, .int (nI (a))), (2, .int (nI (d))), (3, .int (nI (u)))]) S.1 S.2.1 dX4_forge_87 hl (by decide) rfl (fun ls hl => ?_)
  refine lv_aload_n S.1 S.2.1 dX4_forge_89 rfl (lv_at hl 2 rfl) ?_
  obtain ⟨a4, hn4⟩ : ∃ z, z = s.heap.size := ⟨_, rfl⟩
  refine mi_new (ci := 1) (fs := [.null, .null, .null]) S E hS hA hW (400 + sC S0) rfl (mg_X0 _) tyX0 tyX0_ok (fun j hj => by rcases (show j = 0 ∨ j = 1 ∨ j = 2 by omega) with rfl | rfl | rfl <;> rfl) (List.mem_cons_of_mem _ mw_576) (List.mem_cons_of_mem _ mw_527) (List.mem_cons_of_mem _ mw_37) (by show _ ≤ (2 : Nat); omega) (by show _ ≤ (1003 : Nat); omega) dX4_forge_90 (fun H9 hW hS hz => ?_)
  rw [← hn4] at hW hz ⊢
  obtain ⟨H, rfl⟩ : ∃ z, z = H9 := ⟨_, rfl⟩
  obtain ⟨ad4, had4⟩ : ∃ z, z = va_up ad ((400 + sC S0)) a4 := ⟨_, rfl⟩
  obtain ⟨cf4, hcf4⟩ : ∃ z, z = va_up cf ((400 + sC S0)) (some (.inr (1, [.null, .null, .null]))) := ⟨_, rfl⟩
  have hW : mi_W D A ad4 cf4 H := by rw [had4, hcf4]; exact hW
  have he4_0 : cf4 0 = some (.inr (5, [.ref (ad 1), .ref (ad 2), .ref (ad 3), .ref (ad 4), .ref (ad (100 + 2 * sW S0))])) := by rw [hcf4]; exact (mi_up_n (by omega)).trans hx0
  have ha4_0 : ad4 0 = ad 0 := by rw [had4]; exact (mi_up_n (by omega)).trans rfl
  have he4_r : cf4 ((400 + sC S0)) = some (.inr (1, [.null, .null, .null])) := by rw [hcf4]; exact mi_up_s
  have ha4_r : ad4 ((400 + sC S0)) = a4 := by rw [had4]; exact mi_up_s
  refine lv_dup S.1 S.2.1 dX4_forge_93 rfl ?_
  refine lv_aload S.1 S.2.1 dX4_forge_94 (lv_at hl 1 rfl) ?_
  refine lv_aload_n S.1 S.2.1 dX4_forge_96 rfl (lv_at hl 2 rfl) ?_
  refine fg_X4_19 S E hW 0 ha4_0 he4_0 rfl dX4_forge_97 ?_
  refine lv_iload_n S.1 S.2.1 dX4_forge_100 rfl (lv_at hl 3 rfl) ?_
  have eC : ∀ k, k ≠ (400 + sC S0) → cf4 k = cf k := fun k _ => by rw [hcf4, mi_up_n (by omega)]
  have eA : ∀ k, k ≠ (400 + sC S0) → ad4 k = ad k := fun k _ => by rw [had4, mi_up_n (by omega)]
  refine mi_two (v' := .int (nI a)) (u' := .ref (ad4 3)) rfl (congrArg Value.ref (Eq.symm (eA 3 (by omega)))) ?_
  have hr8 : cf4 3 = some (.inr (0, [.int mw3, .ref (ad4 13), .int (nI (sC S0))])) := by rw [eC 3 (by omega), eA 13 (by omega)]; exact hr3
  have hq8 : cf4 13 = some (mi_aq D cap3 f3) := (eC 13 (by omega)).trans hq3
  refine mi_cQ (mi_runV (P := mi_W D A ad4 cf4) (As := [.int (nI (a))]) (rest := [.ref (ad (300 + d)), .ref (a4), .ref (a4), .ref (ad 0)]) S E hS hW (ad4 3) (c_AL_get l D A hr8 hq8 hc3 (i := a) (by omega) hn3) (hW.recv E hr8 rfl) mw_392 mw_389 mw_390 mw_391 mw_21 ⟨by decide, by decide, by decide +kernel⟩ ⟨rfl, rfl, Nat.le_of_ble_eq_true rfl, Nat.le_of_ble_eq_true rfl⟩ (n := 1) rfl hl.1 rfl (Nat.le_of_ble_eq_true rfl) dX4_forge_101 ⟨(by show _ ≤ (2 : Nat); omega), (by show _ ≤ (1003 : Nat); omega)⟩) (fun r9 e9 => ?_)
  subst e9
  refine mi_top (v' := .ref (ad (400 + a))) (congrArg va_rf (hf3 a (by omega))) ?_
  obtain ⟨hk1, hk2, hk3, hk4, -⟩ := yc a ha
  have hc8 := (eC (400 + a) (by omega)).trans hk1
  have ha8 := eA (400 + a) (by omega)
  refine mi_castX S E hW ((400 + a)) ha8 hc8 rfl (List.mem_cons_of_mem _ mw_576) dX4_forge_104 ?_
  refine fg_X4_171 S E hW ((400 + a)) ha8 hc8 rfl dX4_forge_107 ?_
  refine lv_aload S.1 S.2.1 dX4_forge_110 (lv_at hl 0 rfl) ?_
  refine mi_cMv (mi_runI (P := mi_W D A ad4 cf4) (As := [.ref (ad (300 + d)), .ref (ad (500 + hrr a)), .ref (ad (500 + hrr (co d (u - 1))))]) (rest := [.ref (a4), .ref (ad 0)]) S E hS hW a4 (c_Coin_init l D A ha4_r he4_r) mw_530 mw_577 mw_529 mw_37 rfl ⟨by decide, by decide, by decide +kernel⟩ ⟨rfl, rfl, Nat.le_of_ble_eq_true rfl, Nat.le_of_ble_eq_true rfl⟩ (n := 3) rfl hl.1 rfl (Nat.le_of_ble_eq_true rfl) dX4_forge_112 ⟨(by show _ ≤ (2 : Nat); omega), (by show _ ≤ (1003 : Nat); omega)⟩) hS (fun H locs hW hS hz => ?_)
  obtain ⟨cf5, hcf5⟩ : ∃ z, z = va_up cf4 ((400 + sC S0)) (some (.inr (1, [.ref (ad (300 + d)), .ref (ad (500 + hrr a)), .ref (ad (500 + hrr (co d (u - 1))))]))) := ⟨_, rfl⟩
  have hW : mi_W D A ad4 cf5 H := by rw [hcf5]; exact hW
  have he5_r : cf5 ((400 + sC S0)) = some (.inr (1, [.ref (ad (300 + d)), .ref (ad (500 + hrr a)), .ref (ad (500 + hrr (co d (u - 1))))])) := by rw [hcf5]; exact mi_up_s
  have eC : ∀ k, k ≠ (400 + sC S0) → cf5 k = cf k := fun k _ => by rw [hcf5, mi_up_n (by omega), hcf4, mi_up_n (by omega)]
  have eA : ∀ k, k ≠ (400 + sC S0) → ad4 k = ad k := fun k _ => by rw [had4, mi_up_n (by omega)]
  obtain ⟨ad1, e1⟩ : ∃ z, z = ad4 := ⟨_, rfl⟩
  obtain ⟨cf1, e2⟩ : ∃ z, z = cf5 := ⟨_, rfl⟩
  rw [← e1, ← e2] at hW
  rw [← e2] at eC
  rw [← e1] at eA
  have kC : cf1 (400 + sC S0) = some (.inr (1, [.ref (ad1 (300 + d)), .ref (ad1 (500 + hrr a)), .ref (ad1 (500 + hrr (co d (u - 1))))])) := by rw [eA (300 + d) (by omega), eA _ (by omega), eA _ (by omega), e2]; exact he5_r
  have aC : ad1 (400 + sC S0) = a4 := by rw [e1]; exact ha4_r
  refine mi_cMi (mi_runV (P := mi_W D A ad1 cf1) (As := [.ref (a4)]) (rest := []) S E hS hW (ad 0) (c_keepCoin l D A (n := sC S0) hAu (eA 0 (by omega)) aC (show cf1 0 = some (.inr (5, [.ref (ad 1), .ref (ad 2), .ref (ad1 3), .ref (ad 4), .ref (ad (100 + 2 * sW S0))])) from by rw [eC 0 (by omega), eA 3 (by omega)]; exact hx0) (y3.keep (eC _ (by omega)) ⟨eC _ (by omega), eA _ (by omega)⟩ (fun i hi => eA _ (by omega))) h60 kC ((eC 999 (by omega)).trans y9) (fun i hi => ⟨_, (eC _ (by omega)).trans (yc i hi).1⟩)) (hW.recvA E (eA 0 (by omega)) (show cf1 0 = some (.inr (5, [.ref (ad 1), .ref (ad 2), .ref (ad1 3), .ref (ad 4), .ref (ad (100 + 2 * sW S0))])) from by rw [eC 0 (by omega), eA 3 (by omega)]; exact hx0) rfl) mw_554 mw_551 mw_553 mw_14 mw_18 ⟨by decide, by decide, by decide +kernel⟩ ⟨rfl, rfl, Nat.le_of_ble_eq_true rfl, Nat.le_of_ble_eq_true rfl⟩ (n := 1) rfl hl.1 rfl (Nat.le_of_ble_eq_true rfl) dX4_forge_115 ⟨(by show _ ≤ (2 : Nat); omega), (by show _ ≤ (1003 : Nat); omega)⟩) hS (fun r9 H locs hp9 hS hz => ?_)
  obtain ⟨e9, ad2, cf2, hW, kL, frL, aL⟩ := hp9
  subst e9
  refine mi_retMi S hr hk hS dX4_forge_118 (by show _ ≤ (2 : Nat); omega) (by show _ ≤ (1003 : Nat); omega) ⟨rfl, ad2, cf2, hW, (RepC.forge hO h60 ha hd hu1 hu hC kL (aL.trans (eA 3 (by omega))) ?_ (fun k q1 q2 q3 q4 => ⟨(frL k q2 q3).1.trans (eC k q4), (frL k q2 q3).2.trans (eA k q4)⟩)).X, fun k hk => ⟨(frL k (by omega) (by omega)).1.trans (eC k (by omega)), (frL k (by omega) (by omega)).2.trans (eA k (by omega))⟩, (frL 0 (by omega) (by omega)).2.trans (eA 0 (by omega))⟩
  · rw [(frL (400 + sC S0) (by omega) (by omega)).1, (frL (300 + d) (by omega) (by omega)).2, (frL (500 + hrr a) (by omega) (by omega)).2, (frL (500 + hrr (co d (u - 1))) (by omega) (by omega)).2]; exact kC
set_option maxHeartbeats 4000000 in
set_option maxRecDepth 100000 in
theorem c_forge_x1 (l : Launch) (D : va_G) (A : Nat → Prop) (hst : l.stackTraces = false) {ad : Nat → Nat} {cf : Nat → Option va_E} {S0 : sT} (hX : RepX D S0 ad cf) (hO : st_ok S0) {x : Int32} (hx : ¬ (0 ≤ x.toInt ∧ x.toInt < sC S0)) {y z : Int32} : mi_Th l yX4_forge (Cond.code yX4_forge cX4_forge 6 (some Jvm.ClassFile.FieldType.int)) (mi_rq 7 1 6) D A (mi_W D A ad cf) [.ref (ad 0), .int (x), .int (y), .int (z)] mi_IO 1 6 := by
  refine mi_startX (cc := cX4_forge) (nL := 6) (ret := (some Jvm.ClassFile.FieldType.int)) rfl (by decide) (Nat.le_of_ble_eq_true rfl) ?_
  intro p e s m below meth c ls S E hW hS hr hk hno hl
  have S : CallFix p m c cX4_forge 6 s _ ((Cond.code yX4_forge cX4_forge 6 (some Jvm.ClassFile.FieldType.int)) :: mi_G) RX4 := S
  have hl : lv_has ls 6 [(0, .ref (ad 0)), (1, .int (x)), (2, .int (y)), (3, .int (z))] := hl
  obtain ⟨⟨o1, o2, o3, o4, o5⟩, oP, oK, oD, oX, oC, oI⟩ := id hO
  obtain ⟨x0, x1, x2, x3, ⟨pm, pq, pn, xp⟩, xs, ⟨co, hrr, grr, xd, xc⟩, x9⟩ := id hX
  have hx0 := x0
  unfold rx_ob at hx0
  refine lv_aload_n S.1 S.2.1 dX4_forge_0 rfl (lv_at hl 0 rfl) ?_
  refine lv_iload_n S.1 S.2.1 dX4_forge_1 rfl (lv_at hl 1 rfl) ?_
  refine mi_cTh (mi_runVX (P := mi_W D A ad cf) (As := [.int (x)]) (rest := []) S E hS hW (ad 0) (c_checkCoin_x l D A hst hX hO hx) (hW.recv E hx0 rfl) mw_572 mw_569 mw_571 mw_15 mw_18 ⟨by decide, by decide, by decide +kernel⟩ ⟨rfl, rfl, Nat.le_of_ble_eq_true rfl, Nat.le_of_ble_eq_true rfl⟩ (n := 1) rfl hl.1 rfl (Nat.le_of_ble_eq_true rfl) dX4_forge_2 ⟨(by show _ ≤ (1 : Nat); omega), (by show _ ≤ (6 : Nat); omega)⟩) hS (fun ce q9 H locs hW hS h1 h2 h3 => ?_)
  exact mi_out hno hk hW hS h1 h2 h3 (by show _ ≤ (1 : Nat); omega) (by show _ ≤ (6 : Nat); omega)
set_option maxHeartbeats 4000000 in
set_option maxRecDepth 100000 in
theorem c_forge_x2 (l : Launch) (D : va_G) (A : Nat → Prop) (hst : l.stackTraces = false) {ad : Nat → Nat} {cf : Nat → Option va_E} {S0 : sT} (hX : RepX D S0 ad cf) (hO : st_ok S0) {a : Nat} (ha : a < sC S0) {x : Int32} (hx : ¬ (0 ≤ x.toInt ∧ x.toInt < sD S0)) {z : Int32} : mi_Th l yX4_forge (Cond.code yX4_forge cX4_forge 6 (some Jvm.ClassFile.FieldType.int)) (mi_rq 7 1 6) D A (mi_W D A ad cf) [.ref (ad 0), .int (nI (a)), .int (x), .int (z)] mi_IO 1 6 := by
  refine mi_startX (cc := cX4_forge) (nL := 6) (ret := (some Jvm.ClassFile.FieldType.int)) rfl (by decide) (Nat.le_of_ble_eq_true rfl) ?_
  intro p e s m below meth c ls S E hW hS hr hk hno hl
  have S : CallFix p m c cX4_forge 6 s _ ((Cond.code yX4_forge cX4_forge 6 (some Jvm.ClassFile.FieldType.int)) :: mi_G) RX4 := S
  have hl : lv_has ls 6 [(0, .ref (ad 0)), (1, .int (nI (a))), (2, .int (x)), (3, .int (z))] := hl
  obtain ⟨⟨o1, o2, o3, o4, o5⟩, oP, oK, oD, oX, oC, oI⟩ := id hO
  obtain ⟨x0, x1, x2, x3, ⟨pm, pq, pn, xp⟩, xs, ⟨co, hrr, grr, xd, xc⟩, x9⟩ := id hX
  have hx0 := x0
  unfold rx_ob at hx0
  refine lv_aload_n S.1 S.2.1 dX4_forge_0 rfl (lv_at hl 0 rfl) ?_
  refine lv_iload_n S.1 S.2.1 dX4_forge_1 rfl (lv_at hl 1 rfl) ?_
  refine mi_cV (mi_runV (P := mi_W D A ad cf) (As := [.int (nI (a))]) (rest := []) S E hS hW (ad 0) (c_checkCoin l D A hX hO (by omega)) (hW.recv E hx0 rfl) mw_572 mw_569 mw_571 mw_15 mw_18 ⟨by decide, by decide, by decide +kernel⟩ ⟨rfl, rfl, Nat.le_of_ble_eq_true rfl, Nat.le_of_ble_eq_true rfl⟩ (n := 1) rfl hl.1 rfl (Nat.le_of_ble_eq_true rfl) dX4_forge_2 ⟨Nat.le_of_ble_eq_true rfl, Nat.le_of_ble_eq_true rfl⟩) ?_
  refine lv_aload_n S.1 S.2.1 dX4_forge_5 rfl (lv_at hl 0 rfl) ?_
  refine lv_iload_n S.1 S.2.1 dX4_forge_6 rfl (lv_at hl 2 rfl) ?_
  refine mi_cTh (mi_runVX (P := mi_W D A ad cf) (As := [.int (x)]) (rest := []) S E hS hW (ad 0) (c_checkDie_x l D A hst hX hO hx) (hW.recv E hx0 rfl) mw_515 mw_512 mw_514 mw_11 mw_18 ⟨by decide, by decide, by decide +kernel⟩ ⟨rfl, rfl, Nat.le_of_ble_eq_true rfl, Nat.le_of_ble_eq_true rfl⟩ (n := 1) rfl hl.1 rfl (Nat.le_of_ble_eq_true rfl) dX4_forge_7 ⟨(by show _ ≤ (1 : Nat); omega), (by show _ ≤ (6 : Nat); omega)⟩) hS (fun ce q9 H locs hW hS h1 h2 h3 => ?_)
  exact mi_out hno hk hW hS h1 h2 h3 (by show _ ≤ (1 : Nat); omega) (by show _ ≤ (6 : Nat); omega)
set_option maxHeartbeats 4000000 in
set_option maxRecDepth 100000 in
theorem c_forge_x3 (l : Launch) (D : va_G) (A : Nat → Prop) (hst : l.stackTraces = false) {ad : Nat → Nat} {cf : Nat → Option va_E} {S0 : sT} (hX : RepX D S0 ad cf) (hO : st_ok S0) {a d : Nat} (ha : a < sC S0) (hd : d < sD S0) {x : Int32} (hx : ¬ (1 ≤ x.toInt ∧ x.toInt ≤ 60)) : mi_Th l yX4_forge (Cond.code yX4_forge cX4_forge 6 (some Jvm.ClassFile.FieldType.int)) (mi_rq 7 1 6) D A (mi_W D A ad cf) [.ref (ad 0), .int (nI (a)), .int (nI (d)), .int (x)] mi_IA 1 6 := by
  refine mi_startX (cc := cX4_forge) (nL := 6) (ret := (some Jvm.ClassFile.FieldType.int)) rfl (by decide) (Nat.le_of_ble_eq_true rfl) ?_
  intro p e s m below meth c ls S E hW hS hr hk hno hl
  have S : CallFix p m c cX4_forge 6 s _ ((Cond.code yX4_forge cX4_forge 6 (some Jvm.ClassFile.FieldType.int)) :: mi_G) RX4 := S
  have hl : lv_has ls 6 [(0, .ref (ad 0)), (1, .int (nI (a))), (2, .int (nI (d))), (3, .int (x))] := hl
  obtain ⟨⟨o1, o2, o3, o4, o5⟩, oP, oK, oD, oX, oC, oI⟩ := id hO
  obtain ⟨x0, x1, x2, x3, ⟨pm, pq, pn, xp⟩, xs, ⟨co, hrr, grr, xd, xc⟩, x9⟩ := id hX
  have hx0 := x0
  unfold rx_ob at hx0
  refine lv_aload_n S.1 S.2.1 dX4_forge_0 rfl (lv_at hl 0 rfl) ?_
  refine lv_iload_n S.1 S.2.1 dX4_forge_1 rfl (lv_at hl 1 rfl) ?_
  refine mi_cV (mi_runV (P := mi_W D A ad cf) (As := [.int (nI (a))]) (rest := []) S E hS hW (ad 0) (c_checkCoin l D A hX hO (by omega)) (hW.recv E hx0 rfl) mw_572 mw_569 mw_571 mw_15 mw_18 ⟨by decide, by decide, by decide +kernel⟩ ⟨rfl, rfl, Nat.le_of_ble_eq_true rfl, Nat.le_of_ble_eq_true rfl⟩ (n := 1) rfl hl.1 rfl (Nat.le_of_ble_eq_true rfl) dX4_forge_2 ⟨Nat.le_of_ble_eq_true rfl, Nat.le_of_ble_eq_true rfl⟩) ?_
  refine lv_aload_n S.1 S.2.1 dX4_forge_5 rfl (lv_at hl 0 rfl) ?_
  refine lv_iload_n S.1 S.2.1 dX4_forge_6 rfl (lv_at hl 2 rfl) ?_
  refine mi_cV (mi_runV (P := mi_W D A ad cf) (As := [.int (nI (d))]) (rest := []) S E hS hW (ad 0) (c_checkDie l D A hX hO (by omega)) (hW.recv E hx0 rfl) mw_515 mw_512 mw_514 mw_11 mw_18 ⟨by decide, by decide, by decide +kernel⟩ ⟨rfl, rfl, Nat.le_of_ble_eq_true rfl, Nat.le_of_ble_eq_true rfl⟩ (n := 1) rfl hl.1 rfl (Nat.le_of_ble_eq_true rfl) dX4_forge_7 ⟨Nat.le_of_ble_eq_true rfl, Nat.le_of_ble_eq_true rfl⟩) ?_
  refine lv_iload_n S.1 S.2.1 dX4_forge_10 rfl (lv_at hl 3 rfl) ?_
  refine lv_iconst (v := nI 1) S.1 S.2.1 dX4_forge_11 (by decide) ?_
  refine mi_xcmp_lt (tgt := 21) S (rfl) (nI_toInt (n := 1) (by omega)) dX4_forge_12 (by decide) (fun c12_0 => ?_) (fun c12_0 => ?_)
  · exact mi_throw (cls := mi_IA) (text := "number is out of range") (ik := 159) (is := 161) (ic := 163) S E hst hS hW (by decide) mw_284 mw_34 (by decide) mt_g_IA mt_b_IA (by decide) mt_o_IA hl.1 dX4_forge_21 dX4_forge_24 dX4_forge_25 dX4_forge_27 dX4_forge_30 hno (Nat.le_of_ble_eq_true rfl) (Nat.le_of_ble_eq_true rfl) (by show _ ≤ (1 : Nat); omega) (by show _ ≤ (6 : Nat); omega) hk (by show _ ≤ (1 : Nat); omega) (by show _ ≤ (6 : Nat); omega)
  · refine lv_iload_n S.1 S.2.1 dX4_forge_15 rfl (lv_at hl 3 rfl) ?_
    refine lv_bipush (v := nI 60) S.1 S.2.1 dX4_forge_16 (by decide) ?_
    refine mi_xcmp_le (tgt := 31) S (rfl) (nI_toInt (n := 60) (by omega)) dX4_forge_18 (by decide) (fun c18_1 => by exfalso; omega) (fun c18_1 => ?_)
    exact mi_throw (cls := mi_IA) (text := "number is out of range") (ik := 159) (is := 161) (ic := 163) S E hst hS hW (by decide) mw_284 mw_34 (by decide) mt_g_IA mt_b_IA (by decide) mt_o_IA hl.1 dX4_forge_21 dX4_forge_24 dX4_forge_25 dX4_forge_27 dX4_forge_30 hno (Nat.le_of_ble_eq_true rfl) (Nat.le_of_ble_eq_true rfl) (by show _ ≤ (1 : Nat); omega) (by show _ ≤ (6 : Nat); omega) hk (by show _ ≤ (1 : Nat); omega) (by show _ ≤ (6 : Nat); omega)
set_option maxHeartbeats 4000000 in
set_option maxRecDepth 100000 in
theorem c_forge_x4 (l : Launch) (D : va_G) (A : Nat → Prop) (hst : l.stackTraces = false) {ad : Nat → Nat} {cf : Nat → Option va_E} {S0 : sT} (hX : RepX D S0 ad cf) (hO : st_ok S0) {a d : Nat} (ha : a < sC S0) (hd : d < sD S0) {u : Nat} (hu1 : 1 ≤ u) (hu : u ≤ 60) (h60 : sC S0 = 60) : mi_Th l yX4_forge (Cond.code yX4_forge cX4_forge 6 (some Jvm.ClassFile.FieldType.int)) (mi_rq 7 1 6) D A (mi_W D A ad cf) [.ref (ad 0), .int (nI (a)), .int (nI (d)), .int (nI (u))] mi_IS 1 6 := by
  refine mi_startX (cc := cX4_forge) (nL := 6) (ret := (some Jvm.ClassFile.FieldType.int)) rfl (by decide) (Nat.le_of_ble_eq_true rfl) ?_
  intro p e s m below meth c ls S E hW hS hr hk hno hl
  have S : CallFix p m c cX4_forge 6 s _ ((Cond.code yX4_forge cX4_forge 6 (some Jvm.ClassFile.FieldType.int)) :: mi_G) RX4 := S
  have hl : lv_has ls 6 [(0, .ref (ad 0)), (1, .int (nI (a))), (2, .int (nI (d))), (3, .int (nI (u)))] := hl
  obtain ⟨⟨o1, o2, o3, o4, o5⟩, oP, oK, oD, oX, oC, oI⟩ := id hO
  obtain ⟨x0, x1, x2, x3, ⟨pm, pq, pn, xp⟩, xs, ⟨co, hrr, grr, xd, xc⟩, x9⟩ := id hX
  have hx0 := x0
  unfold rx_ob at hx0
  refine lv_aload_n S.1 S.2.1 dX4_forge_0 rfl (lv_at hl 0 rfl) ?_
  refine lv_iload_n S.1 S.2.1 dX4_forge_1 rfl (lv_at hl 1 rfl) ?_
  refine mi_cV (mi_runV (P := mi_W D A ad cf) (As := [.int (nI (a))]) (rest := []) S E hS hW (ad 0) (c_checkCoin l D A hX hO (by omega)) (hW.recv E hx0 rfl) mw_572 mw_569 mw_571 mw_15 mw_18 ⟨by decide, by decide, by decide +kernel⟩ ⟨rfl, rfl, Nat.le_of_ble_eq_true rfl, Nat.le_of_ble_eq_true rfl⟩ (n := 1) rfl hl.1 rfl (Nat.le_of_ble_eq_true rfl) dX4_forge_2 ⟨Nat.le_of_ble_eq_true rfl, Nat.le_of_ble_eq_true rfl⟩) ?_
  refine lv_aload_n S.1 S.2.1 dX4_forge_5 rfl (lv_at hl 0 rfl) ?_
  refine lv_iload_n S.1 S.2.1 dX4_forge_6 rfl (lv_at hl 2 rfl) ?_
  refine mi_cV (mi_runV (P := mi_W D A ad cf) (As := [.int (nI (d))]) (rest := []) S E hS hW (ad 0) (c_checkDie l D A hX hO (by omega)) (hW.recv E hx0 rfl) mw_515 mw_512 mw_514 mw_11 mw_18 ⟨by decide, by decide, by decide +kernel⟩ ⟨rfl, rfl, Nat.le_of_ble_eq_true rfl, Nat.le_of_ble_eq_true rfl⟩ (n := 1) rfl hl.1 rfl (Nat.le_of_ble_eq_true rfl) dX4_forge_7 ⟨Nat.le_of_ble_eq_true rfl, Nat.le_of_ble_eq_true rfl⟩) ?_
  refine lv_iload_n S.1 S.2.1 dX4_forge_10 rfl (lv_at hl 3 rfl) ?_
  refine lv_iconst (v := nI 1) S.1 S.2.1 dX4_forge_11 (by decide) ?_
  refine mi_icmp_lt (tgt := 21) S (by omega) (by omega) dX4_forge_12 (by decide) (fun c12_0 => by exfalso; omega) (fun c12_0 => ?_)
  refine lv_iload_n S.1 S.2.1 dX4_forge_15 rfl (lv_at hl 3 rfl) ?_
  refine lv_bipush (v := nI 60) S.1 S.2.1 dX4_forge_16 (by decide) ?_
  refine mi_icmp_le (tgt := 31) S (by omega) (by omega) dX4_forge_18 (by decide) (fun c18_1 => ?_) (fun c18_1 => by exfalso; omega)
  refine lv_aload_n S.1 S.2.1 dX4_forge_31 rfl (lv_at hl 0 rfl) ?_
  refine mi_cTh (mi_runVX (P := mi_W D A ad cf) (As := []) (rest := []) S E hS hW (ad 0) (c_checkRoomForCoin_x l D A hst hX hO h60) (hW.recv E hx0 rfl) mw_520 mw_517 mw_519 mw_12 mw_18 ⟨by decide, by decide, by decide +kernel⟩ ⟨rfl, rfl, Nat.le_of_ble_eq_true rfl, Nat.le_of_ble_eq_true rfl⟩ (n := 0) rfl hl.1 rfl (Nat.le_of_ble_eq_true rfl) dX4_forge_32 ⟨(by show _ ≤ (1 : Nat); omega), (by show _ ≤ (6 : Nat); omega)⟩) hS (fun ce q9 H locs hW hS h1 h2 h3 => ?_)
  exact mi_out hno hk hW hS h1 h2 h3 (by show _ ≤ (1 : Nat); omega) (by show _ ≤ (6 : Nat); omega)
set_option maxHeartbeats 4000000 in
set_option maxRecDepth 100000 in
theorem c_forge_x5 (l : Launch) (D : va_G) (A : Nat → Prop) (hst : l.stackTraces = false) {ad : Nat → Nat} {cf : Nat → Option va_E} {S0 : sT} (hX : RepX D S0 ad cf) (hO : st_ok S0) {a d : Nat} (ha : a < sC S0) (hd : d < sD S0) {u : Nat} (hu1 : sX S0 d < u) (hu : u ≤ 60) (h60 : sC S0 < 60) : mi_Th l yX4_forge (Cond.code yX4_forge cX4_forge 6 (some Jvm.ClassFile.FieldType.int)) (mi_rq 7 1 6) D A (mi_W D A ad cf) [.ref (ad 0), .int (nI (a)), .int (nI (d)), .int (nI (u))] mi_IS 1 6 := by
  refine mi_startX (cc := cX4_forge) (nL := 6) (ret := (some Jvm.ClassFile.FieldType.int)) rfl (by decide) (Nat.le_of_ble_eq_true rfl) ?_
  intro p e s m below meth c ls S E hW hS hr hk hno hl
  have S : CallFix p m c cX4_forge 6 s _ ((Cond.code yX4_forge cX4_forge 6 (some Jvm.ClassFile.FieldType.int)) :: mi_G) RX4 := S
  have hl : lv_has ls 6 [(0, .ref (ad 0)), (1, .int (nI (a))), (2, .int (nI (d))), (3, .int (nI (u)))] := hl
  obtain ⟨⟨o1, o2, o3, o4, o5⟩, oP, oK, oD, oX, oC, oI⟩ := id hO
  obtain ⟨x0, x1, x2, x3, ⟨pm, pq, pn, xp⟩, xs, -, x9⟩ := id hX
  have hx0 := x0
  unfold rx_ob at hx0
  obtain ⟨co, hrr, grr, hC⟩ := hX.C
  obtain ⟨y0, y1, y2, y3, ⟨ym, yq, yn, yp⟩, ys, yd, yc, y9⟩ := id hC
  obtain ⟨mw2, cap2, f2, hc2, hn2, hr2, hq2, hf2⟩ := x2.row (by omega)
  obtain ⟨⟨hd1, hd2, hd3, hd4⟩, hd5⟩ := yd d hd
  have oXd := oX d hd
  obtain ⟨mszS, eszS, hszS⟩ := hd4.size
  refine lv_aload_n S.1 S.2.1 dX4_forge_0 rfl (lv_at hl 0 rfl) ?_
  refine lv_iload_n S.1 S.2.1 dX4_forge_1 rfl (lv_at hl 1 rfl) ?_
  refine mi_cV (mi_runV (P := mi_W D A ad cf) (As := [.int (nI (a))]) (rest := []) S E hS hW (ad 0) (c_checkCoin l D A hX hO (by omega)) (hW.recv E hx0 rfl) mw_572 mw_569 mw_571 mw_15 mw_18 ⟨by decide, by decide, by decide +kernel⟩ ⟨rfl, rfl, Nat.le_of_ble_eq_true rfl, Nat.le_of_ble_eq_true rfl⟩ (n := 1) rfl hl.1 rfl (Nat.le_of_ble_eq_true rfl) dX4_forge_2 ⟨Nat.le_of_ble_eq_true rfl, Nat.le_of_ble_eq_true rfl⟩) ?_
  refine lv_aload_n S.1 S.2.1 dX4_forge_5 rfl (lv_at hl 0 rfl) ?_
  refine lv_iload_n S.1 S.2.1 dX4_forge_6 rfl (lv_at hl 2 rfl) ?_
  refine mi_cV (mi_runV (P := mi_W D A ad cf) (As := [.int (nI (d))]) (rest := []) S E hS hW (ad 0) (c_checkDie l D A hX hO (by omega)) (hW.recv E hx0 rfl) mw_515 mw_512 mw_514 mw_11 mw_18 ⟨by decide, by decide, by decide +kernel⟩ ⟨rfl, rfl, Nat.le_of_ble_eq_true rfl, Nat.le_of_ble_eq_true rfl⟩ (n := 1) rfl hl.1 rfl (Nat.le_of_ble_eq_true rfl) dX4_forge_7 ⟨Nat.le_of_ble_eq_true rfl, Nat.le_of_ble_eq_true rfl⟩) ?_
  refine lv_iload_n S.1 S.2.1 dX4_forge_10 rfl (lv_at hl 3 rfl) ?_
  refine lv_iconst (v := nI 1) S.1 S.2.1 dX4_forge_11 (by decide) ?_
  refine mi_icmp_lt (tgt := 21) S (by omega) (by omega) dX4_forge_12 (by decide) (fun c12_0 => by exfalso; omega) (fun c12_0 => ?_)
  refine lv_iload_n S.1 S.2.1 dX4_forge_15 rfl (lv_at hl 3 rfl) ?_
  refine lv_bipush (v := nI 60) S.1 S.2.1 dX4_forge_16 (by decide) ?_
  refine mi_icmp_le (tgt := 31) S (by omega) (by omega) dX4_forge_18 (by decide) (fun c18_1 => ?_) (fun c18_1 => by exfalso; omega)
  refine lv_aload_n S.1 S.2.1 dX4_forge_31 rfl (lv_at hl 0 rfl) ?_
  refine mi_cV (mi_runV (P := mi_W D A ad cf) (As := []) (rest := []) S E hS hW (ad 0) (c_checkRoomForCoin l D A hX hO h60) (hW.recv E hx0 rfl) mw_520 mw_517 mw_519 mw_12 mw_18 ⟨by decide, by decide, by decide +kernel⟩ ⟨rfl, rfl, Nat.le_of_ble_eq_true rfl, Nat.le_of_ble_eq_true rfl⟩ (n := 0) rfl hl.1 rfl (Nat.le_of_ble_eq_true rfl) dX4_forge_32 ⟨Nat.le_of_ble_eq_true rfl, Nat.le_of_ble_eq_true rfl⟩) ?_
  refine lv_aload_n S.1 S.2.1 dX4_forge_35 rfl (lv_at hl 0 rfl) ?_
  refine fg_X4_16 S E hW 0 rfl hx0 rfl dX4_forge_36 ?_
  refine lv_iload_n S.1 S.2.1 dX4_forge_39 rfl (lv_at hl 2 rfl) ?_
  refine mi_cQ (mi_runV (P := mi_W D A ad cf) (As := [.int (nI (d))]) (rest := []) S E hS hW (ad 2) (c_AL_get l D A hr2 hq2 hc2 (i := d) (by omega) hn2) (hW.recv E hr2 rfl) mw_392 mw_389 mw_390 mw_391 mw_21 ⟨by decide, by decide, by decide +kernel⟩ ⟨rfl, rfl, Nat.le_of_ble_eq_true rfl, Nat.le_of_ble_eq_true rfl⟩ (n := 1) rfl hl.1 rfl (Nat.le_of_ble_eq_true rfl) dX4_forge_40 ⟨Nat.le_of_ble_eq_true rfl, Nat.le_of_ble_eq_true rfl⟩) (fun r9 e9 => ?_)
  subst e9
  refine mi_top (v' := .ref (ad (300 + d))) (congrArg va_rf (hf2 d (by omega))) ?_
  refine mi_castX S E hW ((300 + d)) rfl hd1 rfl (List.mem_cons_of_mem _ mw_470) dX4_forge_43 ?_
  refine lv_astore (lv' := [(4, .ref (ad (300 + d))), (0, .ref (ad 0)), (1, .int (nI (a))), (2, .int (nI (d))), (3, .int (nI (u)))]) S.1 S.2.1 dX4_forge_46 hl (by decide) rfl (fun ls hl => ?_)
  refine lv_iload_n S.1 S.2.1 dX4_forge_48 rfl (lv_at hl 4 rfl) ?_
  refine lv_aload S.1 S.2.1 dX4_forge_49 (lv_at hl 0 rfl) ?_
  refine fg_X4_164 S E hW ((300 + d)) rfl hd1 rfl dX4_forge_51 ?_
  refine mi_cR (mi_runV (P := mi_W D A ad cf) (As := []) (rest := [.int (nI (u))]) S E hS hW (ad (330 + d)) (c_AL_size l D A hszS) (hW.recv E hszS rfl) mw_307 mw_304 mw_305 mw_306 mw_21 ⟨by decide, by decide, by decide +kernel⟩ ⟨rfl, rfl, Nat.le_of_ble_eq_true rfl, Nat.le_of_ble_eq_true rfl⟩ (n := 0) rfl hl.1 rfl (Nat.le_of_ble_eq_true rfl) dX4_forge_54 ⟨Nat.le_of_ble_eq_true rfl, Nat.le_of_ble_eq_true rfl⟩) (fun r9 e9 => ?_)
  subst e9
  refine mi_icmp_le (tgt := 70) S (by omega) (by omega) dX4_forge_57 (by decide) (fun c57_2 => by exfalso; omega) (fun c57_2 => ?_)
  exact mi_throw (cls := mi_IS) (text := "the die has made fewer strikes") (ik := 114) (is := 167) (ic := 118) S E hst hS hW (by decide) mw_308 mw_35 (by decide) mt_g_IS mt_b_IS (by decide) mt_o_IS hl.1 dX4_forge_60 dX4_forge_63 dX4_forge_64 dX4_forge_66 dX4_forge_69 hno (Nat.le_of_ble_eq_true rfl) (Nat.le_of_ble_eq_true rfl) (by show _ ≤ (1 : Nat); omega) (by show _ ≤ (6 : Nat); omega) hk (by show _ ≤ (1 : Nat); omega) (by show _ ≤ (6 : Nat); omega)
