/-! the class's changes of states -/
theorem mi_un_id {g : Nat → Nat} {n v : Nat} (h : v = g n) : mi_un g n v = g := by
  funext j
  unfold mi_un
  by_cases e : j = n
  · rw [if_pos e, h, e]
  · rw [if_neg e]
set_option maxHeartbeats 4000000 in
set_option maxRecDepth 100000 in
theorem c_visit (l : Launch) (D : va_G) (A : Nat → Prop) {ad : Nat → Nat} {cf : Nat → Option va_E} {S0 : sT} (hX : RepX D S0 ad cf) (hO : st_ok S0) {a : Nat} (ha : a < sN S0) : mi_Mi l yX4_visit (Cond.code yX4_visit cX4_visit 3 (some Jvm.ClassFile.FieldType.int)) (mi_rm 3) D A (mi_W D A ad cf) [.ref (ad 0), .int (nI (a))] 0 0 (fun r H => r = nI (sW S0) ∧ rx_P D A (st_now S0 a) ad cf H) := by
  refine mi_start (cc := cX4_visit) (nL := 3) (ret := (some Jvm.ClassFile.FieldType.int)) rfl (by decide) (Nat.le_of_ble_eq_true rfl) ?_
  intro p e s m below meth c ls S E hW hS hr hk hn hl
  have S : CallFix p m c cX4_visit 3 s _ ((Cond.code yX4_visit cX4_visit 3 (some Jvm.ClassFile.FieldType.int)) :: mi_G) RX4 := S
  have hl : lv_has ls 3 [(0, .ref (ad 0)), (1, .int (nI (a)))] := hl
  obtain ⟨⟨o1, o2, o3, o4, o5⟩, oP, oK, oD, oX, oC, oI⟩ := id hO
  obtain ⟨x0, x1, x2, x3, ⟨pm, pq, pn, xp⟩, xs, ⟨co, hrr, grr, xd, xc⟩, x9⟩ := id hX
  have hx0 := x0
  unfold rx_ob at hx0
  obtain ⟨hsn, hkn⟩ := xs (sW S0) o3
  have hKb : ∀ j, j < 128 → sK S0 (sW S0) j < 4 := fun j hj => oK _ _ o3 hj
  obtain ⟨mw1, cap1, f1, hc1, hn1, hr1, hq1, hf1⟩ := x1.row (by omega)
  refine lv_aload_n S.1 S.2.1 dX4_visit_0 rfl (lv_at hl 0 rfl) ?_
  refine lv_iload_n S.1 S.2.1 dX4_visit_1 rfl (lv_at hl 1 rfl) ?_
  refine mi_cV (mi_runV (P := mi_W D A ad cf) (As := [.int (nI (a))]) (rest := []) S E hS hW (ad 0) (c_checkState l D A hX hO (by omega)) (hW.recv E hx0 rfl) mw_387 mw_384 mw_386 mw_6 mw_18 ⟨by decide, by decide, by decide +kernel⟩ ⟨rfl, rfl, Nat.le_of_ble_eq_true rfl, Nat.le_of_ble_eq_true rfl⟩ (n := 1) rfl hl.1 rfl (Nat.le_of_ble_eq_true rfl) dX4_visit_2 ⟨Nat.le_of_ble_eq_true rfl, Nat.le_of_ble_eq_true rfl⟩) ?_
  refine lv_aload_n S.1 S.2.1 dX4_visit_5 rfl (lv_at hl 0 rfl) ?_
  refine fg_X4_34 S E hW 0 rfl hx0 rfl dX4_visit_6 ?_
  refine fg_X4_62 S E hW ((100 + 2 * sW S0)) rfl hsn rfl dX4_visit_9 ?_
  refine lv_istore_n (lv' := [(2, .int (nI (sW S0))), (0, .ref (ad 0)), (1, .int (nI (a)))]) S.1 S.2.1 dX4_visit_12 rfl hl (by decide) rfl (fun ls hl => ?_)
  refine lv_aload_n S.1 S.2.1 dX4_visit_13 rfl (lv_at hl 1 rfl) ?_
  refine lv_aload_n S.1 S.2.1 dX4_visit_14 rfl (lv_at hl 1 rfl) ?_
  refine fg_X4_12 S E hW 0 rfl hx0 rfl dX4_visit_15 ?_
  refine lv_iload_n S.1 S.2.1 dX4_visit_18 rfl (lv_at hl 2 rfl) ?_
  refine mi_cQ (mi_runV (P := mi_W D A ad cf) (As := [.int (nI (a))]) (rest := [.ref (ad 0)]) S E hS hW (ad 1) (c_AL_get l D A hr1 hq1 hc1 (i := a) (by omega) hn1) (hW.recv E hr1 rfl) mw_392 mw_389 mw_390 mw_391 mw_21 ⟨by decide, by decide, by decide +kernel⟩ ⟨rfl, rfl, Nat.le_of_ble_eq_true rfl, Nat.le_of_ble_eq_true rfl⟩ (n := 1) rfl hl.1 rfl (Nat.le_of_ble_eq_true rfl) dX4_visit_19 ⟨Nat.le_of_ble_eq_true rfl, Nat.le_of_ble_eq_true rfl⟩) (fun r9 e9 => ?_)
  subst e9
  refine mi_top (v' := .ref (ad (100 + 2 * a))) (congrArg va_rf (hf1 a (by omega))) ?_
  obtain ⟨hs1, hk1⟩ := xs a (by omega)
  rw [rx_par_rf] at hs1
  refine mi_castX S E hW ((100 + 2 * a)) rfl hs1 rfl (List.mem_cons_of_mem _ mw_89) dX4_visit_22 ?_
  refine fp_X4_34 S E hS hW 0 rfl hx0 (Nat.le_of_ble_eq_true rfl) rfl rfl dX4_visit_25 (fun H locs hW hS hz => ?_)
  obtain ⟨cf2, hcf2⟩ : ∃ z, z = va_up cf 0 (some (.inr (5, [.ref (ad 1), .ref (ad 2), .ref (ad 3), .ref (ad 4), .ref (ad (100 + 2 * a))]))) := ⟨_, rfl⟩
  have hW : mi_W D A ad cf2 H := by rw [hcf2]; exact hW
  have he2_0 : cf2 ((100 + 2 * sW S0)) = some (.inr (4, [.int (nI (sW S0)), rx_par S0 ad (sW S0), .ref (ad (101 + 2 * sW S0))])) := by rw [hcf2]; exact (mi_up_n (by omega)).trans hsn
  have he2_1 : cf2 ((100 + 2 * a)) = some (.inr (4, [.int (nI (a)), va_rf (rx_po S0 ad a), .ref (ad (101 + 2 * a))])) := by rw [hcf2]; exact (mi_up_n (by omega)).trans hs1
  have he2_r : cf2 0 = some (.inr (5, [.ref (ad 1), .ref (ad 2), .ref (ad 3), .ref (ad 4), .ref (ad (100 + 2 * a))])) := by rw [hcf2]; exact mi_up_s
  refine lv_iload_n S.1 S.2.1 dX4_visit_28 rfl (lv_at hl 0 rfl) ?_
  rw [hcf2] at hW
  exact mi_retMi S hr hk hS dX4_visit_29 (Nat.le_refl _) (Nat.le_refl _) ⟨rfl, ad, _, hW, RepX.now hO hX, fun k hk => ⟨mi_up_n (by omega), rfl⟩, rfl⟩
set_option maxHeartbeats 4000000 in
set_option maxRecDepth 100000 in
theorem c_visit_x1 (l : Launch) (D : va_G) (A : Nat → Prop) (hst : l.stackTraces = false) {ad : Nat → Nat} {cf : Nat → Option va_E} {S0 : sT} (hX : RepX D S0 ad cf) (hO : st_ok S0) {x : Int32} (hx : ¬ (0 ≤ x.toInt ∧ x.toInt < sN S0)) : mi_Th l yX4_visit (Cond.code yX4_visit cX4_visit 3 (some Jvm.ClassFile.FieldType.int)) (mi_rq 7 1 6) D A (mi_W D A ad cf) [.ref (ad 0), .int (x)] mi_IO 1 6 := by
  refine mi_startX (cc := cX4_visit) (nL := 3) (ret := (some Jvm.ClassFile.FieldType.int)) rfl (by decide) (Nat.le_of_ble_eq_true rfl) ?_
  intro p e s m below meth c ls S E hW hS hr hk hno hl
  have S : CallFix p m c cX4_visit 3 s _ ((Cond.code yX4_visit cX4_visit 3 (some Jvm.ClassFile.FieldType.int)) :: mi_G) RX4 := S
  have hl : lv_has ls 3 [(0, .ref (ad 0)), (1, .int (x))] := hl
  obtain ⟨⟨o1, o2, o3, o4, o5⟩, oP, oK, oD, oX, oC, oI⟩ := id hO
  obtain ⟨x0, x1, x2, x3, ⟨pm, pq, pn, xp⟩, xs, ⟨co, hrr, grr, xd, xc⟩, x9⟩ := id hX
  have hx0 := x0
  unfold rx_ob at hx0
  refine lv_aload_n S.1 S.2.1 dX4_visit_0 rfl (lv_at hl 0 rfl) ?_
  refine lv_iload_n S.1 S.2.1 dX4_visit_1 rfl (lv_at hl 1 rfl) ?_
  refine mi_cTh (mi_runVX (P := mi_W D A ad cf) (As := [.int (x)]) (rest := []) S E hS hW (ad 0) (c_checkState_x l D A hst hX hO hx) (hW.recv E hx0 rfl) mw_387 mw_384 mw_386 mw_6 mw_18 ⟨by decide, by decide, by decide +kernel⟩ ⟨rfl, rfl, Nat.le_of_ble_eq_true rfl, Nat.le_of_ble_eq_true rfl⟩ (n := 1) rfl hl.1 rfl (Nat.le_of_ble_eq_true rfl) dX4_visit_2 ⟨(by show _ ≤ (1 : Nat); omega), (by show _ ≤ (6 : Nat); omega)⟩) hS (fun ce q9 H locs hW hS h1 h2 h3 => ?_)
  exact mi_out hno hk hW hS h1 h2 h3 (by show _ ≤ (1 : Nat); omega) (by show _ ≤ (6 : Nat); omega)
set_option maxHeartbeats 4000000 in
set_option maxRecDepth 100000 in
theorem c_undo (l : Launch) (D : va_G) (A : Nat → Prop) {ad : Nat → Nat} {cf : Nat → Option va_E} {S0 : sT} (hX : RepX D S0 ad cf) (hO : st_ok S0) (h0 : sW S0 ≠ 0) : mi_Mi l yX4_undo (Cond.code yX4_undo cX4_undo 2 (some Jvm.ClassFile.FieldType.int)) (mi_rm 0) D A (mi_W D A ad cf) [.ref (ad 0)] 0 0 (fun r H => r = nI (sP S0 (sW S0)) ∧ rx_P D A (st_now S0 (sP S0 (sW S0))) ad cf H) := by
  refine mi_start (cc := cX4_undo) (nL := 2) (ret := (some Jvm.ClassFile.FieldType.int)) rfl (by decide) (Nat.le_of_ble_eq_true rfl) ?_
  intro p e s m below meth c ls S E hW hS hr hk hn hl
  have S : CallFix p m c cX4_undo 2 s _ ((Cond.code yX4_undo cX4_undo 2 (some Jvm.ClassFile.FieldType.int)) :: mi_G) RX4 := S
  have hl : lv_has ls 2 [(0, .ref (ad 0))] := hl
  obtain ⟨⟨o1, o2, o3, o4, o5⟩, oP, oK, oD, oX, oC, oI⟩ := id hO
  obtain ⟨x0, x1, x2, x3, ⟨pm, pq, pn, xp⟩, xs, ⟨co, hrr, grr, xd, xc⟩, x9⟩ := id hX
  have hx0 := x0
  unfold rx_ob at hx0
  obtain ⟨hsn, hkn⟩ := xs (sW S0) o3
  have hKb : ∀ j, j < 128 → sK S0 (sW S0) j < 4 := fun j hj => oK _ _ o3 hj
  have hpw := oP (sW S0) (by omega) o3
  obtain ⟨hsp, hkp⟩ := xs (sP S0 (sW S0)) (by omega)
  refine lv_aload_n S.1 S.2.1 dX4_undo_0 rfl (lv_at hl 0 rfl) ?_
  refine fg_X4_34 S E hW 0 rfl hx0 rfl dX4_undo_1 ?_
  refine fg_X4_111 S E hW ((100 + 2 * sW S0)) rfl hsn rfl dX4_undo_4 ?_
  refine mi_top (v' := .ref (ad (100 + 2 * sP S0 (sW S0)))) (if_neg h0) ?_
  refine lv_astore_n (lv' := [(1, .ref (ad (100 + 2 * sP S0 (sW S0)))), (0, .ref (ad 0))]) S.1 S.2.1 dX4_undo_7 rfl hl (by decide) rfl (fun ls hl => ?_)
  refine lv_aload_n S.1 S.2.1 dX4_undo_8 rfl (lv_at hl 0 rfl) ?_
  refine lv_ifnonnull (tgt := 22) S.1 S.2.1 dX4_undo_9 (by decide) ?_
  refine lv_aload_n S.1 S.2.1 dX4_undo_22 rfl (lv_at hl 1 rfl) ?_
  refine lv_aload_n S.1 S.2.1 dX4_undo_23 rfl (lv_at hl 0 rfl) ?_
  refine fp_X4_34 S E hS hW 0 rfl hx0 (Nat.le_of_ble_eq_true rfl) rfl rfl dX4_undo_24 (fun H locs hW hS hz => ?_)
  obtain ⟨cf2, hcf2⟩ : ∃ z, z = va_up cf 0 (some (.inr (5, [.ref (ad 1), .ref (ad 2), .ref (ad 3), .ref (ad 4), .ref (ad (100 + 2 * sP S0 (sW S0)))]))) := ⟨_, rfl⟩
  have hW : mi_W D A ad cf2 H := by rw [hcf2]; exact hW
  have he2_0 : cf2 ((100 + 2 * sW S0)) = some (.inr (4, [.int (nI (sW S0)), rx_par S0 ad (sW S0), .ref (ad (101 + 2 * sW S0))])) := by rw [hcf2]; exact (mi_up_n (by omega)).trans hsn
  have he2_1 : cf2 ((100 + 2 * sP S0 (sW S0))) = some (.inr (4, [.int (nI (sP S0 (sW S0))), rx_par S0 ad (sP S0 (sW S0)), .ref (ad (101 + 2 * sP S0 (sW S0)))])) := by rw [hcf2]; exact (mi_up_n (by omega)).trans hsp
  have he2_r : cf2 0 = some (.inr (5, [.ref (ad 1), .ref (ad 2), .ref (ad 3), .ref (ad 4), .ref (ad (100 + 2 * sP S0 (sW S0)))])) := by rw [hcf2]; exact mi_up_s
  refine lv_aload_n S.1 S.2.1 dX4_undo_27 rfl (lv_at hl 1 rfl) ?_
  refine fg_X4_34 S E hW 0 rfl he2_r rfl dX4_undo_28 ?_
  refine fg_X4_62 S E hW ((100 + 2 * sP S0 (sW S0))) rfl he2_1 rfl dX4_undo_31 ?_
  rw [hcf2] at hW
  exact mi_retMi S hr hk hS dX4_undo_34 (Nat.le_refl _) (Nat.le_refl _) ⟨rfl, ad, _, hW, RepX.now hO hX, fun k hk => ⟨mi_up_n (by omega), rfl⟩, rfl⟩
set_option maxHeartbeats 4000000 in
set_option maxRecDepth 100000 in
theorem c_undo_x1 (l : Launch) (D : va_G) (A : Nat → Prop) (hst : l.stackTraces = false) {ad : Nat → Nat} {cf : Nat → Option va_E} {S0 : sT} (hX : RepX D S0 ad cf) (hO : st_ok S0) (h0 : sW S0 = 0) : mi_Th l yX4_undo (Cond.code yX4_undo cX4_undo 2 (some Jvm.ClassFile.FieldType.int)) (mi_rq 6 1 6) D A (mi_W D A ad cf) [.ref (ad 0)] mi_IS 1 6 := by
  refine mi_startX (cc := cX4_undo) (nL := 2) (ret := (some Jvm.ClassFile.FieldType.int)) rfl (by decide) (Nat.le_of_ble_eq_true rfl) ?_
  intro p e s m below meth c ls S E hW hS hr hk hno hl
  have S : CallFix p m c cX4_undo 2 s _ ((Cond.code yX4_undo cX4_undo 2 (some Jvm.ClassFile.FieldType.int)) :: mi_G) RX4 := S
  have hl : lv_has ls 2 [(0, .ref (ad 0))] := hl
  obtain ⟨⟨o1, o2, o3, o4, o5⟩, oP, oK, oD, oX, oC, oI⟩ := id hO
  obtain ⟨x0, x1, x2, x3, ⟨pm, pq, pn, xp⟩, xs, ⟨co, hrr, grr, xd, xc⟩, x9⟩ := id hX
  have hx0 := x0
  unfold rx_ob at hx0
  obtain ⟨hsn, hkn⟩ := xs (sW S0) o3
  have hKb : ∀ j, j < 128 → sK S0 (sW S0) j < 4 := fun j hj => oK _ _ o3 hj
  refine lv_aload_n S.1 S.2.1 dX4_undo_0 rfl (lv_at hl 0 rfl) ?_
  refine fg_X4_34 S E hW 0 rfl hx0 rfl dX4_undo_1 ?_
  refine fg_X4_111 S E hW ((100 + 2 * sW S0)) rfl hsn rfl dX4_undo_4 ?_
  refine mi_top (v' := .null) (if_pos h0) ?_
  refine lv_astore_nN (lv' := [(1, .null), (0, .ref (ad 0))]) S.1 S.2.1 dX4_undo_7 rfl hl (by decide) rfl (fun ls hl => ?_)
  refine lv_aload_nN S.1 S.2.1 dX4_undo_8 rfl (lv_at hl 0 rfl) ?_
  refine lv_ifnonnullN S.1 S.2.1 dX4_undo_9 ?_
  exact mi_throw (cls := mi_IS) (text := "the state 0 has no parent") (ik := 114) (is := 116) (ic := 118) S E hst hS hW (by decide) mw_308 mw_35 (by decide) mt_g_IS mt_b_IS (by decide) mt_o_IS hl.1 dX4_undo_12 dX4_undo_15 dX4_undo_16 dX4_undo_18 dX4_undo_21 hno (Nat.le_of_ble_eq_true rfl) (Nat.le_of_ble_eq_true rfl) (by show _ ≤ (1 : Nat); omega) (by show _ ≤ (6 : Nat); omega) hk (by show _ ≤ (1 : Nat); omega) (by show _ ≤ (6 : Nat); omega)
set_option maxHeartbeats 4000000 in
set_option maxRecDepth 100000 in
theorem c_findChild (l : Launch) (D : va_G) (A : Nat → Prop) {ad : Nat → Nat} {cf : Nat → Option va_E} {S0 : sT} (hX : RepX D S0 ad cf) (hO : st_ok S0) {b : Nat} (hb : b < sp_br S0 (sW S0) (sN S0)) : mi_Rq l yX4_findChild (Cond.code yX4_findChild cX4_findChild 5 (some (Jvm.ClassFile.FieldType.object "Voxelmint$State"))) (mi_rm 3) D A (mi_W D A ad cf) [.ref (ad 0), .int (nI (b))] (fun z => z = some (ad (100 + 2 * sp_fd S0 (sW S0) b (sN S0)))) := by
  refine mi_start (cc := cX4_findChild) (nL := 5) (ret := (some (Jvm.ClassFile.FieldType.object "Voxelmint$State"))) rfl (by decide) (Nat.le_of_ble_eq_true rfl) ?_
  intro p e s m below meth c ls S E hW hS hr hk hn hl
  have S : CallFix p m c cX4_findChild 5 s _ ((Cond.code yX4_findChild cX4_findChild 5 (some (Jvm.ClassFile.FieldType.object "Voxelmint$State"))) :: mi_G) RX4 := S
  have hl : lv_has ls 5 [(0, .ref (ad 0)), (1, .int (nI (b)))] := hl
  obtain ⟨⟨o1, o2, o3, o4, o5⟩, oP, oK, oD, oX, oC, oI⟩ := id hO
  obtain ⟨x0, x1, x2, x3, ⟨pm, pq, pn, xp⟩, xs, ⟨co, hrr, grr, xd, xc⟩, x9⟩ := id hX
  have hx0 := x0
  unfold rx_ob at hx0
  obtain ⟨mc1, ea1, hs1⟩ := x1.size
  obtain ⟨mw1, cap1, f1, hc1, hn1, hr1, hq1, hf1⟩ := x1.row (by omega)
  have hbr := sp_br_le S0 (sW S0) (sN S0)
  refine lv_iconst (v := nI 0) S.1 S.2.1 dX4_findChild_0 (by decide) ?_
  refine lv_istore_n (lv' := [(2, .int (nI (0))), (0, .ref (ad 0)), (1, .int (nI (b)))]) S.1 S.2.1 dX4_findChild_1 rfl hl (by decide) rfl (fun ls hl => ?_)
  refine lv_iconst (v := nI 0) S.1 S.2.1 dX4_findChild_2 (by decide) ?_
  refine lv_istore_n (lv' := [(3, .int (nI (0))), (2, .int (nI (0))), (0, .ref (ad 0)), (1, .int (nI (b)))]) S.1 S.2.1 dX4_findChild_3 rfl hl (by decide) rfl (fun ls hl => ?_)
  have lp4 : ∀ (n4 : Nat) (k : Nat) (i : Nat) (ls : Array Slot), sN S0 - i < n4 → i ≤ sN S0 → k = sp_br S0 (sW S0) i → k ≤ b → lv_has ls 5 [(0, .ref (ad 0)), (1, .int (nI (b))), (2, .int (nI (k))), (3, .int (nI (i)))] → W p l e (mi_rm 3) s m ([.ref (ad 0), .int (nI (b))] : List Value).toArray below meth c s.heap [] 0 0 (MQ below (va_Sq (fun z => z = some (ad (100 + 2 * sp_fd S0 (sW S0) b (sN S0))))) ([.ref (ad 0), .int (nI (b))] : List Value).toArray s 0 0 (fun _ => False)) (F0 m 4 ls []) := by
    intro n4
    induction n4 with
    | zero => intro k i ls hm hi hk9 hlt  hl; exact absurd hm (Nat.not_lt_zero _)
    | succ n4 ih4 =>
      intro k i ls hm hi hk9 hlt  hl
      refine lv_iload_n S.1 S.2.1 dX4_findChild_4 rfl (lv_at hl 3 rfl) ?_
      refine lv_aload_n S.1 S.2.1 dX4_findChild_5 rfl (lv_at hl 0 rfl) ?_
      refine fg_X4_12 S E hW 0 rfl hx0 rfl dX4_findChild_6 ?_
      refine mi_cR (mi_runV (P := mi_W D A ad cf) (As := []) (rest := [.int (nI (i))]) S E hS hW (ad 1) (c_AL_size l D A hs1) (hW.recv E hs1 rfl) mw_307 mw_304 mw_305 mw_306 mw_21 ⟨by decide, by decide, by decide +kernel⟩ ⟨rfl, rfl, Nat.le_of_ble_eq_true rfl, Nat.le_of_ble_eq_true rfl⟩ (n := 0) rfl hl.1 rfl (Nat.le_of_ble_eq_true rfl) dX4_findChild_9 ⟨Nat.le_of_ble_eq_true rfl, Nat.le_of_ble_eq_true rfl⟩) (fun r9 e9 => ?_)
      subst e9
      refine mi_icmp_ge (tgt := 57) S (by omega) (by omega) dX4_findChild_12 (by decide) (fun c12_0 => ?_) (fun c12_0 => ?_)
      · refine lv_null S.1 S.2.1 dX4_findChild_57 ?_
        exact absurd hb (by rw [show sN S0 = i by omega]; omega)
      · have hb1 := sp_br_le S0 (sW S0) i
        have hpi := rx_po_iff hW hX hO (i := i) (by omega)
        refine lv_aload_n S.1 S.2.1 dX4_findChild_15 rfl (lv_at hl 0 rfl) ?_
        refine fg_X4_12 S E hW 0 rfl hx0 rfl dX4_findChild_16 ?_
        refine lv_iload_n S.1 S.2.1 dX4_findChild_19 rfl (lv_at hl 3 rfl) ?_
        refine mi_cQ (mi_runV (P := mi_W D A ad cf) (As := [.int (nI (i))]) (rest := []) S E hS hW (ad 1) (c_AL_get l D A hr1 hq1 hc1 (i := i) (by omega) hn1) (hW.recv E hr1 rfl) mw_392 mw_389 mw_390 mw_391 mw_21 ⟨by decide, by decide, by decide +kernel⟩ ⟨rfl, rfl, Nat.le_of_ble_eq_true rfl, Nat.le_of_ble_eq_true rfl⟩ (n := 1) rfl hl.1 rfl (Nat.le_of_ble_eq_true rfl) dX4_findChild_20 ⟨Nat.le_of_ble_eq_true rfl, Nat.le_of_ble_eq_true rfl⟩) (fun r9 e9 => ?_)
        subst e9
        refine mi_top (v' := .ref (ad (100 + 2 * i))) (congrArg va_rf (hf1 i (by omega))) ?_
        obtain ⟨hs2, hk2⟩ := xs i (by omega)
        rw [rx_par_rf] at hs2
        refine mi_castX S E hW ((100 + 2 * i)) rfl hs2 rfl (List.mem_cons_of_mem _ mw_89) dX4_findChild_23 ?_
        refine lv_astore (lv' := [(4, .ref (ad (100 + 2 * i))), (0, .ref (ad 0)), (1, .int (nI (b))), (2, .int (nI (k))), (3, .int (nI (i)))]) S.1 S.2.1 dX4_findChild_26 hl (by decide) rfl (fun ls hl => ?_)
        refine lv_aload S.1 S.2.1 dX4_findChild_28 (lv_at hl 0 rfl) ?_
        refine fg_X4_111 S E hW ((100 + 2 * i)) rfl hs2 rfl dX4_findChild_30 ?_
        refine lv_aload_n S.1 S.2.1 dX4_findChild_33 rfl (lv_at hl 1 rfl) ?_
        refine fg_X4_34 S E hW 0 rfl hx0 rfl dX4_findChild_34 ?_
        refine lv_acmp_ne (rx := (rx_po S0 ad i)) (ry := (some (ad (100 + 2 * sW S0)))) (tgt := 51) S.1 S.2.1 dX4_findChild_37 (by decide) (fun c37_2 => ?_) (fun c37_2 => ?_)
        · refine lv_iinc (v := nI (i + 1)) (lv' := [(3, .int (nI (i + 1))), (4, .ref (ad (100 + 2 * i))), (0, .ref (ad 0)), (1, .int (nI (b))), (2, .int (nI (k)))]) S.1 S.2.1 dX4_findChild_51 hl (k := 4) rfl (mi_inc _) (by decide) rfl (fun ls hl => ?_)
          refine lv_goto (tgt := 4) S.1 S.2.1 dX4_findChild_54 (by decide) ?_
          exact ih4 k (i + 1) _ (by omega) (by omega) (by first | (rw [sp_br_1 (hpi.mp (by assumption))]; omega) | (rw [sp_br_0 (fun z => absurd (hpi.mpr z) (by assumption))]; omega)) (by omega)  (lv_sub hl [2, 3, 4, 0] rfl)
        · refine lv_iload_n S.1 S.2.1 dX4_findChild_40 rfl (lv_at hl 3 rfl) ?_
          refine lv_iload_n S.1 S.2.1 dX4_findChild_41 rfl (lv_at hl 2 rfl) ?_
          refine mi_icmp_ne (tgt := 48) S (by omega) (by omega) dX4_findChild_42 (by decide) (fun c42_3 => ?_) (fun c42_3 => ?_)
          · refine lv_iinc (v := nI (k + 1)) (lv' := [(2, .int (nI (k + 1))), (4, .ref (ad (100 + 2 * i))), (0, .ref (ad 0)), (1, .int (nI (b))), (3, .int (nI (i)))]) S.1 S.2.1 dX4_findChild_48 hl (k := 3) rfl (mi_inc _) (by decide) rfl (fun ls hl => ?_)
            refine lv_iinc (v := nI (i + 1)) (lv' := [(3, .int (nI (i + 1))), (2, .int (nI (k + 1))), (4, .ref (ad (100 + 2 * i))), (0, .ref (ad 0)), (1, .int (nI (b)))]) S.1 S.2.1 dX4_findChild_51 hl (k := 4) rfl (mi_inc _) (by decide) rfl (fun ls hl => ?_)
            refine lv_goto (tgt := 4) S.1 S.2.1 dX4_findChild_54 (by decide) ?_
            exact ih4 (k + 1) (i + 1) _ (by omega) (by omega) (by first | (rw [sp_br_1 (hpi.mp (by assumption))]; omega) | (rw [sp_br_0 (fun z => absurd (hpi.mpr z) (by assumption))]; omega)) (by omega)  (lv_sub hl [3, 4, 1, 0] rfl)
          · refine lv_aload S.1 S.2.1 dX4_findChild_45 (lv_at hl 0 rfl) ?_
            exact mi_retQ (r := some (ad (100 + 2 * i))) S hr (Or.inl ⟨_, rfl⟩) hk dX4_findChild_47 (by rw [sp_fd_is (hpi.mp (by assumption)) (by omega) (sN S0) (by omega)])
  exact lp4 _ 0 0 _ (Nat.lt_succ_self _) (by omega) (by rfl) (by omega)  (lv_sub hl [2, 3, 1, 0] rfl)
set_option maxHeartbeats 4000000 in
set_option maxRecDepth 100000 in
theorem c_findChild_n (l : Launch) (D : va_G) (A : Nat → Prop) {ad : Nat → Nat} {cf : Nat → Option va_E} {S0 : sT} (hX : RepX D S0 ad cf) (hO : st_ok S0) {x : Int32} (hx : ¬ (0 ≤ x.toInt ∧ x.toInt < sp_br S0 (sW S0) (sN S0))) : mi_Rq l yX4_findChild (Cond.code yX4_findChild cX4_findChild 5 (some (Jvm.ClassFile.FieldType.object "Voxelmint$State"))) (mi_rm 3) D A (mi_W D A ad cf) [.ref (ad 0), .int (x)] (fun z => z = none) := by
  refine mi_start (cc := cX4_findChild) (nL := 5) (ret := (some (Jvm.ClassFile.FieldType.object "Voxelmint$State"))) rfl (by decide) (Nat.le_of_ble_eq_true rfl) ?_
  intro p e s m below meth c ls S E hW hS hr hk hn hl
  have S : CallFix p m c cX4_findChild 5 s _ ((Cond.code yX4_findChild cX4_findChild 5 (some (Jvm.ClassFile.FieldType.object "Voxelmint$State"))) :: mi_G) RX4 := S
  have hl : lv_has ls 5 [(0, .ref (ad 0)), (1, .int (x))] := hl
  obtain ⟨⟨o1, o2, o3, o4, o5⟩, oP, oK, oD, oX, oC, oI⟩ := id hO
  obtain ⟨x0, x1, x2, x3, ⟨pm, pq, pn, xp⟩, xs, ⟨co, hrr, grr, xd, xc⟩, x9⟩ := id hX
  have hx0 := x0
  unfold rx_ob at hx0
  obtain ⟨mc1, ea1, hs1⟩ := x1.size
  obtain ⟨mw1, cap1, f1, hc1, hn1, hr1, hq1, hf1⟩ := x1.row (by omega)
  have hbr := sp_br_le S0 (sW S0) (sN S0)
  refine lv_iconst (v := nI 0) S.1 S.2.1 dX4_findChild_0 (by decide) ?_
  refine lv_istore_n (lv' := [(2, .int (nI (0))), (0, .ref (ad 0)), (1, .int (x))]) S.1 S.2.1 dX4_findChild_1 rfl hl (by decide) rfl (fun ls hl => ?_)
  refine lv_iconst (v := nI 0) S.1 S.2.1 dX4_findChild_2 (by decide) ?_
  refine lv_istore_n (lv' := [(3, .int (nI (0))), (2, .int (nI (0))), (0, .ref (ad 0)), (1, .int (x))]) S.1 S.2.1 dX4_findChild_3 rfl hl (by decide) rfl (fun ls hl => ?_)
  have lp4 : ∀ (n4 : Nat) (k : Nat) (i : Nat) (ls : Array Slot), sN S0 - i < n4 → i ≤ sN S0 → k = sp_br S0 (sW S0) i → lv_has ls 5 [(0, .ref (ad 0)), (1, .int (x)), (2, .int (nI (k))), (3, .int (nI (i)))] → W p l e (mi_rm 3) s m ([.ref (ad 0), .int (x)] : List Value).toArray below meth c s.heap [] 0 0 (MQ below (va_Sq (fun z => z = none)) ([.ref (ad 0), .int (x)] : List Value).toArray s 0 0 (fun _ => False)) (F0 m 4 ls []) := by
    intro n4
    induction n4 with
    | zero => intro k i ls hm hi hk9  hl; exact absurd hm (Nat.not_lt_zero _)
    | succ n4 ih4 =>
      intro k i ls hm hi hk9  hl
      refine lv_iload_n S.1 S.2.1 dX4_findChild_4 rfl (lv_at hl 3 rfl) ?_
      refine lv_aload_n S.1 S.2.1 dX4_findChild_5 rfl (lv_at hl 0 rfl) ?_
      refine fg_X4_12 S E hW 0 rfl hx0 rfl dX4_findChild_6 ?_
      refine mi_cR (mi_runV (P := mi_W D A ad cf) (As := []) (rest := [.int (nI (i))]) S E hS hW (ad 1) (c_AL_size l D A hs1) (hW.recv E hs1 rfl) mw_307 mw_304 mw_305 mw_306 mw_21 ⟨by decide, by decide, by decide +kernel⟩ ⟨rfl, rfl, Nat.le_of_ble_eq_true rfl, Nat.le_of_ble_eq_true rfl⟩ (n := 0) rfl hl.1 rfl (Nat.le_of_ble_eq_true rfl) dX4_findChild_9 ⟨Nat.le_of_ble_eq_true rfl, Nat.le_of_ble_eq_true rfl⟩) (fun r9 e9 => ?_)
      subst e9
      refine mi_icmp_ge (tgt := 57) S (by omega) (by omega) dX4_findChild_12 (by decide) (fun c12_0 => ?_) (fun c12_0 => ?_)
      · refine lv_null S.1 S.2.1 dX4_findChild_57 ?_
        exact mi_retQ (r := none) S hr (Or.inl ⟨_, rfl⟩) hk dX4_findChild_58 rfl
      · have hb1 := sp_br_le S0 (sW S0) i
        have hpi := rx_po_iff hW hX hO (i := i) (by omega)
        refine lv_aload_n S.1 S.2.1 dX4_findChild_15 rfl (lv_at hl 0 rfl) ?_
        refine fg_X4_12 S E hW 0 rfl hx0 rfl dX4_findChild_16 ?_
        refine lv_iload_n S.1 S.2.1 dX4_findChild_19 rfl (lv_at hl 3 rfl) ?_
        refine mi_cQ (mi_runV (P := mi_W D A ad cf) (As := [.int (nI (i))]) (rest := []) S E hS hW (ad 1) (c_AL_get l D A hr1 hq1 hc1 (i := i) (by omega) hn1) (hW.recv E hr1 rfl) mw_392 mw_389 mw_390 mw_391 mw_21 ⟨by decide, by decide, by decide +kernel⟩ ⟨rfl, rfl, Nat.le_of_ble_eq_true rfl, Nat.le_of_ble_eq_true rfl⟩ (n := 1) rfl hl.1 rfl (Nat.le_of_ble_eq_true rfl) dX4_findChild_20 ⟨Nat.le_of_ble_eq_true rfl, Nat.le_of_ble_eq_true rfl⟩) (fun r9 e9 => ?_)
        subst e9
        refine mi_top (v' := .ref (ad (100 + 2 * i))) (congrArg va_rf (hf1 i (by omega))) ?_
        obtain ⟨hs2, hk2⟩ := xs i (by omega)
        rw [rx_par_rf] at hs2
        refine mi_castX S E hW ((100 + 2 * i)) rfl hs2 rfl (List.mem_cons_of_mem _ mw_89) dX4_findChild_23 ?_
        refine lv_astore (lv' := [(4, .ref (ad (100 + 2 * i))), (0, .ref (ad 0)), (1, .int (x)), (2, .int (nI (k))), (3, .int (nI (i)))]) S.1 S.2.1 dX4_findChild_26 hl (by decide) rfl (fun ls hl => ?_)
        refine lv_aload S.1 S.2.1 dX4_findChild_28 (lv_at hl 0 rfl) ?_
        refine fg_X4_111 S E hW ((100 + 2 * i)) rfl hs2 rfl dX4_findChild_30 ?_
        refine lv_aload_n S.1 S.2.1 dX4_findChild_33 rfl (lv_at hl 1 rfl) ?_
        refine fg_X4_34 S E hW 0 rfl hx0 rfl dX4_findChild_34 ?_
        refine lv_acmp_ne (rx := (rx_po S0 ad i)) (ry := (some (ad (100 + 2 * sW S0)))) (tgt := 51) S.1 S.2.1 dX4_findChild_37 (by decide) (fun c37_2 => ?_) (fun c37_2 => ?_)
        · refine lv_iinc (v := nI (i + 1)) (lv' := [(3, .int (nI (i + 1))), (4, .ref (ad (100 + 2 * i))), (0, .ref (ad 0)), (1, .int (x)), (2, .int (nI (k)))]) S.1 S.2.1 dX4_findChild_51 hl (k := 4) rfl (mi_inc _) (by decide) rfl (fun ls hl => ?_)
          refine lv_goto (tgt := 4) S.1 S.2.1 dX4_findChild_54 (by decide) ?_
          exact ih4 k (i + 1) _ (by omega) (by omega) (by first | (rw [sp_br_1 (hpi.mp (by assumption))]; omega) | (rw [sp_br_0 (fun z => absurd (hpi.mpr z) (by assumption))]; omega))  (lv_sub hl [2, 3, 4, 0] rfl)
        · refine lv_iload_n S.1 S.2.1 dX4_findChild_40 rfl (lv_at hl 3 rfl) ?_
          refine lv_iload_n S.1 S.2.1 dX4_findChild_41 rfl (lv_at hl 2 rfl) ?_
          refine mi_xcmp_ne (tgt := 48) S (nI_toInt (n := k) (by omega)) (rfl) dX4_findChild_42 (by decide) (fun c42_3 => ?_) (fun c42_3 => by exfalso; have h7 := sp_br_mono S0 (sW S0) (m := i + 1) (n := sN S0) (by omega); rw [sp_br_1 (hpi.mp (by assumption))] at h7; omega)
          refine lv_iinc (v := nI (k + 1)) (lv' := [(2, .int (nI (k + 1))), (4, .ref (ad (100 + 2 * i))), (0, .ref (ad 0)), (1, .int (x)), (3, .int (nI (i)))]) S.1 S.2.1 dX4_findChild_48 hl (k := 3) rfl (mi_inc _) (by decide) rfl (fun ls hl => ?_)
          refine lv_iinc (v := nI (i + 1)) (lv' := [(3, .int (nI (i + 1))), (2, .int (nI (k + 1))), (4, .ref (ad (100 + 2 * i))), (0, .ref (ad 0)), (1, .int (x))]) S.1 S.2.1 dX4_findChild_51 hl (k := 4) rfl (mi_inc _) (by decide) rfl (fun ls hl => ?_)
          refine lv_goto (tgt := 4) S.1 S.2.1 dX4_findChild_54 (by decide) ?_
          exact ih4 (k + 1) (i + 1) _ (by omega) (by omega) (by first | (rw [sp_br_1 (hpi.mp (by assumption))]; omega) | (rw [sp_br_0 (fun z => absurd (hpi.mpr z) (by assumption))]; omega))  (lv_sub hl [3, 4, 1, 0] rfl)
  exact lp4 _ 0 0 _ (Nat.lt_succ_self _) (by omega) (by rfl)  (lv_sub hl [2, 3, 1, 0] rfl)
set_option maxHeartbeats 4000000 in
set_option maxRecDepth 100000 in
theorem c_redo (l : Launch) (D : va_G) (A : Nat → Prop) {ad : Nat → Nat} {cf : Nat → Option va_E} {S0 : sT} (hX : RepX D S0 ad cf) (hO : st_ok S0) {b : Nat} (hb : b < sp_br S0 (sW S0) (sN S0)) : mi_Mi l yX4_redo (Cond.code yX4_redo cX4_redo 3 (some Jvm.ClassFile.FieldType.int)) (mi_rm 4) D A (mi_W D A ad cf) [.ref (ad 0), .int (nI (b))] 0 0 (fun r H => r = nI (sp_fd S0 (sW S0) b (sN S0)) ∧ rx_P D A (st_now S0 (sp_fd S0 (sW S0) b (sN S0))) ad cf H) := by
  refine mi_start (cc := cX4_redo) (nL := 3) (ret := (some Jvm.ClassFile.FieldType.int)) rfl (by decide) (Nat.le_of_ble_eq_true rfl) ?_
  intro p e s m below meth c ls S E hW hS hr hk hn hl
  have S : CallFix p m c cX4_redo 3 s _ ((Cond.code yX4_redo cX4_redo 3 (some Jvm.ClassFile.FieldType.int)) :: mi_G) RX4 := S
  have hl : lv_has ls 3 [(0, .ref (ad 0)), (1, .int (nI (b)))] := hl
  obtain ⟨⟨o1, o2, o3, o4, o5⟩, oP, oK, oD, oX, oC, oI⟩ := id hO
  obtain ⟨x0, x1, x2, x3, ⟨pm, pq, pn, xp⟩, xs, ⟨co, hrr, grr, xd, xc⟩, x9⟩ := id hX
  have hx0 := x0
  unfold rx_ob at hx0
  obtain ⟨hsn, hkn⟩ := xs (sW S0) o3
  have hKb : ∀ j, j < 128 → sK S0 (sW S0) j < 4 := fun j hj => oK _ _ o3 hj
  have hcl := sp_fd_lt (S := S0) (b := b) o3 (sN S0) (Nat.le_refl _)
  obtain ⟨hsc, hkc⟩ := xs (sp_fd S0 (sW S0) b (sN S0)) hcl
  refine lv_aload_n S.1 S.2.1 dX4_redo_0 rfl (lv_at hl 0 rfl) ?_
  refine lv_iload_n S.1 S.2.1 dX4_redo_1 rfl (lv_at hl 1 rfl) ?_
  refine mi_cQ (mi_runV (P := mi_W D A ad cf) (As := [.int (nI (b))]) (rest := []) S E hS hW (ad 0) (c_findChild l D A hX hO hb) (hW.recv E hx0 rfl) mw_425 mw_422 mw_424 mw_7 mw_18 ⟨by decide, by decide, by decide +kernel⟩ ⟨rfl, rfl, Nat.le_of_ble_eq_true rfl, Nat.le_of_ble_eq_true rfl⟩ (n := 1) rfl hl.1 rfl (Nat.le_of_ble_eq_true rfl) dX4_redo_2 ⟨Nat.le_of_ble_eq_true rfl, Nat.le_of_ble_eq_true rfl⟩) (fun r9 e9 => ?_)
  subst e9
  refine mi_top (v' := .ref (ad (100 + 2 * sp_fd S0 (sW S0) b (sN S0)))) rfl ?_
  refine lv_astore_n (lv' := [(2, .ref (ad (100 + 2 * sp_fd S0 (sW S0) b (sN S0)))), (0, .ref (ad 0)), (1, .int (nI (b)))]) S.1 S.2.1 dX4_redo_5 rfl hl (by decide) rfl (fun ls hl => ?_)
  refine lv_aload_n S.1 S.2.1 dX4_redo_6 rfl (lv_at hl 0 rfl) ?_
  refine lv_ifnonnull (tgt := 20) S.1 S.2.1 dX4_redo_7 (by decide) ?_
  refine lv_aload_n S.1 S.2.1 dX4_redo_20 rfl (lv_at hl 1 rfl) ?_
  refine lv_aload_n S.1 S.2.1 dX4_redo_21 rfl (lv_at hl 0 rfl) ?_
  refine fp_X4_34 S E hS hW 0 rfl hx0 (Nat.le_of_ble_eq_true rfl) rfl rfl dX4_redo_22 (fun H locs hW hS hz => ?_)
  obtain ⟨cf2, hcf2⟩ : ∃ z, z = va_up cf 0 (some (.inr (5, [.ref (ad 1), .ref (ad 2), .ref (ad 3), .ref (ad 4), .ref (ad (100 + 2 * sp_fd S0 (sW S0) b (sN S0)))]))) := ⟨_, rfl⟩
  have hW : mi_W D A ad cf2 H := by rw [hcf2]; exact hW
  have he2_0 : cf2 ((100 + 2 * sW S0)) = some (.inr (4, [.int (nI (sW S0)), rx_par S0 ad (sW S0), .ref (ad (101 + 2 * sW S0))])) := by rw [hcf2]; exact (mi_up_n (by omega)).trans hsn
  have he2_1 : cf2 ((100 + 2 * sp_fd S0 (sW S0) b (sN S0))) = some (.inr (4, [.int (nI (sp_fd S0 (sW S0) b (sN S0))), rx_par S0 ad (sp_fd S0 (sW S0) b (sN S0)), .ref (ad (101 + 2 * sp_fd S0 (sW S0) b (sN S0)))])) := by rw [hcf2]; exact (mi_up_n (by omega)).trans hsc
  have he2_r : cf2 0 = some (.inr (5, [.ref (ad 1), .ref (ad 2), .ref (ad 3), .ref (ad 4), .ref (ad (100 + 2 * sp_fd S0 (sW S0) b (sN S0)))])) := by rw [hcf2]; exact mi_up_s
  refine lv_aload_n S.1 S.2.1 dX4_redo_25 rfl (lv_at hl 1 rfl) ?_
  refine fg_X4_34 S E hW 0 rfl he2_r rfl dX4_redo_26 ?_
  refine fg_X4_62 S E hW ((100 + 2 * sp_fd S0 (sW S0) b (sN S0))) rfl he2_1 rfl dX4_redo_29 ?_
  rw [hcf2] at hW
  exact mi_retMi S hr hk hS dX4_redo_32 (Nat.le_refl _) (Nat.le_refl _) ⟨rfl, ad, _, hW, RepX.now hO hX, fun k hk => ⟨mi_up_n (by omega), rfl⟩, rfl⟩
set_option maxHeartbeats 4000000 in
set_option maxRecDepth 100000 in
theorem c_redo_x1 (l : Launch) (D : va_G) (A : Nat → Prop) (hst : l.stackTraces = false) {ad : Nat → Nat} {cf : Nat → Option va_E} {S0 : sT} (hX : RepX D S0 ad cf) (hO : st_ok S0) {x : Int32} (hx : ¬ (0 ≤ x.toInt ∧ x.toInt < sp_br S0 (sW S0) (sN S0))) : mi_Th l yX4_redo (Cond.code yX4_redo cX4_redo 3 (some Jvm.ClassFile.FieldType.int)) (mi_rq 6 1 6) D A (mi_W D A ad cf) [.ref (ad 0), .int (x)] mi_IO 1 6 := by
  refine mi_startX (cc := cX4_redo) (nL := 3) (ret := (some Jvm.ClassFile.FieldType.int)) rfl (by decide) (Nat.le_of_ble_eq_true rfl) ?_
  intro p e s m below meth c ls S E hW hS hr hk hno hl
  have S : CallFix p m c cX4_redo 3 s _ ((Cond.code yX4_redo cX4_redo 3 (some Jvm.ClassFile.FieldType.int)) :: mi_G) RX4 := S
  have hl : lv_has ls 3 [(0, .ref (ad 0)), (1, .int (x))] := hl
  obtain ⟨⟨o1, o2, o3, o4, o5⟩, oP, oK, oD, oX, oC, oI⟩ := id hO
  obtain ⟨x0, x1, x2, x3, ⟨pm, pq, pn, xp⟩, xs, ⟨co, hrr, grr, xd, xc⟩, x9⟩ := id hX
  have hx0 := x0
  unfold rx_ob at hx0
  refine lv_aload_n S.1 S.2.1 dX4_redo_0 rfl (lv_at hl 0 rfl) ?_
  refine lv_iload_n S.1 S.2.1 dX4_redo_1 rfl (lv_at hl 1 rfl) ?_
  refine mi_cQ (mi_runV (P := mi_W D A ad cf) (As := [.int (x)]) (rest := []) S E hS hW (ad 0) (c_findChild_n l D A hX hO hx) (hW.recv E hx0 rfl) mw_425 mw_422 mw_424 mw_7 mw_18 ⟨by decide, by decide, by decide +kernel⟩ ⟨rfl, rfl, Nat.le_of_ble_eq_true rfl, Nat.le_of_ble_eq_true rfl⟩ (n := 1) rfl hl.1 rfl (Nat.le_of_ble_eq_true rfl) dX4_redo_2 ⟨(by show _ ≤ (1 : Nat); omega), (by show _ ≤ (6 : Nat); omega)⟩) (fun r9 e9 => ?_)
  subst e9
  refine mi_top (v' := .null) rfl ?_
  refine lv_astore_nN (lv' := [(2, .null), (0, .ref (ad 0)), (1, .int (x))]) S.1 S.2.1 dX4_redo_5 rfl hl (by decide) rfl (fun ls hl => ?_)
  refine lv_aload_nN S.1 S.2.1 dX4_redo_6 rfl (lv_at hl 0 rfl) ?_
  refine lv_ifnonnullN S.1 S.2.1 dX4_redo_7 ?_
  exact mi_throw (cls := mi_IO) (text := "no such branch") (ik := 80) (is := 123) (ic := 84) S E hst hS hW (by decide) mw_206 mw_31 (by decide) mt_g_IO mt_b_IO (by decide) mt_o_IO hl.1 dX4_redo_10 dX4_redo_13 dX4_redo_14 dX4_redo_16 dX4_redo_19 hno (Nat.le_of_ble_eq_true rfl) (Nat.le_of_ble_eq_true rfl) (by show _ ≤ (1 : Nat); omega) (by show _ ≤ (6 : Nat); omega) hk (by show _ ≤ (1 : Nat); omega) (by show _ ≤ (6 : Nat); omega)
