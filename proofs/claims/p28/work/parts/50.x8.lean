/-! the finder: a piece to its end; all pieces -/
set_option maxHeartbeats 4000000 in
set_option maxRecDepth 100000 in
theorem c_reachRest (l : Launch) (D : va_G) (A : Nat → Prop) {ad : Nat → Nat} {cf : Nat → Option va_E} {u v : Nat → Nat} {n : Nat} {K : Nat → Nat} {rS rK : Nat} {num : Int32} {par : Value} (hp : rx_pf D ad cf u v n) (hS0 : cf rS = some (.inr (4, [.int num, par, .ref (ad rK)]))) (hK0 : cf rK = some (mi_ai D 128 (fun j => nI (K j)))) (hn9 : rS ≠ 4 ∧ rS ≠ 5 ∧ rS ≠ 6 ∧ rK ≠ 4 ∧ rK ≠ 5 ∧ rK ≠ 6) (hKb : ∀ j, j < 128 → K j < 4) {root fst : Nat} {m0 : Nat → Nat} (hI : pc_I K root m0 fst u v n) (hroot : root < 128) : mi_Mv l yX2_reachRestOfPiece (Cond.code yX2_reachRestOfPiece cX2_reachRestOfPiece 4 none) (mi_rm 4) D A (mi_W D A ad cf) [.ref (ad 4), .ref (ad rS), .int (nI (fst))] 0 0 (fun H => ∃ cf1 u1 v1 n1, mi_W D A ad cf1 H ∧ rx_pf D ad cf1 u1 v1 n1 ∧ pf_fr cf cf1 ∧ pc_I K root m0 fst u1 v1 n1 ∧ pc_M u v n u1 v1 n1 ∧ ∀ j, fst ≤ j → j < n1 → ∀ y, pc_a K (v1 j) y → u1 y ≠ 0) := by
  refine mi_start (cc := cX2_reachRestOfPiece) (nL := 4) (ret := none) rfl (by decide) (Nat.le_of_ble_eq_true rfl) ?_
  intro p e s m below meth c ls S E hW hS hr hk hn hl
  have S : CallFix p m c cX2_reachRestOfPiece 4 s _ ((Cond.code yX2_reachRestOfPiece cX2_reachRestOfPiece 4 none) :: mi_G) RX2 := S
  have hl : lv_has ls 4 [(0, .ref (ad 4)), (1, .ref (ad rS)), (2, .int (nI (fst)))] := hl
  refine lv_iload_n S.1 S.2.1 dX2_reachRestOfPiece_0 rfl (lv_at hl 2 rfl) ?_
  refine lv_istore_n (lv' := [(3, .int (nI (fst))), (0, .ref (ad 4)), (1, .ref (ad rS)), (2, .int (nI (fst)))]) S.1 S.2.1 dX2_reachRestOfPiece_1 rfl hl (by decide) rfl (fun ls hl => ?_)
  have lp2 : ∀ (n2 : Nat) (cfv : Nat → Option va_E) (mv : Nat → Nat) (qv : Nat → Nat) (nv : Nat) (i : Nat) (H : Heap) (locs : List Loc) (ls : Array Slot), 128 - i < n2 → fst ≤ i ∧ i ≤ nv → rx_pf D ad cfv mv qv nv → pf_fr cf cfv → pc_I K root m0 fst mv qv nv → pc_M u v n mv qv nv → (∀ j, fst ≤ j → j < i → ∀ y, pc_a K (qv j) y → mv y ≠ 0) → mi_W D A ad cfv H → va_S A s.heap H locs → lv_has ls 4 [(0, .ref (ad 4)), (1, .ref (ad rS)), (2, .int (nI (fst))), (3, .int (nI (i)))] → W p l e (mi_rm 4) s m ([.ref (ad 4), .ref (ad rS), .int (nI (fst))] : List Value).toArray below meth c H locs 0 0 (MQ below (mi_Qv A (fun H => ∃ cf1 u1 v1 n1, mi_W D A ad cf1 H ∧ rx_pf D ad cf1 u1 v1 n1 ∧ pf_fr cf cf1 ∧ pc_I K root m0 fst u1 v1 n1 ∧ pc_M u v n u1 v1 n1 ∧ ∀ j, fst ≤ j → j < n1 → ∀ y, pc_a K (v1 j) y → u1 y ≠ 0)) ([.ref (ad 4), .ref (ad rS), .int (nI (fst))] : List Value).toArray s 0 0 A) (F0 m 2 ls []) := by
    intro n2
    induction n2 with
    | zero => intro cfv mv qv nv i H locs ls hm hi hpv hfv hIv hMv hdv hW hS hl; exact absurd hm (Nat.not_lt_zero _)
    | succ n2 ih2 =>
      intro cfv mv qv nv i H locs ls hm hi hpv hfv hIv hMv hdv hW hS hl
      have hle := pc_I_le hIv
      refine lv_iload_n S.1 S.2.1 dX2_reachRestOfPiece_2 rfl (lv_at hl 3 rfl) ?_
      refine lv_aload_n S.1 S.2.1 dX2_reachRestOfPiece_3 rfl (lv_at hl 0 rfl) ?_
      refine fg_X2_24 S E hW 4 rfl hpv.1 rfl dX2_reachRestOfPiece_4 ?_
      refine mi_icmp_ge (tgt := 46) S (by omega) (by omega) dX2_reachRestOfPiece_7 (by decide) (fun c7_0 => ?_) (fun c7_0 => ?_)
      · exact mi_retMv S hr hk hS dX2_reachRestOfPiece_46 (Nat.le_refl _) (Nat.le_refl _) ⟨cfv, mv, qv, nv, hW, hpv, hfv, hIv, hMv, fun j h1 h2 y hy => hdv j h1 (by have := pc_I_le hIv; omega) y hy⟩
      · refine lv_iload_n S.1 S.2.1 dX2_reachRestOfPiece_10 rfl (lv_at hl 3 rfl) ?_
        refine lv_sipush (v := nI 128) S.1 S.2.1 dX2_reachRestOfPiece_11 (by decide) ?_
        refine mi_icmp_ge (tgt := 46) S (by omega) (by omega) dX2_reachRestOfPiece_14 (by decide) (fun c14_1 => ?_) (fun c14_1 => ?_)
        · exact mi_retMv S hr hk hS dX2_reachRestOfPiece_46 (Nat.le_refl _) (Nat.le_refl _) ⟨cfv, mv, qv, nv, hW, hpv, hfv, hIv, hMv, fun j h1 h2 y hy => hdv j h1 (by have := pc_I_le hIv; omega) y hy⟩
        · have hqi := hIv.2.2.2.1 i hi.1 (by omega)
          refine lv_aload_n S.1 S.2.1 dX2_reachRestOfPiece_17 rfl (lv_at hl 0 rfl) ?_
          refine lv_aload_n S.1 S.2.1 dX2_reachRestOfPiece_18 rfl (lv_at hl 1 rfl) ?_
          refine lv_aload_n S.1 S.2.1 dX2_reachRestOfPiece_19 rfl (lv_at hl 0 rfl) ?_
          refine fg_X2_15 S E hW 4 rfl hpv.1 rfl dX2_reachRestOfPiece_20 ?_
          refine lv_iload_n S.1 S.2.1 dX2_reachRestOfPiece_23 rfl (lv_at hl 3 rfl) ?_
          refine mi_iald S E hW 6 rfl hpv.2.2 (by omega) (by omega) dX2_reachRestOfPiece_24 ?_
          refine lv_bipush (v := nI 8) S.1 S.2.1 dX2_reachRestOfPiece_25 (by decide) ?_
          refine mi_idiv S (by omega) (by omega) (by omega) dX2_reachRestOfPiece_27 ?_
          refine lv_aload_n S.1 S.2.1 dX2_reachRestOfPiece_28 rfl (lv_at hl 0 rfl) ?_
          refine fg_X2_15 S E hW 4 rfl hpv.1 rfl dX2_reachRestOfPiece_29 ?_
          refine lv_iload_n S.1 S.2.1 dX2_reachRestOfPiece_32 rfl (lv_at hl 3 rfl) ?_
          refine mi_iald S E hW 6 rfl hpv.2.2 (by omega) (by omega) dX2_reachRestOfPiece_33 ?_
          refine lv_bipush (v := nI 8) S.1 S.2.1 dX2_reachRestOfPiece_34 (by decide) ?_
          refine mi_irem S (by omega) (by omega) (by omega) dX2_reachRestOfPiece_36 ?_
          refine mi_cMv (mi_runV (P := mi_W D A ad cfv) (As := [.ref (ad rS), .int (nI ((qv i) / 8)), .int (nI ((qv i) % 8))]) (rest := []) S E hS hW (ad 4) (c_reachTouching l D A hpv ((hfv _ hn9.1 hn9.2.1 hn9.2.2.1).trans hS0) ((hfv _ hn9.2.2.2.1 hn9.2.2.2.2.1 hn9.2.2.2.2.2).trans hK0) hn9 hKb hIv (a := qv i / 8) (b := qv i % 8) (by omega) (by omega) (by rw [show 8 * (qv i / 8) + qv i % 8 = qv i by omega]; exact hqi.2.2) (by rw [show 8 * (qv i / 8) + qv i % 8 = qv i by omega]; exact hqi.2.1)) (hW.recv E hpv.1 rfl) mw_468 mw_465 mw_467 mw_10 mw_22 ⟨by decide, by decide, by decide +kernel⟩ ⟨rfl, rfl, Nat.le_of_ble_eq_true rfl, Nat.le_of_ble_eq_true rfl⟩ (n := 3) rfl hl.1 rfl (Nat.le_of_ble_eq_true rfl) dX2_reachRestOfPiece_37 ⟨Nat.le_of_ble_eq_true rfl, Nat.le_of_ble_eq_true rfl⟩) hS (fun H locs hp9 hS hz => ?_)
          obtain ⟨cf3, m3, q3, n3, hW, hp3, hf3, hI3, hM3, hy3⟩ := hp9
          rw [show 8 * (qv i / 8) + qv i % 8 = qv i by omega] at hy3
          refine lv_iinc (v := nI (i + 1)) (lv' := [(3, .int (nI (i + 1))), (0, .ref (ad 4)), (1, .ref (ad rS)), (2, .int (nI (fst)))]) S.1 S.2.1 dX2_reachRestOfPiece_40 hl (k := 3) rfl (mi_inc _) (by decide) rfl (fun ls hl => ?_)
          refine lv_goto (tgt := 2) S.1 S.2.1 dX2_reachRestOfPiece_43 (by decide) ?_
          exact ih2 cf3 m3 q3 n3 (i + 1) _ _ _ (by omega) (⟨by omega, by have := hM3.1; omega⟩) (hp3) (hfv.tr hf3) (hI3) (pc_M_tr hMv hM3) (fun j h1 h2 y hy => by
                rw [hM3.2.1 j (by omega)] at hy
                by_cases e9 : j = i
                · rw [e9] at hy; exact hy3 y hy
                · exact hM3.2.2 _ (hdv j h1 (by omega) y hy)) hW hS (lv_sub hl [1, 2, 3, 0] rfl)
  exact lp2 _ cf u v n fst _ _ _ (Nat.lt_succ_self _) (⟨Nat.le_refl _, hI.2.2.1⟩) (hp) (pf_fr.rf) (hI) (pc_M_rf) (fun j h1 h2 => absurd h2 (by omega)) hW hS (lv_sub hl [1, 2, 3, 0] rfl)
theorem mi_fill_nat (u : Nat → Nat) (n : Nat) : (fun j => if j < n then nI 0 else nI (u j)) = fun j => nI ((if j < n then 0 else u j)) := by
  funext j
  split <;> rfl
theorem fb_sm_0 {f : Nat → Nat} : ∀ {n : Nat}, (∀ k, k < n → f k = 0) → fb_sm f n = 0
  | 0, _ => rfl
  | n + 1, h => by rw [fb_sm_succ, fb_sm_0 (fun k hk => h k (by omega)), h n (by omega)]
set_option maxHeartbeats 4000000 in
set_option maxRecDepth 100000 in
theorem c_countPieces (l : Launch) (D : va_G) (A : Nat → Prop) {ad : Nat → Nat} {cf : Nat → Option va_E} {u v : Nat → Nat} {n : Nat} {K : Nat → Nat} {rS rK : Nat} {num : Int32} {par : Value} (hp : rx_pf D ad cf u v n) (hS0 : cf rS = some (.inr (4, [.int num, par, .ref (ad rK)]))) (hK0 : cf rK = some (mi_ai D 128 (fun j => nI (K j)))) (hn9 : rS ≠ 4 ∧ rS ≠ 5 ∧ rS ≠ 6 ∧ rK ≠ 4 ∧ rK ≠ 5 ∧ rK ≠ 6) (hKb : ∀ j, j < 128 → K j < 4) : mi_Mi l yX2_countPieces (Cond.code yX2_countPieces cX2_countPieces 6 (some Jvm.ClassFile.FieldType.int)) (mi_rm 5) D A (mi_W D A ad cf) [.ref (ad 4), .ref (ad rS)] 0 0 (fun r H => ∃ k1, r = nI k1 ∧ pc_ct (pc_lst K) 128 k1 ∧ ∃ cf1 u1 v1 n1, mi_W D A ad cf1 H ∧ rx_pf D ad cf1 u1 v1 n1 ∧ pf_fr cf cf1) := by
  refine mi_start (cc := cX2_countPieces) (nL := 6) (ret := (some Jvm.ClassFile.FieldType.int)) rfl (by decide) (Nat.le_of_ble_eq_true rfl) ?_
  intro p e s m below meth c ls S E hW hS hr hk hn hl
  have S : CallFix p m c cX2_countPieces 6 s _ ((Cond.code yX2_countPieces cX2_countPieces 6 (some Jvm.ClassFile.FieldType.int)) :: mi_G) RX2 := S
  have hl : lv_has ls 6 [(0, .ref (ad 4)), (1, .ref (ad rS))] := hl
  obtain ⟨hp4, hp5, hp6⟩ := id hp
  obtain ⟨ne1, ne2, ne3, ne4, ne5, ne6⟩ := id hn9
  refine lv_aload_n S.1 S.2.1 dX2_countPieces_0 rfl (lv_at hl 0 rfl) ?_
  refine fg_X2_9 S E hW 4 rfl hp4 rfl dX2_countPieces_1 ?_
  refine lv_iconst (v := nI 0) S.1 S.2.1 dX2_countPieces_4 (by decide) ?_
  refine mi_cMv (mi_runS (P := mi_W D A ad cf) (As := [.ref (ad 5), .int (nI (0))]) (rest := []) S E hS hW (c_fill l D A hp5 (v := 0) (by omega)) mw_450 mw_448 mw_449 mw_26 ⟨by decide, by decide, by decide +kernel⟩ ⟨rfl, rfl, Nat.le_of_ble_eq_true rfl, Nat.le_of_ble_eq_true rfl⟩ (n := 2) rfl hl.1 rfl (Nat.le_of_ble_eq_true rfl) dX2_countPieces_5 ⟨Nat.le_of_ble_eq_true rfl, Nat.le_of_ble_eq_true rfl⟩) hS (fun H locs hW hS hz => ?_)
  rw [mi_fill_nat] at hW
  obtain ⟨cf1, hcf1⟩ : ∃ z, z = va_up cf 5 (some (mi_ai D 128 (fun j => nI ((fun j => if j < 128 then 0 else u j) j)))) := ⟨_, rfl⟩
  have hW : mi_W D A ad cf1 H := by rw [hcf1]; exact hW
  have he1_0 : cf1 4 = some (.inr (3, [.ref (ad 5), .ref (ad 6), .int (nI (n))])) := by rw [hcf1]; exact (mi_up_n (by omega)).trans hp4
  have he1_1 : cf1 6 = some (mi_ai D 128 (fun j => nI (v j))) := by rw [hcf1]; exact (mi_up_n (by omega)).trans hp6
  have he1_2 : cf1 rS = some (.inr (4, [.int num, par, .ref (ad rK)])) := by rw [hcf1]; exact (mi_up_n (by omega)).trans hS0
  have he1_3 : cf1 rK = some (mi_ai D 128 (fun j => nI (K j))) := by rw [hcf1]; exact (mi_up_n (by omega)).trans hK0
  have he1_r : cf1 5 = some (mi_ai D 128 (fun j => nI ((fun j => if j < 128 then 0 else u j) j))) := by rw [hcf1]; exact mi_up_s
  refine lv_aload_n S.1 S.2.1 dX2_countPieces_8 rfl (lv_at hl 0 rfl) ?_
  refine lv_iconst (v := nI 0) S.1 S.2.1 dX2_countPieces_9 (by decide) ?_
  refine fp_X2_24 S E hS hW 4 rfl he1_0 (Nat.le_of_ble_eq_true rfl) dX2_countPieces_10 (fun H locs hW hS hz => ?_)
  obtain ⟨cf2, hcf2⟩ : ∃ z, z = va_up cf1 4 (some (.inr (3, [.ref (ad 5), .ref (ad 6), .int (nI (0))]))) := ⟨_, rfl⟩
  have hW : mi_W D A ad cf2 H := by rw [hcf2]; exact hW
  have he2_0 : cf2 6 = some (mi_ai D 128 (fun j => nI (v j))) := by rw [hcf2]; exact (mi_up_n (by omega)).trans he1_1
  have he2_1 : cf2 rS = some (.inr (4, [.int num, par, .ref (ad rK)])) := by rw [hcf2]; exact (mi_up_n (by omega)).trans he1_2
  have he2_2 : cf2 rK = some (mi_ai D 128 (fun j => nI (K j))) := by rw [hcf2]; exact (mi_up_n (by omega)).trans he1_3
  have he2_3 : cf2 5 = some (mi_ai D 128 (fun j => nI ((fun j => if j < 128 then 0 else u j) j))) := by rw [hcf2]; exact (mi_up_n (by omega)).trans he1_r
  have he2_r : cf2 4 = some (.inr (3, [.ref (ad 5), .ref (ad 6), .int (nI (0))])) := by rw [hcf2]; exact mi_up_s
  refine lv_iconst (v := nI 0) S.1 S.2.1 dX2_countPieces_13 (by decide) ?_
  refine lv_istore_n (lv' := [(2, .int (nI (0))), (0, .ref (ad 4)), (1, .ref (ad rS))]) S.1 S.2.1 dX2_countPieces_14 rfl hl (by decide) rfl (fun ls hl => ?_)
  refine lv_iconst (v := nI 0) S.1 S.2.1 dX2_countPieces_15 (by decide) ?_
  refine lv_istore_n (lv' := [(3, .int (nI (0))), (2, .int (nI (0))), (0, .ref (ad 4)), (1, .ref (ad rS))]) S.1 S.2.1 dX2_countPieces_16 rfl hl (by decide) rfl (fun ls hl => ?_)
  have lp17 : ∀ (n17 : Nat) (cfv : Nat → Option va_E) (mv : Nat → Nat) (qv : Nat → Nat) (nv : Nat) (k : Nat) (i : Nat) (H : Heap) (locs : List Loc) (ls : Array Slot), 16 - i < n17 → i ≤ 16 → rx_pf D ad cfv mv qv nv → pf_fr cf cfv → (∀ x, x < 128 → mv x ≤ 1) → fb_sm mv 128 = nv → pc_MK K (8 * i) mv → pc_ct (pc_lst K) (8 * i) k → mi_W D A ad cfv H → va_S A s.heap H locs → lv_has ls 6 [(0, .ref (ad 4)), (1, .ref (ad rS)), (2, .int (nI (k))), (3, .int (nI (i)))] → W p l e (mi_rm 5) s m ([.ref (ad 4), .ref (ad rS)] : List Value).toArray below meth c H locs 0 0 (MQ below (mi_Qi A (fun r H => ∃ k1, r = nI k1 ∧ pc_ct (pc_lst K) 128 k1 ∧ ∃ cf1 u1 v1 n1, mi_W D A ad cf1 H ∧ rx_pf D ad cf1 u1 v1 n1 ∧ pf_fr cf cf1)) ([.ref (ad 4), .ref (ad rS)] : List Value).toArray s 0 0 A) (F0 m 17 ls []) := by
    intro n17
    induction n17 with
    | zero => intro cfv mv qv nv k i H locs ls hm hi hpv hfv h1v h2v hMK hct hW hS hl; exact absurd hm (Nat.not_lt_zero _)
    | succ n17 ih17 =>
      intro cfv mv qv nv k i H locs ls hm hi hpv hfv h1v h2v hMK hct hW hS hl
      refine lv_iload_n S.1 S.2.1 dX2_countPieces_17 rfl (lv_at hl 3 rfl) ?_
      refine lv_bipush (v := nI 16) S.1 S.2.1 dX2_countPieces_18 (by decide) ?_
      refine mi_icmp_ge (tgt := 78) S (by omega) (by omega) dX2_countPieces_20 (by decide) (fun c20_2 => ?_) (fun c20_2 => ?_)
      · refine lv_iload_n S.1 S.2.1 dX2_countPieces_78 rfl (lv_at hl 2 rfl) ?_
        exact mi_retMi S hr hk hS dX2_countPieces_79 (Nat.le_refl _) (Nat.le_refl _) ⟨k, rfl, (by rw [show 128 = 8 * i by omega]; exact hct), cfv, mv, qv, nv, hW, hpv, hfv⟩
      · refine lv_iconst (v := nI 0) S.1 S.2.1 dX2_countPieces_23 (by decide) ?_
        refine lv_istore (lv' := [(4, .int (nI (0))), (0, .ref (ad 4)), (1, .ref (ad rS)), (2, .int (nI (k))), (3, .int (nI (i)))]) S.1 S.2.1 dX2_countPieces_24 hl (by decide) rfl (fun ls hl => ?_)
        have lp26 : ∀ (n26 : Nat) (cfv : Nat → Option va_E) (mv : Nat → Nat) (qv : Nat → Nat) (nv : Nat) (k : Nat) (j : Nat) (H : Heap) (locs : List Loc) (ls : Array Slot), 8 - j < n26 → j ≤ 8 → rx_pf D ad cfv mv qv nv → pf_fr cf cfv → (∀ x, x < 128 → mv x ≤ 1) → fb_sm mv 128 = nv → pc_MK K (8 * i + j) mv → pc_ct (pc_lst K) (8 * i + j) k → mi_W D A ad cfv H → va_S A s.heap H locs → lv_has ls 6 [(0, .ref (ad 4)), (1, .ref (ad rS)), (2, .int (nI (k))), (3, .int (nI (i))), (4, .int (nI (j)))] → W p l e (mi_rm 5) s m ([.ref (ad 4), .ref (ad rS)] : List Value).toArray below meth c H locs 0 0 (MQ below (mi_Qi A (fun r H => ∃ k1, r = nI k1 ∧ pc_ct (pc_lst K) 128 k1 ∧ ∃ cf1 u1 v1 n1, mi_W D A ad cf1 H ∧ rx_pf D ad cf1 u1 v1 n1 ∧ pf_fr cf cf1)) ([.ref (ad 4), .ref (ad rS)] : List Value).toArray s 0 0 A) (F0 m 26 ls []) := by
          intro n26
          induction n26 with
          | zero => intro cfv mv qv nv k j H locs ls hm hj hpv hfv h1v h2v hMK hct hW hS hl; exact absurd hm (Nat.not_lt_zero _)
          | succ n26 ih26 =>
            intro cfv mv qv nv k j H locs ls hm hj hpv hfv h1v h2v hMK hct hW hS hl
            refine lv_iload S.1 S.2.1 dX2_countPieces_26 (lv_at hl 4 rfl) ?_
            refine lv_bipush (v := nI 8) S.1 S.2.1 dX2_countPieces_28 (by decide) ?_
            refine mi_icmp_ge (tgt := 72) S (by omega) (by omega) dX2_countPieces_30 (by decide) (fun c30_3 => ?_) (fun c30_3 => ?_)
            · refine lv_iinc (v := nI (i + 1)) (lv' := [(3, .int (nI (i + 1))), (0, .ref (ad 4)), (1, .ref (ad rS)), (2, .int (nI (k))), (4, .int (nI (j)))]) S.1 S.2.1 dX2_countPieces_72 hl (k := 3) rfl (mi_inc _) (by decide) rfl (fun ls hl => ?_)
              refine lv_goto (tgt := 17) S.1 S.2.1 dX2_countPieces_75 (by decide) ?_
              exact ih17 cfv mv qv nv k (i + 1) _ _ _ (by omega) (by omega) (hpv) (hfv) (h1v) (h2v) (by rw [show 8 * (i + 1) = 8 * i + j by omega]; exact hMK) (by rw [show 8 * (i + 1) = 8 * i + j by omega]; exact hct) hW hS (lv_sub hl [1, 2, 3, 0] rfl)
            · have hnv : nv ≤ 128 := pc_I_le (pc_I_0 (K := K) (p := 0) (q := qv) h1v h2v)
              have hkl := pc_ct_le hct
              refine lv_aload_n S.1 S.2.1 dX2_countPieces_33 rfl (lv_at hl 0 rfl) ?_
              refine fg_X2_24 S E hW 4 rfl hpv.1 rfl dX2_countPieces_34 ?_
              refine lv_istore (lv' := [(5, .int (nI (nv))), (0, .ref (ad 4)), (1, .ref (ad rS)), (2, .int (nI (k))), (3, .int (nI (i))), (4, .int (nI (j)))]) S.1 S.2.1 dX2_countPieces_37 hl (by decide) rfl (fun ls hl => ?_)
              refine lv_aload_n S.1 S.2.1 dX2_countPieces_39 rfl (lv_at hl 1 rfl) ?_
              refine lv_aload_n S.1 S.2.1 dX2_countPieces_40 rfl (lv_at hl 2 rfl) ?_
              refine lv_iload_n S.1 S.2.1 dX2_countPieces_41 rfl (lv_at hl 4 rfl) ?_
              refine lv_iload S.1 S.2.1 dX2_countPieces_42 (lv_at hl 5 rfl) ?_
              refine mi_cMv (mi_runV (P := mi_W D A ad cfv) (As := [.ref (ad rS), .int (nI (i)), .int (nI (j))]) (rest := []) S E hS hW (ad 4) (c_reach l D A hpv ((hfv _ hn9.1 hn9.2.1 hn9.2.2.1).trans hS0) ((hfv _ hn9.2.2.2.1 hn9.2.2.2.2.1 hn9.2.2.2.2.2).trans hK0) hn9 hKb (root := 8 * i + j) (fst := nv) (m0 := mv) (pc_I_0 h1v h2v) (fun a1 b1 e1 e2 p1 p2 p3 => by obtain rfl := nI_eqd (by omega) (by omega) e1; obtain rfl := nI_eqd (by omega) (by omega) e2; exact pc_rf)) (hW.recv E hpv.1 rfl) mw_454 mw_451 mw_453 mw_8 mw_22 ⟨by decide, by decide, by decide +kernel⟩ ⟨rfl, rfl, Nat.le_of_ble_eq_true rfl, Nat.le_of_ble_eq_true rfl⟩ (n := 3) rfl hl.1 rfl (Nat.le_of_ble_eq_true rfl) dX2_countPieces_44 ⟨Nat.le_of_ble_eq_true rfl, Nat.le_of_ble_eq_true rfl⟩) hS (fun H locs hp9 hS hz => ?_)
              obtain ⟨cf5, m5, q5, n5, hW, hp5, hf5, hI5, hM5, hk5, hs5, hn5⟩ := hp9
              have hb9 := pc_I_le hI5
              have hb8 := hM5.1
              refine lv_aload_n S.1 S.2.1 dX2_countPieces_47 rfl (lv_at hl 1 rfl) ?_
              refine fg_X2_24 S E hW 4 rfl hp5.1 rfl dX2_countPieces_48 ?_
              refine lv_iload S.1 S.2.1 dX2_countPieces_51 (lv_at hl 0 rfl) ?_
              refine mi_icmp_le (tgt := 66) S (by omega) (by omega) dX2_countPieces_53 (by decide) (fun c53_5 => ?_) (fun c53_5 => ?_)
              · refine lv_iinc (v := nI (j + 1)) (lv' := [(4, .int (nI (j + 1))), (5, .int (nI (nv))), (0, .ref (ad 4)), (1, .ref (ad rS)), (2, .int (nI (k))), (3, .int (nI (i)))]) S.1 S.2.1 dX2_countPieces_66 hl (k := 5) rfl (mi_inc _) (by decide) rfl (fun ls hl => ?_)
                refine lv_goto (tgt := 26) S.1 S.2.1 dX2_countPieces_69 (by decide) ?_
                exact ih26 cf5 m5 q5 n5 k (j + 1) _ _ _ (by omega) (by omega) (hp5) (hfv.tr hf5) (hI5.1) (hI5.2.1) ((by rw [show 8 * i + (j + 1) = (8 * i + j) + 1 by omega, hs5 (by omega)]; exact pc_MK_n hMK (by omega) (fun q => by have q2 := hk5 i j rfl rfl (by omega) (by omega) q; rw [hs5 (by omega)] at q2; exact q2))) ((by rw [show 8 * i + (j + 1) = (8 * i + j) + 1 by omega]; exact pc_ct_n hct (fun z => by have z2 := (pc_MK_lst hMK (by omega)).mp z; have q2 := hk5 i j rfl rfl (by omega) (by omega) z2.1; rw [hs5 (by omega)] at q2; exact q2 z2.2))) hW hS (lv_sub hl [2, 3, 4, 5, 0] rfl)
              · refine lv_iinc (v := nI (k + 1)) (lv' := [(2, .int (nI (k + 1))), (5, .int (nI (nv))), (0, .ref (ad 4)), (1, .ref (ad rS)), (3, .int (nI (i))), (4, .int (nI (j)))]) S.1 S.2.1 dX2_countPieces_56 hl (k := 3) rfl (mi_inc _) (by decide) rfl (fun ls hl => ?_)
                refine lv_aload_n S.1 S.2.1 dX2_countPieces_59 rfl (lv_at hl 2 rfl) ?_
                refine lv_aload_n S.1 S.2.1 dX2_countPieces_60 rfl (lv_at hl 3 rfl) ?_
                refine lv_iload S.1 S.2.1 dX2_countPieces_61 (lv_at hl 1 rfl) ?_
                refine mi_cMv (mi_runV (P := mi_W D A ad cf5) (As := [.ref (ad rS), .int (nI (nv))]) (rest := []) S E hS hW (ad 4) (c_reachRest l D A hp5 ((hf5 _ hn9.1 hn9.2.1 hn9.2.2.1).trans ((hfv _ hn9.1 hn9.2.1 hn9.2.2.1).trans hS0)) ((hf5 _ hn9.2.2.2.1 hn9.2.2.2.2.1 hn9.2.2.2.2.2).trans ((hfv _ hn9.2.2.2.1 hn9.2.2.2.2.1 hn9.2.2.2.2.2).trans hK0)) hn9 hKb hI5 (by omega)) (hW.recv E hp5.1 rfl) mw_464 mw_461 mw_463 mw_9 mw_22 ⟨by decide, by decide, by decide +kernel⟩ ⟨rfl, rfl, Nat.le_of_ble_eq_true rfl, Nat.le_of_ble_eq_true rfl⟩ (n := 2) rfl hl.1 rfl (Nat.le_of_ble_eq_true rfl) dX2_countPieces_63 ⟨Nat.le_of_ble_eq_true rfl, Nat.le_of_ble_eq_true rfl⟩) hS (fun H locs hp9 hS hz => ?_)
                obtain ⟨cf7, m7, q7, n7, hW, hp7, hf7, hI7, hM7, hd7⟩ := hp9
                have hlst := hn5 (by omega) i j rfl rfl (by omega) (by omega)
                have hmk := hM7.2.2 _ (hk5 i j rfl rfl (by omega) (by omega) hlst.2)
                refine lv_iinc (v := nI (j + 1)) (lv' := [(4, .int (nI (j + 1))), (2, .int (nI (k + 1))), (5, .int (nI (nv))), (0, .ref (ad 4)), (1, .ref (ad rS)), (3, .int (nI (i)))]) S.1 S.2.1 dX2_countPieces_66 hl (k := 5) rfl (mi_inc _) (by decide) rfl (fun ls hl => ?_)
                refine lv_goto (tgt := 26) S.1 S.2.1 dX2_countPieces_69 (by decide) ?_
                exact ih26 cf7 m7 q7 n7 (k + 1) (j + 1) _ _ _ (by omega) (by omega) (hp7) ((hfv.tr hf5).tr hf7) (hI7.1) (hI7.2.1) ((by rw [show 8 * i + (j + 1) = (8 * i + j) + 1 by omega]; exact pc_MK_y hMK (by omega) hlst.2 hlst.1 hI7 hmk hd7)) ((by rw [show 8 * i + (j + 1) = (8 * i + j) + 1 by omega]; exact pc_ct_y hct ((pc_MK_lst hMK (by omega)).mpr ⟨hlst.2, hlst.1⟩))) hW hS (lv_sub hl [3, 4, 1, 5, 0] rfl)
        exact lp26 _ cfv mv qv nv k 0 _ _ _ (Nat.lt_succ_self _) (by omega) (hpv) (hfv) (h1v) (h2v) (hMK) (hct) hW hS (lv_sub hl [1, 2, 3, 4, 0] rfl)
  exact lp17 _ cf2 ((fun j => if j < 128 then 0 else u j)) v 0 0 0 _ _ _ (Nat.lt_succ_self _) (by omega) (⟨he2_r, he2_3, he2_0⟩) (fun k k4 k5 k6 => by rw [hcf2, mi_up_n (by omega), hcf1, mi_up_n (by omega)]) (fun x hx => by show (if x < 128 then 0 else u x) ≤ 1; rw [if_pos hx]; omega) (fb_sm_0 (fun k hk => if_pos hk)) (fun x hx => ⟨fun h => absurd (if_pos hx) h, fun ⟨p9, h, _⟩ => absurd h (by omega)⟩) (pc_ct_0 _) hW hS (lv_sub hl [2, 3, 1, 0] rfl)
set_option maxHeartbeats 4000000 in
set_option maxRecDepth 100000 in
theorem c_pieces (l : Launch) (D : va_G) (A : Nat → Prop) {ad : Nat → Nat} {cf : Nat → Option va_E} {S0 : sT} (hX : RepX D S0 ad cf) (hO : st_ok S0) {k : Nat} (hct : pc_ct (pc_lst (sK S0 (sW S0))) 128 k) : mi_Mi l yX4_pieces (Cond.code yX4_pieces cX4_pieces 1 (some Jvm.ClassFile.FieldType.int)) (mi_rm 6) D A (mi_W D A ad cf) [.ref (ad 0)] 0 0 (fun r H => r = nI (k) ∧ rx_P D A (S0) ad cf H) := by
  refine mi_start (cc := cX4_pieces) (nL := 1) (ret := (some Jvm.ClassFile.FieldType.int)) rfl (by decide) (Nat.le_of_ble_eq_true rfl) ?_
  intro p e s m below meth c ls S E hW hS hr hk hn hl
  have S : CallFix p m c cX4_pieces 1 s _ ((Cond.code yX4_pieces cX4_pieces 1 (some Jvm.ClassFile.FieldType.int)) :: mi_G) RX4 := S
  have hl : lv_has ls 1 [(0, .ref (ad 0))] := hl
  obtain ⟨⟨o1, o2, o3, o4, o5⟩, oP, oK, oD, oX, oC, oI⟩ := id hO
  obtain ⟨x0, x1, x2, x3, ⟨pm, pq, pn, xp⟩, xs, ⟨co, hrr, grr, xd, xc⟩, x9⟩ := id hX
  have hx0 := x0
  unfold rx_ob at hx0
  obtain ⟨hsn, hkn⟩ := xs (sW S0) o3
  have hKb : ∀ j, j < 128 → sK S0 (sW S0) j < 4 := fun j hj => oK _ _ o3 hj
  refine lv_aload_n S.1 S.2.1 dX4_pieces_0 rfl (lv_at hl 0 rfl) ?_
  refine fg_X4_25 S E hW 0 rfl hx0 rfl dX4_pieces_1 ?_
  refine lv_aload_n S.1 S.2.1 dX4_pieces_4 rfl (lv_at hl 0 rfl) ?_
  refine fg_X4_34 S E hW 0 rfl hx0 rfl dX4_pieces_5 ?_
  refine mi_cMi (mi_runV (P := mi_W D A ad cf) (As := [.ref (ad (100 + 2 * sW S0))]) (rest := []) S E hS hW (ad 4) (c_countPieces l D A xp hsn hkn ⟨by omega, by omega, by omega, by omega, by omega, by omega⟩ hKb) (hW.recv E xp.1 rfl) mw_447 mw_444 mw_445 mw_446 mw_22 ⟨by decide, by decide, by decide +kernel⟩ ⟨rfl, rfl, Nat.le_of_ble_eq_true rfl, Nat.le_of_ble_eq_true rfl⟩ (n := 1) rfl hl.1 rfl (Nat.le_of_ble_eq_true rfl) dX4_pieces_8 ⟨Nat.le_of_ble_eq_true rfl, Nat.le_of_ble_eq_true rfl⟩) hS (fun r9 H locs hp9 hS hz => ?_)
  obtain ⟨k9, e9, hk9, cf1, u1, v1, n1, hW, hp1, hf1⟩ := hp9
  rw [pc_ct_fun hk9 hct] at e9
  subst e9
  exact mi_retMi S hr hk hS dX4_pieces_11 (Nat.le_refl _) (Nat.le_refl _) ⟨rfl, ad, cf1, hW, RepX.pf hO hX hf1 hp1, fun k hk => ⟨hf1 k (by omega) (by omega) (by omega), rfl⟩, rfl⟩
