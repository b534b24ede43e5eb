/-! the finder of pieces -/
def pf_fr (cf cf1 : Nat → Option va_E) : Prop := ∀ k, k ≠ 4 → k ≠ 5 → k ≠ 6 → cf1 k = cf k
theorem pf_fr.rf {cf : Nat → Option va_E} : pf_fr cf cf := fun _ _ _ _ => rfl
theorem pf_fr.tr {cf cf1 cf2 : Nat → Option va_E} (h : pf_fr cf cf1) (h' : pf_fr cf1 cf2) : pf_fr cf cf2 := fun k a b d => (h' k a b d).trans (h k a b d)
theorem nI_sub_eq {a b d : Nat} (ha : a < 2 ^ 30) (hb : b < 2 ^ 30) (hd : d < 2 ^ 30) (h : nI a - nI b = nI d) : a = b + d := by
  have h1 := congrArg Int32.toInt h
  rw [pk_sub_toInt ha hb, nI_toInt (by omega)] at h1
  omega
theorem nI_eqd {a b : Nat} (ha : a < 2 ^ 30) (hb : b < 2 ^ 30) (h : nI a = nI b) : a = b := (nI_eq (by omega) (by omega)).mp h
/-- a place beside one of the piece is of the piece -/
theorem pc_by {K : Nat → Nat} {root a b a' b' : Nat} (hr : pc_c K root (8 * a + b)) (hk : K (8 * a + b) ≠ 0) (ha : a < 16) (hb : b < 8) (ha' : a' < 16) (hb' : b' < 8) (hk' : K (8 * a' + b') ≠ 0) (h : (a' = a ∧ (b' + 1 = b ∨ b' = b + 1)) ∨ (b' = b ∧ (a' + 4 = a ∨ a' = a + 4 ∨ (a' + 1 = a ∧ 0 < a % 4) ∨ (a' = a + 1 ∧ a % 4 < 3)))) : pc_c K root (8 * a' + b') := by
  refine pc_st hr ⟨hk, hk', by omega, by omega, ?_⟩
  unfold pc_e
  omega
/-- what reach does, told of its two numbers -/
def pf_R (D : va_G) (A : Nat → Prop) (ad : Nat → Nat) (cf : Nat → Option va_E) (K : Nat → Nat) (root : Nat) (m0 : Nat → Nat) (fst : Nat) (u v : Nat → Nat) (n : Nat) (x y : Int32) (H : Heap) : Prop :=
  ∃ cf1 u1 v1 n1, mi_W D A ad cf1 H ∧ rx_pf D ad cf1 u1 v1 n1 ∧ pf_fr cf cf1 ∧ pc_I K root m0 fst u1 v1 n1 ∧ pc_M u v n u1 v1 n1 ∧ (∀ a b, x = nI a → y = nI b → a < 16 → b < 8 → K (8 * a + b) ≠ 0 → u1 (8 * a + b) ≠ 0) ∧ (n1 = n → u1 = u) ∧ (n1 ≠ n → ∀ a b, x = nI a → y = nI b → a < 16 → b < 8 → u (8 * a + b) = 0 ∧ K (8 * a + b) ≠ 0)
set_option maxHeartbeats 4000000 in
set_option maxRecDepth 100000 in
theorem c_reach_in (l : Launch) (D : va_G) (A : Nat → Prop) {ad : Nat → Nat} {cf : Nat → Option va_E} {u v : Nat → Nat} {n : Nat} {K : Nat → Nat} {rS rK : Nat} {num : Int32} {par : Value} (hp : rx_pf D ad cf u v n) (hS0 : cf rS = some (.inr (4, [.int num, par, .ref (ad rK)]))) (hK0 : cf rK = some (mi_ai D 128 (fun j => nI (K j)))) (hn9 : rS ≠ 4 ∧ rS ≠ 5 ∧ rS ≠ 6 ∧ rK ≠ 4 ∧ rK ≠ 5 ∧ rK ≠ 6) (hKb : ∀ j, j < 128 → K j < 4) {root fst : Nat} {m0 : Nat → Nat} (hI : pc_I K root m0 fst u v n) {a b : Nat} (ha : a < 16) (hb : b < 8) (hcon : ∀ a1 b1, nI a = nI a1 → nI b = nI b1 → a1 < 16 → b1 < 8 → K (8 * a1 + b1) ≠ 0 → pc_c K root (8 * a1 + b1)) : mi_Mv l yX2_reach (Cond.code yX2_reach cX2_reach 5 none) (mi_rm 2) D A (mi_W D A ad cf) [.ref (ad 4), .ref (ad rS), .int (nI (a)), .int (nI (b))] 0 0 (pf_R D A ad cf K root m0 fst u v n (nI a) (nI b)) := by
  refine mi_start (cc := cX2_reach) (nL := 5) (ret := none) rfl (by decide) (Nat.le_of_ble_eq_true rfl) ?_
  intro p e s m below meth c ls S E hW hS hr hk hn hl
  have S : CallFix p m c cX2_reach 5 s _ ((Cond.code yX2_reach cX2_reach 5 none) :: mi_G) RX2 := S
  have hl : lv_has ls 5 [(0, .ref (ad 4)), (1, .ref (ad rS)), (2, .int (nI (a))), (3, .int (nI (b)))] := hl
  obtain ⟨hp4, hp5, hp6⟩ := id hp
  obtain ⟨ne1, ne2, ne3, ne4, ne5, ne6⟩ := id hn9
  refine lv_iload_n S.1 S.2.1 dX2_reach_0 rfl (lv_at hl 2 rfl) ?_
  refine mi_cR (mi_runN (P := mi_W D A ad cf) (As := [.int (nI (a))]) (rest := []) S E hS hW (c_X4_isColumn_in l D A (mi_W D A ad cf) ha) (by decide) mw_205 mw_204 mw_18 ⟨by decide, by decide, by decide +kernel⟩ ⟨rfl, rfl, Nat.le_of_ble_eq_true rfl, Nat.le_of_ble_eq_true rfl⟩ (n := 1) rfl hl.1 rfl (Nat.le_of_ble_eq_true rfl) dX2_reach_1 ⟨Nat.le_of_ble_eq_true rfl, Nat.le_of_ble_eq_true rfl⟩) (fun r9 e9 => ?_)
  subst e9
  refine mi_if_eq (tgt := 23) S (by omega) dX2_reach_4 (by decide) (fun c4_0 => by exfalso; omega) (fun c4_0 => ?_)
  refine lv_iload_n S.1 S.2.1 dX2_reach_7 rfl (lv_at hl 3 rfl) ?_
  refine mi_cR (mi_runN (P := mi_W D A ad cf) (As := [.int (nI (b))]) (rest := []) S E hS hW (c_X4_isLevel_in l D A (mi_W D A ad cf) hb) (by decide) mw_279 mw_278 mw_18 ⟨by decide, by decide, by decide +kernel⟩ ⟨rfl, rfl, Nat.le_of_ble_eq_true rfl, Nat.le_of_ble_eq_true rfl⟩ (n := 1) rfl hl.1 rfl (Nat.le_of_ble_eq_true rfl) dX2_reach_8 ⟨Nat.le_of_ble_eq_true rfl, Nat.le_of_ble_eq_true rfl⟩) (fun r9 e9 => ?_)
  subst e9
  refine mi_if_eq (tgt := 23) S (by omega) dX2_reach_11 (by decide) (fun c11_1 => by exfalso; omega) (fun c11_1 => ?_)
  refine lv_aload_n S.1 S.2.1 dX2_reach_14 rfl (lv_at hl 1 rfl) ?_
  refine lv_iload_n S.1 S.2.1 dX2_reach_15 rfl (lv_at hl 2 rfl) ?_
  refine lv_iload_n S.1 S.2.1 dX2_reach_16 rfl (lv_at hl 3 rfl) ?_
  refine mi_cR (mi_runV (P := mi_W D A ad cf) (As := [.int (nI (a)), .int (nI (b))]) (rest := []) S E hS hW (ad rS) (c_X3_kindAt l D A hS0 hK0 (by omega) (by omega)) (hW.recv E hS0 rfl) mw_460 mw_457 mw_458 mw_459 mw_23 ⟨by decide, by decide, by decide +kernel⟩ ⟨rfl, rfl, Nat.le_of_ble_eq_true rfl, Nat.le_of_ble_eq_true rfl⟩ (n := 2) rfl hl.1 rfl (Nat.le_of_ble_eq_true rfl) dX2_reach_17 ⟨Nat.le_of_ble_eq_true rfl, Nat.le_of_ble_eq_true rfl⟩) (fun r9 e9 => ?_)
  subst e9
  have hkb := hKb (8 * a + b) (by omega)
  refine mi_if_ne (tgt := 24) S (by omega) dX2_reach_20 (by decide) (fun c20_2 => ?_) (fun c20_2 => ?_)
  · refine lv_iload_n S.1 S.2.1 dX2_reach_24 rfl (lv_at hl 2 rfl) ?_
    refine lv_bipush (v := nI 8) S.1 S.2.1 dX2_reach_25 (by decide) ?_
    refine mi_imul S dX2_reach_27 ?_
    refine lv_iload_n S.1 S.2.1 dX2_reach_28 rfl (lv_at hl 3 rfl) ?_
    refine mi_iadd S dX2_reach_29 ?_
    refine mi_top (v' := .int (nI (8 * a + b))) (by rw [Nat.mul_comm a 8]) ?_
    refine lv_istore (lv' := [(4, .int (nI (8 * a + b))), (0, .ref (ad 4)), (1, .ref (ad rS)), (2, .int (nI (a))), (3, .int (nI (b)))]) S.1 S.2.1 dX2_reach_30 hl (by decide) rfl (fun ls hl => ?_)
    refine lv_aload_n S.1 S.2.1 dX2_reach_32 rfl (lv_at hl 1 rfl) ?_
    refine fg_X2_9 S E hW 4 rfl hp4 rfl dX2_reach_33 ?_
    refine lv_iload S.1 S.2.1 dX2_reach_36 (lv_at hl 0 rfl) ?_
    refine mi_iald S E hW 5 rfl hp5 (by omega) (by omega) dX2_reach_38 ?_
    have hub := hI.1 (8 * a + b) (by omega)
    refine mi_if_ne (tgt := 81) S (by omega) dX2_reach_39 (by decide) (fun c39_3 => ?_) (fun c39_3 => ?_)
    · exact mi_retMv S hr hk hS dX2_reach_81 (Nat.le_refl _) (Nat.le_refl _) ⟨cf, u, v, n, hW, hp, pf_fr.rf, hI, pc_M_rf, fun a1 b1 e1 e2 q1 q2 q3 => (by obtain rfl := nI_eqd (by omega) (by omega) e1; obtain rfl := nI_eqd (by omega) (by omega) e2; omega), fun _ => rfl, fun h => absurd rfl h⟩
    · refine lv_aload_n S.1 S.2.1 dX2_reach_42 rfl (lv_at hl 1 rfl) ?_
      refine fg_X2_24 S E hW 4 rfl hp4 rfl dX2_reach_43 ?_
      refine lv_sipush (v := nI 128) S.1 S.2.1 dX2_reach_46 (by decide) ?_
      have hroom := pc_I_room hI (pl := 8 * a + b) (by omega) (by omega)
      refine mi_icmp_ge (tgt := 81) S (by omega) (by omega) dX2_reach_49 (by decide) (fun c49_4 => by exfalso; omega) (fun c49_4 => ?_)
      refine lv_aload_n S.1 S.2.1 dX2_reach_52 rfl (lv_at hl 1 rfl) ?_
      refine fg_X2_9 S E hW 4 rfl hp4 rfl dX2_reach_53 ?_
      refine lv_iload S.1 S.2.1 dX2_reach_56 (lv_at hl 0 rfl) ?_
      refine lv_iconst (v := nI 1) S.1 S.2.1 dX2_reach_58 (by decide) ?_
      refine mi_iast S E hS hW 5 rfl hp5 (by omega) (by omega) dX2_reach_59 (fun H locs hW hS hz => ?_)
      obtain ⟨cf6, hcf6⟩ : ∃ z, z = va_up cf 5 (some (mi_ai D 128 (fun j => nI ((mi_un u (8 * a + b) 1) j)))) := ⟨_, rfl⟩
      have hW : mi_W D A ad cf6 H := by rw [hcf6]; rw [← mi_un_upd]; exact hW
      have he6_0 : cf6 4 = some (.inr (3, [.ref (ad 5), .ref (ad 6), .int (nI (n))])) := by rw [hcf6]; exact (mi_up_n (by omega)).trans hp4
      have he6_1 : cf6 6 = some (mi_ai D 128 (fun j => nI (v j))) := by rw [hcf6]; exact (mi_up_n (by omega)).trans hp6
      have he6_2 : cf6 rS = some (.inr (4, [.int num, par, .ref (ad rK)])) := by rw [hcf6]; exact (mi_up_n (by omega)).trans hS0
      have he6_3 : cf6 rK = some (mi_ai D 128 (fun j => nI (K j))) := by rw [hcf6]; exact (mi_up_n (by omega)).trans hK0
      have he6_r : cf6 5 = some (mi_ai D 128 (fun j => nI ((mi_un u (8 * a + b) 1) j))) := by rw [hcf6]; exact mi_up_s
      refine lv_aload_n S.1 S.2.1 dX2_reach_60 rfl (lv_at hl 1 rfl) ?_
      refine fg_X2_15 S E hW 4 rfl he6_0 rfl dX2_reach_61 ?_
      refine lv_aload_n S.1 S.2.1 dX2_reach_64 rfl (lv_at hl 1 rfl) ?_
      refine fg_X2_24 S E hW 4 rfl he6_0 rfl dX2_reach_65 ?_
      refine lv_iload S.1 S.2.1 dX2_reach_68 (lv_at hl 0 rfl) ?_
      refine mi_iast S E hS hW 6 rfl he6_1 (by omega) (by omega) dX2_reach_70 (fun H locs hW hS hz => ?_)
      obtain ⟨cf7, hcf7⟩ : ∃ z, z = va_up cf6 6 (some (mi_ai D 128 (fun j => nI ((mi_un v n (8 * a + b)) j)))) := ⟨_, rfl⟩
      have hW : mi_W D A ad cf7 H := by rw [hcf7]; rw [← mi_un_upd]; exact hW
      have he7_0 : cf7 4 = some (.inr (3, [.ref (ad 5), .ref (ad 6), .int (nI (n))])) := by rw [hcf7]; exact (mi_up_n (by omega)).trans he6_0
      have he7_1 : cf7 rS = some (.inr (4, [.int num, par, .ref (ad rK)])) := by rw [hcf7]; exact (mi_up_n (by omega)).trans he6_2
      have he7_2 : cf7 rK = some (mi_ai D 128 (fun j => nI (K j))) := by rw [hcf7]; exact (mi_up_n (by omega)).trans he6_3
      have he7_3 : cf7 5 = some (mi_ai D 128 (fun j => nI ((mi_un u (8 * a + b) 1) j))) := by rw [hcf7]; exact (mi_up_n (by omega)).trans he6_r
      have he7_r : cf7 6 = some (mi_ai D 128 (fun j => nI ((mi_un v n (8 * a + b)) j))) := by rw [hcf7]; exact mi_up_s
      refine lv_aload_n S.1 S.2.1 dX2_reach_71 rfl (lv_at hl 1 rfl) ?_
      refine lv_dup S.1 S.2.1 dX2_reach_72 rfl ?_
      refine fg_X2_24 S E hW 4 rfl he7_0 rfl dX2_reach_73 ?_
      refine lv_iconst (v := nI 1) S.1 S.2.1 dX2_reach_76 (by decide) ?_
      refine mi_iadd S dX2_reach_77 ?_
      refine fp_X2_24 S E hS hW 4 rfl he7_0 (Nat.le_of_ble_eq_true rfl) dX2_reach_78 (fun H locs hW hS hz => ?_)
      obtain ⟨cf8, hcf8⟩ : ∃ z, z = va_up cf7 4 (some (.inr (3, [.ref (ad 5), .ref (ad 6), .int (nI (n + 1))]))) := ⟨_, rfl⟩
      have hW : mi_W D A ad cf8 H := by rw [hcf8]; exact hW
      have he8_0 : cf8 rS = some (.inr (4, [.int num, par, .ref (ad rK)])) := by rw [hcf8]; exact (mi_up_n (by omega)).trans he7_1
      have he8_1 : cf8 rK = some (mi_ai D 128 (fun j => nI (K j))) := by rw [hcf8]; exact (mi_up_n (by omega)).trans he7_2
      have he8_2 : cf8 5 = some (mi_ai D 128 (fun j => nI ((mi_un u (8 * a + b) 1) j))) := by rw [hcf8]; exact (mi_up_n (by omega)).trans he7_3
      have he8_3 : cf8 6 = some (mi_ai D 128 (fun j => nI ((mi_un v n (8 * a + b)) j))) := by rw [hcf8]; exact (mi_up_n (by omega)).trans he7_r
      have he8_r : cf8 4 = some (.inr (3, [.ref (ad 5), .ref (ad 6), .int (nI (n + 1))])) := by rw [hcf8]; exact mi_up_s
      exact mi_retMv S hr hk hS dX2_reach_81 (Nat.le_refl _) (Nat.le_refl _) ⟨cf8, _, _, _, hW, ⟨he8_r, he8_2, he8_3⟩, fun k k4 k5 k6 => by rw [hcf8, mi_up_n (by omega), hcf7, mi_up_n (by omega), hcf6, mi_up_n (by omega)], pc_I_put hI (by omega) (by omega) (by omega) (hcon a b rfl rfl ha hb (by omega)), pc_M_put (K := K), fun a1 b1 e1 e2 q1 q2 q3 => (by obtain rfl := nI_eqd (by omega) (by omega) e1; obtain rfl := nI_eqd (by omega) (by omega) e2; rw [mi_un_s]; omega), fun h => absurd h (by omega), fun _ a1 b1 e1 e2 q1 q2 => (by obtain rfl := nI_eqd (by omega) (by omega) e1; obtain rfl := nI_eqd (by omega) (by omega) e2; omega)⟩
  · exact mi_retMv S hr hk hS dX2_reach_23 (Nat.le_refl _) (Nat.le_refl _) ⟨cf, u, v, n, hW, hp, pf_fr.rf, hI, pc_M_rf, fun a1 b1 e1 e2 q1 q2 q3 => (by obtain rfl := nI_eqd (by omega) (by omega) e1; obtain rfl := nI_eqd (by omega) (by omega) e2; omega), fun _ => rfl, fun h => absurd rfl h⟩
set_option maxHeartbeats 4000000 in
set_option maxRecDepth 100000 in
theorem c_reach_o1 (l : Launch) (D : va_G) (A : Nat → Prop) {ad : Nat → Nat} {cf : Nat → Option va_E} {u v : Nat → Nat} {n : Nat} {K : Nat → Nat} {rS rK : Nat} {num : Int32} {par : Value} (hp : rx_pf D ad cf u v n) (hS0 : cf rS = some (.inr (4, [.int num, par, .ref (ad rK)]))) (hK0 : cf rK = some (mi_ai D 128 (fun j => nI (K j)))) (hn9 : rS ≠ 4 ∧ rS ≠ 5 ∧ rS ≠ 6 ∧ rK ≠ 4 ∧ rK ≠ 5 ∧ rK ≠ 6) (hKb : ∀ j, j < 128 → K j < 4) {root fst : Nat} {m0 : Nat → Nat} (hI : pc_I K root m0 fst u v n) {x y : Int32} (hx : ¬ (0 ≤ x.toInt ∧ x.toInt < 16)) : mi_Mv l yX2_reach (Cond.code yX2_reach cX2_reach 5 none) (mi_rm 2) D A (mi_W D A ad cf) [.ref (ad 4), .ref (ad rS), .int (x), .int (y)] 0 0 (pf_R D A ad cf K root m0 fst u v n (x) (y)) := by
  refine mi_start (cc := cX2_reach) (nL := 5) (ret := none) rfl (by decide) (Nat.le_of_ble_eq_true rfl) ?_
  intro p e s m below meth c ls S E hW hS hr hk hn hl
  have S : CallFix p m c cX2_reach 5 s _ ((Cond.code yX2_reach cX2_reach 5 none) :: mi_G) RX2 := S
  have hl : lv_has ls 5 [(0, .ref (ad 4)), (1, .ref (ad rS)), (2, .int (x)), (3, .int (y))] := hl
  obtain ⟨hp4, hp5, hp6⟩ := id hp
  obtain ⟨ne1, ne2, ne3, ne4, ne5, ne6⟩ := id hn9
  refine lv_iload_n S.1 S.2.1 dX2_reach_0 rfl (lv_at hl 2 rfl) ?_
  refine mi_cR (mi_runN (P := mi_W D A ad cf) (As := [.int (x)]) (rest := []) S E hS hW (c_X4_isColumn_no l D A (mi_W D A ad cf) hx) (by decide) mw_205 mw_204 mw_18 ⟨by decide, by decide, by decide +kernel⟩ ⟨rfl, rfl, Nat.le_of_ble_eq_true rfl, Nat.le_of_ble_eq_true rfl⟩ (n := 1) rfl hl.1 rfl (Nat.le_of_ble_eq_true rfl) dX2_reach_1 ⟨Nat.le_of_ble_eq_true rfl, Nat.le_of_ble_eq_true rfl⟩) (fun r9 e9 => ?_)
  subst e9
  refine mi_if_eq (tgt := 23) S (by omega) dX2_reach_4 (by decide) (fun c4_0 => ?_) (fun c4_0 => by exfalso; omega)
  exact mi_retMv S hr hk hS dX2_reach_23 (Nat.le_refl _) (Nat.le_refl _) (⟨cf, u, v, n, hW, hp, pf_fr.rf, hI, pc_M_rf, fun a1 b1 e1 e2 q1 q2 => absurd hx (by have h7 := nI_toInt (n := a1) (by omega); rw [e1, h7]; omega), fun _ => rfl, fun h => absurd rfl h⟩)
set_option maxHeartbeats 4000000 in
set_option maxRecDepth 100000 in
theorem c_reach_o2 (l : Launch) (D : va_G) (A : Nat → Prop) {ad : Nat → Nat} {cf : Nat → Option va_E} {u v : Nat → Nat} {n : Nat} {K : Nat → Nat} {rS rK : Nat} {num : Int32} {par : Value} (hp : rx_pf D ad cf u v n) (hS0 : cf rS = some (.inr (4, [.int num, par, .ref (ad rK)]))) (hK0 : cf rK = some (mi_ai D 128 (fun j => nI (K j)))) (hn9 : rS ≠ 4 ∧ rS ≠ 5 ∧ rS ≠ 6 ∧ rK ≠ 4 ∧ rK ≠ 5 ∧ rK ≠ 6) (hKb : ∀ j, j < 128 → K j < 4) {root fst : Nat} {m0 : Nat → Nat} (hI : pc_I K root m0 fst u v n) {a : Nat} (ha : a < 16) {y : Int32} (hy : ¬ (0 ≤ y.toInt ∧ y.toInt < 8)) : mi_Mv l yX2_reach (Cond.code yX2_reach cX2_reach 5 none) (mi_rm 2) D A (mi_W D A ad cf) [.ref (ad 4), .ref (ad rS), .int (nI (a)), .int (y)] 0 0 (pf_R D A ad cf K root m0 fst u v n (nI a) (y)) := by
  refine mi_start (cc := cX2_reach) (nL := 5) (ret := none) rfl (by decide) (Nat.le_of_ble_eq_true rfl) ?_
  intro p e s m below meth c ls S E hW hS hr hk hn hl
  have S : CallFix p m c cX2_reach 5 s _ ((Cond.code yX2_reach cX2_reach 5 none) :: mi_G) RX2 := S
  have hl : lv_has ls 5 [(0, .ref (ad 4)), (1, .ref (ad rS)), (2, .int (nI (a))), (3, .int (y))] := hl
  obtain ⟨hp4, hp5, hp6⟩ := id hp
  obtain ⟨ne1, ne2, ne3, ne4, ne5, ne6⟩ := id hn9
  refine lv_iload_n S.1 S.2.1 dX2_reach_0 rfl (lv_at hl 2 rfl) ?_
  refine mi_cR (mi_runN (P := mi_W D A ad cf) (As := [.int (nI (a))]) (rest := []) S E hS hW (c_X4_isColumn_in l D A (mi_W D A ad cf) ha) (by decide) mw_205 mw_204 mw_18 ⟨by decide, by decide, by decide +kernel⟩ ⟨rfl, rfl, Nat.le_of_ble_eq_true rfl, Nat.le_of_ble_eq_true rfl⟩ (n := 1) rfl hl.1 rfl (Nat.le_of_ble_eq_true rfl) dX2_reach_1 ⟨Nat.le_of_ble_eq_true rfl, Nat.le_of_ble_eq_true rfl⟩) (fun r9 e9 => ?_)
  subst e9
  refine mi_if_eq (tgt := 23) S (by omega) dX2_reach_4 (by decide) (fun c4_0 => by exfalso; omega) (fun c4_0 => ?_)
  refine lv_iload_n S.1 S.2.1 dX2_reach_7 rfl (lv_at hl 3 rfl) ?_
  refine mi_cR (mi_runN (P := mi_W D A ad cf) (As := [.int (y)]) (rest := []) S E hS hW (c_X4_isLevel_no l D A (mi_W D A ad cf) hy) (by decide) mw_279 mw_278 mw_18 ⟨by decide, by decide, by decide +kernel⟩ ⟨rfl, rfl, Nat.le_of_ble_eq_true rfl, Nat.le_of_ble_eq_true rfl⟩ (n := 1) rfl hl.1 rfl (Nat.le_of_ble_eq_true rfl) dX2_reach_8 ⟨Nat.le_of_ble_eq_true rfl, Nat.le_of_ble_eq_true rfl⟩) (fun r9 e9 => ?_)
  subst e9
  refine mi_if_eq (tgt := 23) S (by omega) dX2_reach_11 (by decide) (fun c11_1 => ?_) (fun c11_1 => by exfalso; omega)
  exact mi_retMv S hr hk hS dX2_reach_23 (Nat.le_refl _) (Nat.le_refl _) (⟨cf, u, v, n, hW, hp, pf_fr.rf, hI, pc_M_rf, fun a1 b1 e1 e2 q1 q2 => absurd hy (by have h7 := nI_toInt (n := b1) (by omega); rw [e2, h7]; omega), fun _ => rfl, fun h => absurd rfl h⟩)
theorem mi_of {x : Int32} {k : Nat} (h : 0 ≤ x.toInt ∧ x.toInt < k) (hk : k < 2 ^ 31) : ∃ a, a < k ∧ x = nI a := by
  refine ⟨x.toInt.toNat, by omega, ?_⟩
  refine Int32.toInt_inj.mp ?_
  rw [nI_toInt (by omega)]
  omega
theorem c_reach (l : Launch) (D : va_G) (A : Nat → Prop) {ad : Nat → Nat} {cf : Nat → Option va_E} {u v : Nat → Nat} {n : Nat} {K : Nat → Nat} {rS rK : Nat} {num : Int32} {par : Value} (hp : rx_pf D ad cf u v n) (hS0 : cf rS = some (.inr (4, [.int num, par, .ref (ad rK)]))) (hK0 : cf rK = some (mi_ai D 128 (fun j => nI (K j)))) (hn9 : rS ≠ 4 ∧ rS ≠ 5 ∧ rS ≠ 6 ∧ rK ≠ 4 ∧ rK ≠ 5 ∧ rK ≠ 6) (hKb : ∀ j, j < 128 → K j < 4) {root fst : Nat} {m0 : Nat → Nat} (hI : pc_I K root m0 fst u v n) {x y : Int32} (hcon : ∀ a b, x = nI a → y = nI b → a < 16 → b < 8 → K (8 * a + b) ≠ 0 → pc_c K root (8 * a + b)) : mi_Mv l yX2_reach (Cond.code yX2_reach cX2_reach 5 none) (mi_rm 2) D A (mi_W D A ad cf) [.ref (ad 4), .ref (ad rS), .int x, .int y] 0 0 (pf_R D A ad cf K root m0 fst u v n (x) (y)) := by
  by_cases hx : 0 ≤ x.toInt ∧ x.toInt < 16
  · obtain ⟨a, ha, rfl⟩ := mi_of (k := 16) hx (by omega)
    by_cases hy : 0 ≤ y.toInt ∧ y.toInt < 8
    · obtain ⟨b, hb, rfl⟩ := mi_of (k := 8) hy (by omega)
      exact c_reach_in l D A hp hS0 hK0 hn9 hKb hI ha hb hcon
    · exact c_reach_o2 l D A hp hS0 hK0 hn9 hKb hI ha hy
  · exact c_reach_o1 l D A hp hS0 hK0 hn9 hKb hI hx
set_option maxHeartbeats 4000000 in
set_option maxRecDepth 100000 in
theorem c_reachTouching (l : Launch) (D : va_G) (A : Nat → Prop) {ad : Nat → Nat} {cf : Nat → Option va_E} {u v : Nat → Nat} {n : Nat} {K : Nat → Nat} {rS rK : Nat} {num : Int32} {par : Value} (hp : rx_pf D ad cf u v n) (hS0 : cf rS = some (.inr (4, [.int num, par, .ref (ad rK)]))) (hK0 : cf rK = some (mi_ai D 128 (fun j => nI (K j)))) (hn9 : rS ≠ 4 ∧ rS ≠ 5 ∧ rS ≠ 6 ∧ rK ≠ 4 ∧ rK ≠ 5 ∧ rK ≠ 6) (hKb : ∀ j, j < 128 → K j < 4) {root fst : Nat} {m0 : Nat → Nat} (hI : pc_I K root m0 fst u v n) {a b : Nat} (ha : a < 16) (hb : b < 8) (hroot : pc_c K root (8 * a + b)) (hka : K (8 * a + b) ≠ 0) : mi_Mv l yX2_reachTouching (Cond.code yX2_reachTouching cX2_reachTouching 4 none) (mi_rm 3) D A (mi_W D A ad cf) [.ref (ad 4), .ref (ad rS), .int (nI (a)), .int (nI (b))] 0 0 (fun H => ∃ cf1 u1 v1 n1, mi_W D A ad cf1 H ∧ rx_pf D ad cf1 u1 v1 n1 ∧ pf_fr cf cf1 ∧ pc_I K root m0 fst u1 v1 n1 ∧ pc_M u v n u1 v1 n1 ∧ ∀ y, pc_a K (8 * a + b) y → u1 y ≠ 0) := by
  refine mi_start (cc := cX2_reachTouching) (nL := 4) (ret := none) rfl (by decide) (Nat.le_of_ble_eq_true rfl) ?_
  intro p e s m below meth c ls S E hW hS hr hk hn hl
  have S : CallFix p m c cX2_reachTouching 4 s _ ((Cond.code yX2_reachTouching cX2_reachTouching 4 none) :: mi_G) RX2 := S
  have hl : lv_has ls 4 [(0, .ref (ad 4)), (1, .ref (ad rS)), (2, .int (nI (a))), (3, .int (nI (b)))] := hl
  refine lv_aload_n S.1 S.2.1 dX2_reachTouching_0 rfl (lv_at hl 0 rfl) ?_
  refine lv_aload_n S.1 S.2.1 dX2_reachTouching_1 rfl (lv_at hl 1 rfl) ?_
  refine lv_iload_n S.1 S.2.1 dX2_reachTouching_2 rfl (lv_at hl 2 rfl) ?_
  refine lv_iload_n S.1 S.2.1 dX2_reachTouching_3 rfl (lv_at hl 3 rfl) ?_
  refine lv_iconst (v := nI 1) S.1 S.2.1 dX2_reachTouching_4 (by decide) ?_
  refine lv_isub S.1 S.2.1 dX2_reachTouching_5 ?_
  refine mi_cMv (mi_runV (P := mi_W D A ad cf) (As := [.ref (ad rS), .int (nI (a)), .int ((nI (b)) - (nI (1)))]) (rest := []) S E hS hW (ad 4) (c_reach l D A hp hS0 hK0 hn9 hKb hI (fun a1 b1 e1 e2 p1 p2 p3 => pc_by hroot hka ha hb p1 p2 p3 (by have q1 := (nI_eqd (by omega) (by omega) e1).symm; have q2 := (nI_sub_eq (by omega) (by omega) (by omega) e2); omega))) (hW.recv E hp.1 rfl) mw_454 mw_451 mw_453 mw_8 mw_22 ⟨by decide, by decide, by decide +kernel⟩ ⟨rfl, rfl, Nat.le_of_ble_eq_true rfl, Nat.le_of_ble_eq_true rfl⟩ (n := 3) rfl hl.1 rfl (Nat.le_of_ble_eq_true rfl) dX2_reachTouching_6 ⟨Nat.le_of_ble_eq_true rfl, Nat.le_of_ble_eq_true rfl⟩) hS (fun H locs hp9 hS hz => ?_)
  obtain ⟨cf1, u1, v1, n1, hW, hp1, hf1, hI1, hM1, hk1, -, -⟩ := hp9
  refine lv_aload_n S.1 S.2.1 dX2_reachTouching_9 rfl (lv_at hl 0 rfl) ?_
  refine lv_aload_n S.1 S.2.1 dX2_reachTouching_10 rfl (lv_at hl 1 rfl) ?_
  refine lv_iload_n S.1 S.2.1 dX2_reachTouching_11 rfl (lv_at hl 2 rfl) ?_
  refine lv_iload_n S.1 S.2.1 dX2_reachTouching_12 rfl (lv_at hl 3 rfl) ?_
  refine lv_iconst (v := nI 1) S.1 S.2.1 dX2_reachTouching_13 (by decide) ?_
  refine mi_iadd S dX2_reachTouching_14 ?_
  refine mi_cMv (mi_runV (P := mi_W D A ad cf1) (As := [.ref (ad rS), .int (nI (a)), .int (nI (b + 1))]) (rest := []) S E hS hW (ad 4) (c_reach l D A hp1 ((hf1 _ hn9.1 hn9.2.1 hn9.2.2.1).trans hS0) ((hf1 _ hn9.2.2.2.1 hn9.2.2.2.2.1 hn9.2.2.2.2.2).trans hK0) hn9 hKb hI1 (fun a1 b1 e1 e2 p1 p2 p3 => pc_by hroot hka ha hb p1 p2 p3 (by have q1 := (nI_eqd (by omega) (by omega) e1).symm; have q2 := (nI_eqd (by omega) (by omega) e2).symm; omega))) (hW.recv E hp1.1 rfl) mw_454 mw_451 mw_453 mw_8 mw_22 ⟨by decide, by decide, by decide +kernel⟩ ⟨rfl, rfl, Nat.le_of_ble_eq_true rfl, Nat.le_of_ble_eq_true rfl⟩ (n := 3) rfl hl.1 rfl (Nat.le_of_ble_eq_true rfl) dX2_reachTouching_15 ⟨Nat.le_of_ble_eq_true rfl, Nat.le_of_ble_eq_true rfl⟩) hS (fun H locs hp9 hS hz => ?_)
  obtain ⟨cf2, u2, v2, n2, hW, hp2, hf2, hI2, hM2, hk2, -, -⟩ := hp9
  refine lv_aload_n S.1 S.2.1 dX2_reachTouching_18 rfl (lv_at hl 0 rfl) ?_
  refine lv_aload_n S.1 S.2.1 dX2_reachTouching_19 rfl (lv_at hl 1 rfl) ?_
  refine lv_iload_n S.1 S.2.1 dX2_reachTouching_20 rfl (lv_at hl 2 rfl) ?_
  refine lv_iconst (v := nI 4) S.1 S.2.1 dX2_reachTouching_21 (by decide) ?_
  refine lv_isub S.1 S.2.1 dX2_reachTouching_22 ?_
  refine lv_iload_n S.1 S.2.1 dX2_reachTouching_23 rfl (lv_at hl 3 rfl) ?_
  refine mi_cMv (mi_runV (P := mi_W D A ad cf2) (As := [.ref (ad rS), .int ((nI (a)) - (nI (4))), .int (nI (b))]) (rest := []) S E hS hW (ad 4) (c_reach l D A hp2 ((hf2 _ hn9.1 hn9.2.1 hn9.2.2.1).trans ((hf1 _ hn9.1 hn9.2.1 hn9.2.2.1).trans hS0)) ((hf2 _ hn9.2.2.2.1 hn9.2.2.2.2.1 hn9.2.2.2.2.2).trans ((hf1 _ hn9.2.2.2.1 hn9.2.2.2.2.1 hn9.2.2.2.2.2).trans hK0)) hn9 hKb hI2 (fun a1 b1 e1 e2 p1 p2 p3 => pc_by hroot hka ha hb p1 p2 p3 (by have q1 := (nI_sub_eq (by omega) (by omega) (by omega) e1); have q2 := (nI_eqd (by omega) (by omega) e2).symm; omega))) (hW.recv E hp2.1 rfl) mw_454 mw_451 mw_453 mw_8 mw_22 ⟨by decide, by decide, by decide +kernel⟩ ⟨rfl, rfl, Nat.le_of_ble_eq_true rfl, Nat.le_of_ble_eq_true rfl⟩ (n := 3) rfl hl.1 rfl (Nat.le_of_ble_eq_true rfl) dX2_reachTouching_24 ⟨Nat.le_of_ble_eq_true rfl, Nat.le_of_ble_eq_true rfl⟩) hS (fun H locs hp9 hS hz => ?_)
  obtain ⟨cf3, u3, v3, n3, hW, hp3, hf3, hI3, hM3, hk3, -, -⟩ := hp9
  refine lv_aload_n S.1 S.2.1 dX2_reachTouching_27 rfl (lv_at hl 0 rfl) ?_
  refine lv_aload_n S.1 S.2.1 dX2_reachTouching_28 rfl (lv_at hl 1 rfl) ?_
  refine lv_iload_n S.1 S.2.1 dX2_reachTouching_29 rfl (lv_at hl 2 rfl) ?_
  refine lv_iconst (v := nI 4) S.1 S.2.1 dX2_reachTouching_30 (by decide) ?_
  refine mi_iadd S dX2_reachTouching_31 ?_
  refine lv_iload_n S.1 S.2.1 dX2_reachTouching_32 rfl (lv_at hl 3 rfl) ?_
  refine mi_cMv (mi_runV (P := mi_W D A ad cf3) (As := [.ref (ad rS), .int (nI (a + 4)), .int (nI (b))]) (rest := []) S E hS hW (ad 4) (c_reach l D A hp3 ((hf3 _ hn9.1 hn9.2.1 hn9.2.2.1).trans ((hf2 _ hn9.1 hn9.2.1 hn9.2.2.1).trans ((hf1 _ hn9.1 hn9.2.1 hn9.2.2.1).trans hS0))) ((hf3 _ hn9.2.2.2.1 hn9.2.2.2.2.1 hn9.2.2.2.2.2).trans ((hf2 _ hn9.2.2.2.1 hn9.2.2.2.2.1 hn9.2.2.2.2.2).trans ((hf1 _ hn9.2.2.2.1 hn9.2.2.2.2.1 hn9.2.2.2.2.2).trans hK0))) hn9 hKb hI3 (fun a1 b1 e1 e2 p1 p2 p3 => pc_by hroot hka ha hb p1 p2 p3 (by have q1 := (nI_eqd (by omega) (by omega) e1).symm; have q2 := (nI_eqd (by omega) (by omega) e2).symm; omega))) (hW.recv E hp3.1 rfl) mw_454 mw_451 mw_453 mw_8 mw_22 ⟨by decide, by decide, by decide +kernel⟩ ⟨rfl, rfl, Nat.le_of_ble_eq_true rfl, Nat.le_of_ble_eq_true rfl⟩ (n := 3) rfl hl.1 rfl (Nat.le_of_ble_eq_true rfl) dX2_reachTouching_33 ⟨Nat.le_of_ble_eq_true rfl, Nat.le_of_ble_eq_true rfl⟩) hS (fun H locs hp9 hS hz => ?_)
  obtain ⟨cf4, u4, v4, n4, hW, hp4, hf4, hI4, hM4, hk4, -, -⟩ := hp9
  refine lv_iload_n S.1 S.2.1 dX2_reachTouching_36 rfl (lv_at hl 2 rfl) ?_
  refine lv_iconst (v := nI 4) S.1 S.2.1 dX2_reachTouching_37 (by decide) ?_
  refine mi_irem S (by omega) (by omega) (by omega) dX2_reachTouching_38 ?_
  refine mi_if_le (tgt := 51) S (by omega) dX2_reachTouching_39 (by decide) (fun c39_4 => ?_) (fun c39_4 => ?_)
  · refine lv_iload_n S.1 S.2.1 dX2_reachTouching_51 rfl (lv_at hl 2 rfl) ?_
    refine lv_iconst (v := nI 4) S.1 S.2.1 dX2_reachTouching_52 (by decide) ?_
    refine mi_irem S (by omega) (by omega) (by omega) dX2_reachTouching_53 ?_
    refine lv_iconst (v := nI 3) S.1 S.2.1 dX2_reachTouching_54 (by decide) ?_
    refine mi_icmp_ge (tgt := 67) S (by omega) (by omega) dX2_reachTouching_55 (by decide) (fun c55_5 => ?_) (fun c55_5 => ?_)
    · exact mi_retMv S hr hk hS dX2_reachTouching_67 (Nat.le_refl _) (Nat.le_refl _) ⟨cf4, u4, v4, n4, hW, hp4, (((hf1).tr hf2).tr hf3).tr hf4, hI4, pc_M_tr (pc_M_tr (pc_M_tr (hM1) hM2) hM3) hM4, pc_nb ha hb (fun h hk9 => hM4.2.2 _ (hM3.2.2 _ (hM2.2.2 _ (hk1 (a) (b - 1) rfl (pk_sub h) (by omega) (by omega) hk9)))) (fun h hk9 => hM4.2.2 _ (hM3.2.2 _ (hk2 (a) (b + 1) rfl rfl (by omega) (by omega) hk9))) (fun h hk9 => hM4.2.2 _ (hk3 (a - 4) (b) (pk_sub h) rfl (by omega) (by omega) hk9)) (fun h hk9 => hk4 (a + 4) (b) rfl rfl (by omega) (by omega) hk9) (fun h _ => absurd h (by omega)) (fun h _ => absurd h (by omega))⟩
    · refine lv_aload_n S.1 S.2.1 dX2_reachTouching_58 rfl (lv_at hl 0 rfl) ?_
      refine lv_aload_n S.1 S.2.1 dX2_reachTouching_59 rfl (lv_at hl 1 rfl) ?_
      refine lv_iload_n S.1 S.2.1 dX2_reachTouching_60 rfl (lv_at hl 2 rfl) ?_
      refine lv_iconst (v := nI 1) S.1 S.2.1 dX2_reachTouching_61 (by decide) ?_
      refine mi_iadd S dX2_reachTouching_62 ?_
      refine lv_iload_n S.1 S.2.1 dX2_reachTouching_63 rfl (lv_at hl 3 rfl) ?_
      refine mi_cMv (mi_runV (P := mi_W D A ad cf4) (As := [.ref (ad rS), .int (nI (a + 1)), .int (nI (b))]) (rest := []) S E hS hW (ad 4) (c_reach l D A hp4 ((hf4 _ hn9.1 hn9.2.1 hn9.2.2.1).trans ((hf3 _ hn9.1 hn9.2.1 hn9.2.2.1).trans ((hf2 _ hn9.1 hn9.2.1 hn9.2.2.1).trans ((hf1 _ hn9.1 hn9.2.1 hn9.2.2.1).trans hS0)))) ((hf4 _ hn9.2.2.2.1 hn9.2.2.2.2.1 hn9.2.2.2.2.2).trans ((hf3 _ hn9.2.2.2.1 hn9.2.2.2.2.1 hn9.2.2.2.2.2).trans ((hf2 _ hn9.2.2.2.1 hn9.2.2.2.2.1 hn9.2.2.2.2.2).trans ((hf1 _ hn9.2.2.2.1 hn9.2.2.2.2.1 hn9.2.2.2.2.2).trans hK0)))) hn9 hKb hI4 (fun a1 b1 e1 e2 p1 p2 p3 => pc_by hroot hka ha hb p1 p2 p3 (by have q1 := (nI_eqd (by omega) (by omega) e1).symm; have q2 := (nI_eqd (by omega) (by omega) e2).symm; omega))) (hW.recv E hp4.1 rfl) mw_454 mw_451 mw_453 mw_8 mw_22 ⟨by decide, by decide, by decide +kernel⟩ ⟨rfl, rfl, Nat.le_of_ble_eq_true rfl, Nat.le_of_ble_eq_true rfl⟩ (n := 3) rfl hl.1 rfl (Nat.le_of_ble_eq_true rfl) dX2_reachTouching_64 ⟨Nat.le_of_ble_eq_true rfl, Nat.le_of_ble_eq_true rfl⟩) hS (fun H locs hp9 hS hz => ?_)
      obtain ⟨cf7, u7, v7, n7, hW, hp7, hf7, hI7, hM7, hk7, -, -⟩ := hp9
      exact mi_retMv S hr hk hS dX2_reachTouching_67 (Nat.le_refl _) (Nat.le_refl _) ⟨cf7, u7, v7, n7, hW, hp7, ((((hf1).tr hf2).tr hf3).tr hf4).tr hf7, hI7, pc_M_tr (pc_M_tr (pc_M_tr (pc_M_tr (hM1) hM2) hM3) hM4) hM7, pc_nb ha hb (fun h hk9 => hM7.2.2 _ (hM4.2.2 _ (hM3.2.2 _ (hM2.2.2 _ (hk1 (a) (b - 1) rfl (pk_sub h) (by omega) (by omega) hk9))))) (fun h hk9 => hM7.2.2 _ (hM4.2.2 _ (hM3.2.2 _ (hk2 (a) (b + 1) rfl rfl (by omega) (by omega) hk9)))) (fun h hk9 => hM7.2.2 _ (hM4.2.2 _ (hk3 (a - 4) (b) (pk_sub h) rfl (by omega) (by omega) hk9))) (fun h hk9 => hM7.2.2 _ (hk4 (a + 4) (b) rfl rfl (by omega) (by omega) hk9)) (fun h _ => absurd h (by omega)) (fun h hk9 => hk7 (a + 1) (b) rfl rfl (by omega) (by omega) hk9)⟩
  · refine lv_aload_n S.1 S.2.1 dX2_reachTouching_42 rfl (lv_at hl 0 rfl) ?_
    refine lv_aload_n S.1 S.2.1 dX2_reachTouching_43 rfl (lv_at hl 1 rfl) ?_
    refine lv_iload_n S.1 S.2.1 dX2_reachTouching_44 rfl (lv_at hl 2 rfl) ?_
    refine lv_iconst (v := nI 1) S.1 S.2.1 dX2_reachTouching_45 (by decide) ?_
    refine mi_isub S (by omega) dX2_reachTouching_46 ?_
    refine lv_iload_n S.1 S.2.1 dX2_reachTouching_47 rfl (lv_at hl 3 rfl) ?_
    refine mi_cMv (mi_runV (P := mi_W D A ad cf4) (As := [.ref (ad rS), .int (nI (a - 1)), .int (nI (b))]) (rest := []) S E hS hW (ad 4) (c_reach l D A hp4 ((hf4 _ hn9.1 hn9.2.1 hn9.2.2.1).trans ((hf3 _ hn9.1 hn9.2.1 hn9.2.2.1).trans ((hf2 _ hn9.1 hn9.2.1 hn9.2.2.1).trans ((hf1 _ hn9.1 hn9.2.1 hn9.2.2.1).trans hS0)))) ((hf4 _ hn9.2.2.2.1 hn9.2.2.2.2.1 hn9.2.2.2.2.2).trans ((hf3 _ hn9.2.2.2.1 hn9.2.2.2.2.1 hn9.2.2.2.2.2).trans ((hf2 _ hn9.2.2.2.1 hn9.2.2.2.2.1 hn9.2.2.2.2.2).trans ((hf1 _ hn9.2.2.2.1 hn9.2.2.2.2.1 hn9.2.2.2.2.2).trans hK0)))) hn9 hKb hI4 (fun a1 b1 e1 e2 p1 p2 p3 => pc_by hroot hka ha hb p1 p2 p3 (by have q1 := (nI_eqd (by omega) (by omega) e1).symm; have q2 := (nI_eqd (by omega) (by omega) e2).symm; omega))) (hW.recv E hp4.1 rfl) mw_454 mw_451 mw_453 mw_8 mw_22 ⟨by decide, by decide, by decide +kernel⟩ ⟨rfl, rfl, Nat.le_of_ble_eq_true rfl, Nat.le_of_ble_eq_true rfl⟩ (n := 3) rfl hl.1 rfl (Nat.le_of_ble_eq_true rfl) dX2_reachTouching_48 ⟨Nat.le_of_ble_eq_true rfl, Nat.le_of_ble_eq_true rfl⟩) hS (fun H locs hp9 hS hz => ?_)
    obtain ⟨cf8, u8, v8, n8, hW, hp8, hf8, hI8, hM8, hk8, -, -⟩ := hp9
    refine lv_iload_n S.1 S.2.1 dX2_reachTouching_51 rfl (lv_at hl 2 rfl) ?_
    refine lv_iconst (v := nI 4) S.1 S.2.1 dX2_reachTouching_52 (by decide) ?_
    refine mi_irem S (by omega) (by omega) (by omega) dX2_reachTouching_53 ?_
    refine lv_iconst (v := nI 3) S.1 S.2.1 dX2_reachTouching_54 (by decide) ?_
    refine mi_icmp_ge (tgt := 67) S (by omega) (by omega) dX2_reachTouching_55 (by decide) (fun c55_8 => ?_) (fun c55_8 => ?_)
    · exact mi_retMv S hr hk hS dX2_reachTouching_67 (Nat.le_refl _) (Nat.le_refl _) ⟨cf8, u8, v8, n8, hW, hp8, ((((hf1).tr hf2).tr hf3).tr hf4).tr hf8, hI8, pc_M_tr (pc_M_tr (pc_M_tr (pc_M_tr (hM1) hM2) hM3) hM4) hM8, pc_nb ha hb (fun h hk9 => hM8.2.2 _ (hM4.2.2 _ (hM3.2.2 _ (hM2.2.2 _ (hk1 (a) (b - 1) rfl (pk_sub h) (by omega) (by omega) hk9))))) (fun h hk9 => hM8.2.2 _ (hM4.2.2 _ (hM3.2.2 _ (hk2 (a) (b + 1) rfl rfl (by omega) (by omega) hk9)))) (fun h hk9 => hM8.2.2 _ (hM4.2.2 _ (hk3 (a - 4) (b) (pk_sub h) rfl (by omega) (by omega) hk9))) (fun h hk9 => hM8.2.2 _ (hk4 (a + 4) (b) rfl rfl (by omega) (by omega) hk9)) (fun h hk9 => hk8 (a - 1) (b) rfl rfl (by omega) (by omega) hk9) (fun h _ => absurd h (by omega))⟩
    · refine lv_aload_n S.1 S.2.1 dX2_reachTouching_58 rfl (lv_at hl 0 rfl) ?_
      refine lv_aload_n S.1 S.2.1 dX2_reachTouching_59 rfl (lv_at hl 1 rfl) ?_
      refine lv_iload_n S.1 S.2.1 dX2_reachTouching_60 rfl (lv_at hl 2 rfl) ?_
      refine lv_iconst (v := nI 1) S.1 S.2.1 dX2_reachTouching_61 (by decide) ?_
      refine mi_iadd S dX2_reachTouching_62 ?_
      refine lv_iload_n S.1 S.2.1 dX2_reachTouching_63 rfl (lv_at hl 3 rfl) ?_
      refine mi_cMv (mi_runV (P := mi_W D A ad cf8) (As := [.ref (ad rS), .int (nI (a + 1)), .int (nI (b))]) (rest := []) S E hS hW (ad 4) (c_reach l D A hp8 ((hf8 _ hn9.1 hn9.2.1 hn9.2.2.1).trans ((hf4 _ hn9.1 hn9.2.1 hn9.2.2.1).trans ((hf3 _ hn9.1 hn9.2.1 hn9.2.2.1).trans ((hf2 _ hn9.1 hn9.2.1 hn9.2.2.1).trans ((hf1 _ hn9.1 hn9.2.1 hn9.2.2.1).trans hS0))))) ((hf8 _ hn9.2.2.2.1 hn9.2.2.2.2.1 hn9.2.2.2.2.2).trans ((hf4 _ hn9.2.2.2.1 hn9.2.2.2.2.1 hn9.2.2.2.2.2).trans ((hf3 _ hn9.2.2.2.1 hn9.2.2.2.2.1 hn9.2.2.2.2.2).trans ((hf2 _ hn9.2.2.2.1 hn9.2.2.2.2.1 hn9.2.2.2.2.2).trans ((hf1 _ hn9.2.2.2.1 hn9.2.2.2.2.1 hn9.2.2.2.2.2).trans hK0))))) hn9 hKb hI8 (fun a1 b1 e1 e2 p1 p2 p3 => pc_by hroot hka ha hb p1 p2 p3 (by have q1 := (nI_eqd (by omega) (by omega) e1).symm; have q2 := (nI_eqd (by omega) (by omega) e2).symm; omega))) (hW.recv E hp8.1 rfl) mw_454 mw_451 mw_453 mw_8 mw_22 ⟨by decide, by decide, by decide +kernel⟩ ⟨rfl, rfl, Nat.le_of_ble_eq_true rfl, Nat.le_of_ble_eq_true rfl⟩ (n := 3) rfl hl.1 rfl (Nat.le_of_ble_eq_true rfl) dX2_reachTouching_64 ⟨Nat.le_of_ble_eq_true rfl, Nat.le_of_ble_eq_true rfl⟩) hS (fun H locs hp9 hS hz => ?_)
      obtain ⟨cf10, u10, v10, n10, hW, hp10, hf10, hI10, hM10, hk10, -, -⟩ := hp9
      exact mi_retMv S hr hk hS dX2_reachTouching_67 (Nat.le_refl _) (Nat.le_refl _) ⟨cf10, u10, v10, n10, hW, hp10, (((((hf1).tr hf2).tr hf3).tr hf4).tr hf8).tr hf10, hI10, pc_M_tr (pc_M_tr (pc_M_tr (pc_M_tr (pc_M_tr (hM1) hM2) hM3) hM4) hM8) hM10, pc_nb ha hb (fun h hk9 => hM10.2.2 _ (hM8.2.2 _ (hM4.2.2 _ (hM3.2.2 _ (hM2.2.2 _ (hk1 (a) (b - 1) rfl (pk_sub h) (by omega) (by omega) hk9)))))) (fun h hk9 => hM10.2.2 _ (hM8.2.2 _ (hM4.2.2 _ (hM3.2.2 _ (hk2 (a) (b + 1) rfl rfl (by omega) (by omega) hk9))))) (fun h hk9 => hM10.2.2 _ (hM8.2.2 _ (hM4.2.2 _ (hk3 (a - 4) (b) (pk_sub h) rfl (by omega) (by omega) hk9)))) (fun h hk9 => hM10.2.2 _ (hM8.2.2 _ (hk4 (a + 4) (b) rfl rfl (by omega) (by omega) hk9))) (fun h hk9 => hM10.2.2 _ (hk8 (a - 1) (b) rfl rfl (by omega) (by omega) hk9)) (fun h hk9 => hk10 (a + 1) (b) rfl rfl (by omega) (by omega) hk9)⟩
