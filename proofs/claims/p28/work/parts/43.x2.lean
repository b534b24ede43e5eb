/-! the class State, the rest of it; constructors -/
theorem sp_cb {K : Nat → Nat} {a i t : Nat} (hi : i < 8) (ht : t ≤ i) (hrun : ∀ j, i - t ≤ j → j < i → sp_er K a j = 0) : fb_sm (fun j => sp_bl K (8 * a + j)) (i + 1) = fb_sm (fun j => sp_bl K (8 * a + j)) (i - t) + (t + 1) * sp_bl K (8 * a + i) := by
  have hc : ∀ d, d ≤ t → K (8 * a + (i - d)) = K (8 * a + i) := by
    intro d
    induction d with
    | zero => intro _; rfl
    | succ d ih =>
      intro hd
      have h1 := hrun (i - (d + 1)) (by omega) (by omega)
      rw [sp_er_n K a (by omega)] at h1
      have h2 : K (8 * a + (i - (d + 1))) = K (8 * a + (i - (d + 1)) + 1) := by
        unfold sp_ne at h1
        by_cases z : K (8 * a + (i - (d + 1))) = K (8 * a + (i - (d + 1)) + 1)
        · exact z
        · rw [if_neg z] at h1
          omega
      rw [h2, show 8 * a + (i - (d + 1)) + 1 = 8 * a + (i - d) by omega]
      exact ih (by omega)
  have h3 := fb_sm_split (fun j => sp_bl K (8 * a + j)) (i - t) (t + 1)
  rw [show i - t + (t + 1) = i + 1 by omega] at h3
  have h4 : fb_sm (fun k => sp_bl K (8 * a + (i - t + k))) (t + 1) = (t + 1) * sp_bl K (8 * a + i) := by
    refine Eq.trans (fb_sm_cong (g := fun _ => sp_bl K (8 * a + i)) (fun k hk => ?_)) (fb_sm_const _ _)
    show sp_bl K (8 * a + (i - t + k)) = sp_bl K (8 * a + i)
    unfold sp_bl
    rw [show i - t + k = i - (t - k) by omega, hc (t - k) (by omega)]
  rw [h3, h4]
set_option maxHeartbeats 4000000 in
set_option maxRecDepth 100000 in
theorem c_X3_countBlocksByRuns (l : Launch) (D : va_G) (A : Nat → Prop) {ad : Nat → Nat} {cf : Nat → Option va_E} {rS rK : Nat} {num : Int32} {par : Value} {K : Nat → Nat} (hS0 : cf rS = some (.inr (4, [.int num, par, .ref (ad rK)]))) (hK0 : cf rK = some (mi_ai D 128 (fun j => nI (K j)))) (hKb : ∀ j, j < 128 → K j < 4) {a : Nat} (ha : a < 16) : mi_Rd l yX3_countBlocksByRuns (Cond.code yX3_countBlocksByRuns cX3_countBlocksByRuns 5 (some Jvm.ClassFile.FieldType.int)) (mi_rm 3) D A (mi_W D A ad cf) [.ref (ad rS), .int (nI (a))] (fun r => r = nI (fb_sm (fun j => sp_bl K (8 * a + j)) 8)) := by
  refine mi_start (cc := cX3_countBlocksByRuns) (nL := 5) (ret := (some Jvm.ClassFile.FieldType.int)) rfl (by decide) (Nat.le_of_ble_eq_true rfl) ?_
  intro p e s m below meth c ls S E hW hS hr hk hn hl
  have S : CallFix p m c cX3_countBlocksByRuns 5 s _ ((Cond.code yX3_countBlocksByRuns cX3_countBlocksByRuns 5 (some Jvm.ClassFile.FieldType.int)) :: mi_G) RX3 := S
  have hl : lv_has ls 5 [(0, .ref (ad rS)), (1, .int (nI (a)))] := hl
  refine lv_iconst (v := nI 0) S.1 S.2.1 dX3_countBlocksByRuns_0 (by decide) ?_
  refine lv_istore_n (lv' := [(2, .int (nI (0))), (0, .ref (ad rS)), (1, .int (nI (a)))]) S.1 S.2.1 dX3_countBlocksByRuns_1 rfl hl (by decide) rfl (fun ls hl => ?_)
  refine lv_iconst (v := nI 0) S.1 S.2.1 dX3_countBlocksByRuns_2 (by decide) ?_
  refine lv_istore_n (lv' := [(3, .int (nI (0))), (2, .int (nI (0))), (0, .ref (ad rS)), (1, .int (nI (a)))]) S.1 S.2.1 dX3_countBlocksByRuns_3 rfl hl (by decide) rfl (fun ls hl => ?_)
  refine lv_iconst (v := nI 0) S.1 S.2.1 dX3_countBlocksByRuns_4 (by decide) ?_
  refine lv_istore (lv' := [(4, .int (nI (0))), (3, .int (nI (0))), (2, .int (nI (0))), (0, .ref (ad rS)), (1, .int (nI (a)))]) S.1 S.2.1 dX3_countBlocksByRuns_5 hl (by decide) rfl (fun ls hl => ?_)
  have lp7 : ∀ (n7 : Nat) (i : Nat) (t : Nat) (k : Nat) (ls : Array Slot), 8 - i < n7 → i ≤ 8 → t ≤ i → (i = 8 → t = 0) → k = fb_sm (fun j => sp_bl K (8 * a + j)) (i - t) → (∀ j, i - t ≤ j → j < i → sp_er K a j = 0) → lv_has ls 5 [(0, .ref (ad rS)), (1, .int (nI (a))), (2, .int (nI (k))), (3, .int (nI (t))), (4, .int (nI (i)))] → W p l e (mi_rm 3) s m ([.ref (ad rS), .int (nI (a))] : List Value).toArray below meth c s.heap [] 0 0 (MQ below (vp_Si (fun r => r = nI (fb_sm (fun j => sp_bl K (8 * a + j)) 8))) ([.ref (ad rS), .int (nI (a))] : List Value).toArray s 0 0 (fun _ => False)) (F0 m 7 ls []) := by
    intro n7
    induction n7 with
    | zero => intro i t k ls hm hi hti h8 hk9 hrun  hl; exact absurd hm (Nat.not_lt_zero _)
    | succ n7 ih7 =>
      intro i t k ls hm hi hti h8 hk9 hrun  hl
      refine lv_iload S.1 S.2.1 dX3_countBlocksByRuns_7 (lv_at hl 4 rfl) ?_
      refine lv_bipush (v := nI 8) S.1 S.2.1 dX3_countBlocksByRuns_9 (by decide) ?_
      refine mi_icmp_ge (tgt := 49) S (by omega) (by omega) dX3_countBlocksByRuns_11 (by decide) (fun c11_0 => ?_) (fun c11_0 => ?_)
      · refine lv_iload_n S.1 S.2.1 dX3_countBlocksByRuns_49 rfl (lv_at hl 2 rfl) ?_
        exact mi_retR S hr hk dX3_countBlocksByRuns_50 (by have h9 := h8 (by omega); rw [hk9, h9, show i - 0 = 8 by omega])
      · have he1 := sp_er_le K a i
        have he7 := sp_er_7 K a
        have he8 : i = 7 → sp_er K a i = 1 := fun z => by rw [z]; exact he7
        have hkb := hKb (8 * a + i) (by omega)
        refine lv_iinc (v := nI (t + 1)) (lv' := [(3, .int (nI (t + 1))), (0, .ref (ad rS)), (1, .int (nI (a))), (2, .int (nI (k))), (4, .int (nI (i)))]) S.1 S.2.1 dX3_countBlocksByRuns_14 hl (k := 3) rfl (mi_inc _) (by decide) rfl (fun ls hl => ?_)
        refine lv_aload_n S.1 S.2.1 dX3_countBlocksByRuns_17 rfl (lv_at hl 1 rfl) ?_
        refine lv_iload_n S.1 S.2.1 dX3_countBlocksByRuns_18 rfl (lv_at hl 2 rfl) ?_
        refine lv_iload S.1 S.2.1 dX3_countBlocksByRuns_19 (lv_at hl 4 rfl) ?_
        refine mi_cR (mi_runV (P := mi_W D A ad cf) (As := [.int (nI (a)), .int (nI (i))]) (rest := []) S E hS hW (ad rS) (c_X3_endsRun l D A hS0 hK0 hKb (by omega) (by omega)) (hW.recv E hS0 rfl) mw_603 mw_600 mw_602 mw_16 mw_23 ⟨by decide, by decide, by decide +kernel⟩ ⟨rfl, rfl, Nat.le_of_ble_eq_true rfl, Nat.le_of_ble_eq_true rfl⟩ (n := 2) rfl hl.1 rfl (Nat.le_of_ble_eq_true rfl) dX3_countBlocksByRuns_21 ⟨Nat.le_of_ble_eq_true rfl, Nat.le_of_ble_eq_true rfl⟩) (fun r9 e9 => ?_)
        subst e9
        refine mi_if_eq (tgt := 43) S (by omega) dX3_countBlocksByRuns_24 (by decide) (fun c24_1 => ?_) (fun c24_1 => ?_)
        · refine lv_iinc (v := nI (i + 1)) (lv' := [(4, .int (nI (i + 1))), (3, .int (nI (t + 1))), (0, .ref (ad rS)), (1, .int (nI (a))), (2, .int (nI (k)))]) S.1 S.2.1 dX3_countBlocksByRuns_43 hl (k := 4) rfl (mi_inc _) (by decide) rfl (fun ls hl => ?_)
          refine lv_goto (tgt := 7) S.1 S.2.1 dX3_countBlocksByRuns_46 (by decide) ?_
          exact ih7 (i + 1) (t + 1) k _ (by omega) (by omega) (by omega) (by omega) (by rw [show i + 1 - (t + 1) = i - t by omega]; exact hk9) (fun j h1 h2 => if z : j = i then by rw [z]; assumption else hrun j (by omega) (by omega))  (lv_sub hl [2, 3, 4, 1, 0] rfl)
        · refine lv_aload_n S.1 S.2.1 dX3_countBlocksByRuns_27 rfl (lv_at hl 1 rfl) ?_
          refine lv_iload_n S.1 S.2.1 dX3_countBlocksByRuns_28 rfl (lv_at hl 2 rfl) ?_
          refine lv_iload S.1 S.2.1 dX3_countBlocksByRuns_29 (lv_at hl 4 rfl) ?_
          refine mi_cR (mi_runV (P := mi_W D A ad cf) (As := [.int (nI (a)), .int (nI (i))]) (rest := []) S E hS hW (ad rS) (c_X3_kindAt l D A hS0 hK0 (by omega) (by omega)) (hW.recv E hS0 rfl) mw_460 mw_480 mw_458 mw_459 mw_23 ⟨by decide, by decide, by decide +kernel⟩ ⟨rfl, rfl, Nat.le_of_ble_eq_true rfl, Nat.le_of_ble_eq_true rfl⟩ (n := 2) rfl hl.1 rfl (Nat.le_of_ble_eq_true rfl) dX3_countBlocksByRuns_31 ⟨Nat.le_of_ble_eq_true rfl, Nat.le_of_ble_eq_true rfl⟩) (fun r9 e9 => ?_)
          subst e9
          refine mi_if_eq (tgt := 41) S (by omega) dX3_countBlocksByRuns_34 (by decide) (fun c34_2 => ?_) (fun c34_2 => ?_)
          · refine lv_iconst (v := nI 0) S.1 S.2.1 dX3_countBlocksByRuns_41 (by decide) ?_
            refine lv_istore_n (lv' := [(3, .int (nI (0))), (0, .ref (ad rS)), (1, .int (nI (a))), (2, .int (nI (k))), (4, .int (nI (i)))]) S.1 S.2.1 dX3_countBlocksByRuns_42 rfl hl (by decide) rfl (fun ls hl => ?_)
            refine lv_iinc (v := nI (i + 1)) (lv' := [(4, .int (nI (i + 1))), (3, .int (nI (0))), (0, .ref (ad rS)), (1, .int (nI (a))), (2, .int (nI (k)))]) S.1 S.2.1 dX3_countBlocksByRuns_43 hl (k := 4) rfl (mi_inc _) (by decide) rfl (fun ls hl => ?_)
            refine lv_goto (tgt := 7) S.1 S.2.1 dX3_countBlocksByRuns_46 (by decide) ?_
            exact ih7 (i + 1) 0 k _ (by omega) (by omega) (by omega) (by omega) (by have h9 := sp_cb (by omega) hti hrun; rw [sp_bl_0 (by omega)] at h9; rw [Nat.sub_zero, h9]; omega) (fun j h1 h2 => absurd h1 (by omega))  (lv_sub hl [2, 3, 4, 1, 0] rfl)
          · refine lv_iload_n S.1 S.2.1 dX3_countBlocksByRuns_37 rfl (lv_at hl 3 rfl) ?_
            refine lv_iload_n S.1 S.2.1 dX3_countBlocksByRuns_38 rfl (lv_at hl 0 rfl) ?_
            refine mi_iadd S dX3_countBlocksByRuns_39 ?_
            refine lv_istore_n (lv' := [(2, .int (nI (k + (t + 1)))), (3, .int (nI (t + 1))), (0, .ref (ad rS)), (1, .int (nI (a))), (4, .int (nI (i)))]) S.1 S.2.1 dX3_countBlocksByRuns_40 rfl hl (by decide) rfl (fun ls hl => ?_)
            refine lv_iconst (v := nI 0) S.1 S.2.1 dX3_countBlocksByRuns_41 (by decide) ?_
            refine lv_istore_n (lv' := [(3, .int (nI (0))), (2, .int (nI (k + (t + 1)))), (0, .ref (ad rS)), (1, .int (nI (a))), (4, .int (nI (i)))]) S.1 S.2.1 dX3_countBlocksByRuns_42 rfl hl (by decide) rfl (fun ls hl => ?_)
            refine lv_iinc (v := nI (i + 1)) (lv' := [(4, .int (nI (i + 1))), (3, .int (nI (0))), (2, .int (nI (k + (t + 1)))), (0, .ref (ad rS)), (1, .int (nI (a)))]) S.1 S.2.1 dX3_countBlocksByRuns_43 hl (k := 4) rfl (mi_inc _) (by decide) rfl (fun ls hl => ?_)
            refine lv_goto (tgt := 7) S.1 S.2.1 dX3_countBlocksByRuns_46 (by decide) ?_
            exact ih7 (i + 1) 0 (k + (t + 1)) _ (by omega) (by omega) (by omega) (by omega) (by have h9 := sp_cb (by omega) hti hrun; rw [sp_bl_1 (by omega)] at h9; rw [Nat.sub_zero, h9]; omega) (fun j h1 h2 => absurd h1 (by omega))  (lv_sub hl [3, 4, 2, 1, 0] rfl)
  exact lp7 _ 0 0 0 _ (Nat.lt_succ_self _) (by omega) (by omega) (by omega) (by rfl) (fun j h1 h2 => absurd h2 (Nat.not_lt_zero j))  (lv_sub hl [3, 4, 2, 1, 0] rfl)
set_option maxHeartbeats 4000000 in
set_option maxRecDepth 100000 in
theorem c_X3_hasColumnAlike (l : Launch) (D : va_G) (A : Nat → Prop) {ad : Nat → Nat} {cf : Nat → Option va_E} {rS rK rT rJ : Nat} {num num2 : Int32} {par par2 : Value} {K J : Nat → Nat} (hS0 : cf rS = some (.inr (4, [.int num, par, .ref (ad rK)]))) (hK0 : cf rK = some (mi_ai D 128 (fun j => nI (K j)))) (hKb : ∀ j, j < 128 → K j < 4) (hT0 : cf rT = some (.inr (4, [.int num2, par2, .ref (ad rJ)]))) (hJ0 : cf rJ = some (mi_ai D 128 (fun j => nI (J j)))) (hJb : ∀ j, j < 128 → J j < 4) {a : Nat} (ha : a < 16) : mi_Rd l yX3_hasColumnAlike (Cond.code yX3_hasColumnAlike cX3_hasColumnAlike 4 (some Jvm.ClassFile.FieldType.boolean)) (mi_rm 2) D A (mi_W D A ad cf) [.ref (ad rS), .ref (ad rT), .int (nI (a))] (fun r => r = nI (1 - sp_fg (fun l => K (8 * a + l)) (fun l => J (8 * a + l)) 8)) := by
  refine mi_start (cc := cX3_hasColumnAlike) (nL := 4) (ret := (some Jvm.ClassFile.FieldType.boolean)) rfl (by decide) (Nat.le_of_ble_eq_true rfl) ?_
  intro p e s m below meth c ls S E hW hS hr hk hn hl
  have S : CallFix p m c cX3_hasColumnAlike 4 s _ ((Cond.code yX3_hasColumnAlike cX3_hasColumnAlike 4 (some Jvm.ClassFile.FieldType.boolean)) :: mi_G) RX3 := S
  have hl : lv_has ls 4 [(0, .ref (ad rS)), (1, .ref (ad rT)), (2, .int (nI (a)))] := hl
  refine lv_iconst (v := nI 0) S.1 S.2.1 dX3_hasColumnAlike_0 (by decide) ?_
  refine lv_istore_n (lv' := [(3, .int (nI (0))), (0, .ref (ad rS)), (1, .ref (ad rT)), (2, .int (nI (a)))]) S.1 S.2.1 dX3_hasColumnAlike_1 rfl hl (by decide) rfl (fun ls hl => ?_)
  have lp2 : ∀ (n2 : Nat) (i : Nat) (ls : Array Slot), 8 - i < n2 → i ≤ 8 → (∀ j, j < i → K (8 * a + j) = J (8 * a + j)) → lv_has ls 4 [(0, .ref (ad rS)), (1, .ref (ad rT)), (2, .int (nI (a))), (3, .int (nI (i)))] → W p l e (mi_rm 2) s m ([.ref (ad rS), .ref (ad rT), .int (nI (a))] : List Value).toArray below meth c s.heap [] 0 0 (MQ below (vp_Si (fun r => r = nI (1 - sp_fg (fun l => K (8 * a + l)) (fun l => J (8 * a + l)) 8))) ([.ref (ad rS), .ref (ad rT), .int (nI (a))] : List Value).toArray s 0 0 (fun _ => False)) (F0 m 2 ls []) := by
    intro n2
    induction n2 with
    | zero => intro i ls hm hi heq  hl; exact absurd hm (Nat.not_lt_zero _)
    | succ n2 ih2 =>
      intro i ls hm hi heq  hl
      refine lv_iload_n S.1 S.2.1 dX3_hasColumnAlike_2 rfl (lv_at hl 3 rfl) ?_
      refine lv_bipush (v := nI 8) S.1 S.2.1 dX3_hasColumnAlike_3 (by decide) ?_
      refine mi_icmp_ge (tgt := 31) S (by omega) (by omega) dX3_hasColumnAlike_5 (by decide) (fun c5_0 => ?_) (fun c5_0 => ?_)
      · refine lv_iconst (v := nI 1) S.1 S.2.1 dX3_hasColumnAlike_31 (by decide) ?_
        exact mi_retZ S hr hk dX3_hasColumnAlike_32 rfl ((by show nI 1 = nI (1 - sp_fg (fun l => K (8 * a + l)) (fun l => J (8 * a + l)) 8); rw [show sp_fg (fun l => K (8 * a + l)) (fun l => J (8 * a + l)) 8 = 0 from if_pos (sp_ds_0.mpr (fun l hl => heq l (by omega)))]))
      · have hb1 := hKb (8 * a + i) (by omega)
        have hb2 := hJb (8 * a + i) (by omega)
        refine lv_aload_n S.1 S.2.1 dX3_hasColumnAlike_8 rfl (lv_at hl 0 rfl) ?_
        refine lv_iload_n S.1 S.2.1 dX3_hasColumnAlike_9 rfl (lv_at hl 2 rfl) ?_
        refine lv_iload_n S.1 S.2.1 dX3_hasColumnAlike_10 rfl (lv_at hl 3 rfl) ?_
        refine mi_cR (mi_runV (P := mi_W D A ad cf) (As := [.int (nI (a)), .int (nI (i))]) (rest := []) S E hS hW (ad rS) (c_X3_kindAt l D A hS0 hK0 (by omega) (by omega)) (hW.recv E hS0 rfl) mw_460 mw_480 mw_458 mw_459 mw_23 ⟨by decide, by decide, by decide +kernel⟩ ⟨rfl, rfl, Nat.le_of_ble_eq_true rfl, Nat.le_of_ble_eq_true rfl⟩ (n := 2) rfl hl.1 rfl (Nat.le_of_ble_eq_true rfl) dX3_hasColumnAlike_11 ⟨Nat.le_of_ble_eq_true rfl, Nat.le_of_ble_eq_true rfl⟩) (fun r9 e9 => ?_)
        subst e9
        refine lv_aload_n S.1 S.2.1 dX3_hasColumnAlike_14 rfl (lv_at hl 1 rfl) ?_
        refine lv_iload_n S.1 S.2.1 dX3_hasColumnAlike_15 rfl (lv_at hl 2 rfl) ?_
        refine lv_iload_n S.1 S.2.1 dX3_hasColumnAlike_16 rfl (lv_at hl 3 rfl) ?_
        refine mi_cR (mi_runV (P := mi_W D A ad cf) (As := [.int (nI (a)), .int (nI (i))]) (rest := [.int (nI (K (8 * a + i)))]) S E hS hW (ad rT) (c_X3_kindAt l D A hT0 hJ0 (by omega) (by omega)) (hW.recv E hT0 rfl) mw_460 mw_480 mw_458 mw_459 mw_23 ⟨by decide, by decide, by decide +kernel⟩ ⟨rfl, rfl, Nat.le_of_ble_eq_true rfl, Nat.le_of_ble_eq_true rfl⟩ (n := 2) rfl hl.1 rfl (Nat.le_of_ble_eq_true rfl) dX3_hasColumnAlike_17 ⟨Nat.le_of_ble_eq_true rfl, Nat.le_of_ble_eq_true rfl⟩) (fun r9 e9 => ?_)
        subst e9
        refine mi_icmp_eq (tgt := 25) S (by omega) (by omega) dX3_hasColumnAlike_20 (by decide) (fun c20_1 => ?_) (fun c20_1 => ?_)
        · refine lv_iinc (v := nI (i + 1)) (lv' := [(3, .int (nI (i + 1))), (0, .ref (ad rS)), (1, .ref (ad rT)), (2, .int (nI (a)))]) S.1 S.2.1 dX3_hasColumnAlike_25 hl (k := 3) rfl (mi_inc _) (by decide) rfl (fun ls hl => ?_)
          refine lv_goto (tgt := 2) S.1 S.2.1 dX3_hasColumnAlike_28 (by decide) ?_
          exact ih2 (i + 1) _ (by omega) (by omega) (fun j hj => if z : j = i then by rw [z]; assumption else heq j (by omega))  (lv_sub hl [1, 2, 3, 0] rfl)
        · refine lv_iconst (v := nI 0) S.1 S.2.1 dX3_hasColumnAlike_23 (by decide) ?_
          exact mi_retZ S hr hk dX3_hasColumnAlike_24 rfl ((by show nI 0 = nI (1 - sp_fg (fun l => K (8 * a + l)) (fun l => J (8 * a + l)) 8); rw [show sp_fg (fun l => K (8 * a + l)) (fun l => J (8 * a + l)) 8 = 1 from if_neg (fun z => absurd (sp_ds_0.mp z i (by omega)) (by assumption))]))
  exact lp2 _ 0 _ (Nat.lt_succ_self _) (by omega) (fun j hj => absurd hj (Nat.not_lt_zero j))  (lv_sub hl [1, 2, 3, 0] rfl)
set_option maxHeartbeats 4000000 in
set_option maxRecDepth 100000 in
theorem c_X3_put (l : Launch) (D : va_G) (A : Nat → Prop) {ad : Nat → Nat} {cf : Nat → Option va_E} {rS rK : Nat} {num : Int32} {par : Value} {K : Nat → Nat} (hS0 : cf rS = some (.inr (4, [.int num, par, .ref (ad rK)]))) (hK0 : cf rK = some (mi_ai D 128 (fun j => nI (K j)))) {a b k : Nat} (ha : a < 16) (hb : b < 8) : mi_Mv l yX3_put (Cond.code yX3_put cX3_put 4 none) (mi_rm 1) D A (mi_W D A ad cf) [.ref (ad rS), .int (nI (a)), .int (nI (b)), .int (nI (k))] 0 0 (mi_W D A ad (va_up cf rK (some (mi_ai D 128 (fun j => nI (mi_un K (8 * a + b) k j)))))) := by
  refine mi_start (cc := cX3_put) (nL := 4) (ret := none) rfl (by decide) (Nat.le_of_ble_eq_true rfl) ?_
  intro p e s m below meth c ls S E hW hS hr hk hn hl
  have S : CallFix p m c cX3_put 4 s _ ((Cond.code yX3_put cX3_put 4 none) :: mi_G) RX3 := S
  have hl : lv_has ls 4 [(0, .ref (ad rS)), (1, .int (nI (a))), (2, .int (nI (b))), (3, .int (nI (k)))] := hl
  refine lv_iload_n S.1 S.2.1 dX3_put_0 rfl (lv_at hl 1 rfl) ?_
  refine mi_cR (mi_runN (P := mi_W D A ad cf) (As := [.int (nI (a))]) (rest := []) S E hS hW (c_X4_isColumn_in l D A (mi_W D A ad cf) (by omega)) (by decide) mw_205 mw_204 mw_18 ⟨by decide, by decide, by decide +kernel⟩ ⟨rfl, rfl, Nat.le_of_ble_eq_true rfl, Nat.le_of_ble_eq_true rfl⟩ (n := 1) rfl hl.1 rfl (Nat.le_of_ble_eq_true rfl) dX3_put_1 ⟨Nat.le_of_ble_eq_true rfl, Nat.le_of_ble_eq_true rfl⟩) (fun r9 e9 => ?_)
  subst e9
  refine mi_if_eq (tgt := 26) S (by omega) dX3_put_4 (by decide) (fun c4_0 => by exfalso; omega) (fun c4_0 => ?_)
  refine lv_iload_n S.1 S.2.1 dX3_put_7 rfl (lv_at hl 2 rfl) ?_
  refine mi_cR (mi_runN (P := mi_W D A ad cf) (As := [.int (nI (b))]) (rest := []) S E hS hW (c_X4_isLevel_in l D A (mi_W D A ad cf) (by omega)) (by decide) mw_279 mw_278 mw_18 ⟨by decide, by decide, by decide +kernel⟩ ⟨rfl, rfl, Nat.le_of_ble_eq_true rfl, Nat.le_of_ble_eq_true rfl⟩ (n := 1) rfl hl.1 rfl (Nat.le_of_ble_eq_true rfl) dX3_put_8 ⟨Nat.le_of_ble_eq_true rfl, Nat.le_of_ble_eq_true rfl⟩) (fun r9 e9 => ?_)
  subst e9
  refine mi_if_eq (tgt := 26) S (by omega) dX3_put_11 (by decide) (fun c11_1 => by exfalso; omega) (fun c11_1 => ?_)
  refine lv_aload_n S.1 S.2.1 dX3_put_14 rfl (lv_at hl 0 rfl) ?_
  refine fg_X3_19 S E hW rS rfl hS0 rfl dX3_put_15 ?_
  refine lv_iload_n S.1 S.2.1 dX3_put_18 rfl (lv_at hl 1 rfl) ?_
  refine lv_bipush (v := nI 8) S.1 S.2.1 dX3_put_19 (by decide) ?_
  refine mi_imul S dX3_put_21 ?_
  refine lv_iload_n S.1 S.2.1 dX3_put_22 rfl (lv_at hl 2 rfl) ?_
  refine mi_iadd S dX3_put_23 ?_
  refine lv_iload_n S.1 S.2.1 dX3_put_24 rfl (lv_at hl 3 rfl) ?_
  refine mi_iast S E hS hW rK rfl hK0 (by omega) (by omega) dX3_put_25 (fun H locs hW hS hz => ?_)
  rw [Nat.mul_comm a 8, mi_un_upd] at hW
  exact mi_retMv S hr hk hS dX3_put_26 (Nat.le_refl _) (Nat.le_refl _) (hW)
set_option maxHeartbeats 4000000 in
set_option maxRecDepth 100000 in
theorem c_State_init (l : Launch) (D : va_G) (A : Nat → Prop) {ad : Nat → Nat} {cf : Nat → Option va_E} {r a : Nat} {f0 f1 f2 : Value} (ha0 : ad r = a) (hr0 : cf r = some (.inr (4, [f0, f1, f2]))) {i pa ka : Nat} : mi_Mv l yX3_init (Cond.code yX3_init cX3_init 4 none) (mi_rm 1) D A (mi_W D A ad cf) [.ref (a), .int (nI (i)), .ref (pa), .ref (ka)] 0 0 (mi_W D A ad (va_up cf r (some (.inr (4, [.int (nI (i)), .ref (pa), .ref (ka)]))))) := by
  refine mi_start (cc := cX3_init) (nL := 4) (ret := none) rfl (by decide) (Nat.le_of_ble_eq_true rfl) ?_
  intro p e s m below meth c ls S E hW hS hr hk hn hl
  have S : CallFix p m c cX3_init 4 s _ ((Cond.code yX3_init cX3_init 4 none) :: mi_G) RX3 := S
  have hl : lv_has ls 4 [(0, .ref (a)), (1, .int (nI (i))), (2, .ref (pa)), (3, .ref (ka))] := hl
  refine lv_aload_n S.1 S.2.1 dX3_init_0 rfl (lv_at hl 0 rfl) ?_
  refine W.objInit S.1 S.2.1 S.2.2.2.1 (S.2.2.2.2 _ (List.mem_cons_of_mem _ mw_94)) (S.2.2.2.2 _ (List.mem_cons_of_mem _ mw_44)) (S.2.2.2.2 _ (List.mem_cons_of_mem _ mw_45)) rfl (hl.1.trans S.2.2.1.symm) rfl dX3_init_1 (Nat.le_of_ble_eq_true rfl) (Nat.le_of_ble_eq_true rfl) ?_
  refine W.eq (g2 := F0 m 4 ls []) rfl ?_
  refine lv_aload_n S.1 S.2.1 dX3_init_4 rfl (lv_at hl 0 rfl) ?_
  refine lv_iload_n S.1 S.2.1 dX3_init_5 rfl (lv_at hl 1 rfl) ?_
  refine fp_X3_9 S E hS hW r ha0 hr0 (Nat.le_of_ble_eq_true rfl) hn dX3_init_6 (fun H locs hW hS hz => ?_)
  obtain ⟨cf1, hcf1⟩ : ∃ z, z = va_up cf r (some (.inr (4, [.int (nI (i)), f1, f2]))) := ⟨_, rfl⟩
  have hW : mi_W D A ad cf1 H := by rw [hcf1]; exact hW
  have he1_r : cf1 r = some (.inr (4, [.int (nI (i)), f1, f2])) := by rw [hcf1]; exact mi_up_s
  refine lv_aload_n S.1 S.2.1 dX3_init_9 rfl (lv_at hl 0 rfl) ?_
  refine lv_aload_n S.1 S.2.1 dX3_init_10 rfl (lv_at hl 2 rfl) ?_
  refine fp_X3_15 S E hS hW r ha0 he1_r (Nat.le_of_ble_eq_true rfl) rfl rfl hn dX3_init_11 (fun H locs hW hS hz => ?_)
  obtain ⟨cf2, hcf2⟩ : ∃ z, z = va_up cf1 r (some (.inr (4, [.int (nI (i)), .ref (pa), f2]))) := ⟨_, rfl⟩
  have hW : mi_W D A ad cf2 H := by rw [hcf2]; exact hW
  have he2_r : cf2 r = some (.inr (4, [.int (nI (i)), .ref (pa), f2])) := by rw [hcf2]; exact mi_up_s
  refine lv_aload_n S.1 S.2.1 dX3_init_14 rfl (lv_at hl 0 rfl) ?_
  refine lv_aload_n S.1 S.2.1 dX3_init_15 rfl (lv_at hl 3 rfl) ?_
  refine fp_X3_19 S E hS hW r ha0 he2_r (Nat.le_of_ble_eq_true rfl) rfl rfl hn dX3_init_16 (fun H locs hW hS hz => ?_)
  obtain ⟨cf3, hcf3⟩ : ∃ z, z = va_up cf2 r (some (.inr (4, [.int (nI (i)), .ref (pa), .ref (ka)]))) := ⟨_, rfl⟩
  have hW : mi_W D A ad cf3 H := by rw [hcf3]; exact hW
  have he3_r : cf3 r = some (.inr (4, [.int (nI (i)), .ref (pa), .ref (ka)])) := by rw [hcf3]; exact mi_up_s
  exact mi_retMv S hr hk hS dX3_init_19 (Nat.le_refl _) (Nat.le_refl _) (by rw [hcf3, hcf2, hcf1, mi_up_up, mi_up_up] at hW; exact hW)
set_option maxHeartbeats 4000000 in
set_option maxRecDepth 100000 in
theorem c_State_init0 (l : Launch) (D : va_G) (A : Nat → Prop) {ad : Nat → Nat} {cf : Nat → Option va_E} {r a : Nat} {f0 f1 f2 : Value} (ha0 : ad r = a) (hr0 : cf r = some (.inr (4, [f0, f1, f2]))) {i ka : Nat} : mi_Mv l yX3_init (Cond.code yX3_init cX3_init 4 none) (mi_rm 1) D A (mi_W D A ad cf) [.ref (a), .int (nI (i)), .null, .ref (ka)] 0 0 (mi_W D A ad (va_up cf r (some (.inr (4, [.int (nI (i)), .null, .ref (ka)]))))) := by
  refine mi_start (cc := cX3_init) (nL := 4) (ret := none) rfl (by decide) (Nat.le_of_ble_eq_true rfl) ?_
  intro p e s m below meth c ls S E hW hS hr hk hn hl
  have S : CallFix p m c cX3_init 4 s _ ((Cond.code yX3_init cX3_init 4 none) :: mi_G) RX3 := S
  have hl : lv_has ls 4 [(0, .ref (a)), (1, .int (nI (i))), (2, .null), (3, .ref (ka))] := hl
  refine lv_aload_n S.1 S.2.1 dX3_init_0 rfl (lv_at hl 0 rfl) ?_
  refine W.objInit S.1 S.2.1 S.2.2.2.1 (S.2.2.2.2 _ (List.mem_cons_of_mem _ mw_94)) (S.2.2.2.2 _ (List.mem_cons_of_mem _ mw_44)) (S.2.2.2.2 _ (List.mem_cons_of_mem _ mw_45)) rfl (hl.1.trans S.2.2.1.symm) rfl dX3_init_1 (Nat.le_of_ble_eq_true rfl) (Nat.le_of_ble_eq_true rfl) ?_
  refine W.eq (g2 := F0 m 4 ls []) rfl ?_
  refine lv_aload_n S.1 S.2.1 dX3_init_4 rfl (lv_at hl 0 rfl) ?_
  refine lv_iload_n S.1 S.2.1 dX3_init_5 rfl (lv_at hl 1 rfl) ?_
  refine fp_X3_9 S E hS hW r ha0 hr0 (Nat.le_of_ble_eq_true rfl) hn dX3_init_6 (fun H locs hW hS hz => ?_)
  obtain ⟨cf1, hcf1⟩ : ∃ z, z = va_up cf r (some (.inr (4, [.int (nI (i)), f1, f2]))) := ⟨_, rfl⟩
  have hW : mi_W D A ad cf1 H := by rw [hcf1]; exact hW
  have he1_r : cf1 r = some (.inr (4, [.int (nI (i)), f1, f2])) := by rw [hcf1]; exact mi_up_s
  refine lv_aload_n S.1 S.2.1 dX3_init_9 rfl (lv_at hl 0 rfl) ?_
  refine lv_aload_nN S.1 S.2.1 dX3_init_10 rfl (lv_at hl 2 rfl) ?_
  refine fp_X3_15 S E hS hW r ha0 he1_r (Nat.le_of_ble_eq_true rfl) rfl rfl hn dX3_init_11 (fun H locs hW hS hz => ?_)
  obtain ⟨cf2, hcf2⟩ : ∃ z, z = va_up cf1 r (some (.inr (4, [.int (nI (i)), .null, f2]))) := ⟨_, rfl⟩
  have hW : mi_W D A ad cf2 H := by rw [hcf2]; exact hW
  have he2_r : cf2 r = some (.inr (4, [.int (nI (i)), .null, f2])) := by rw [hcf2]; exact mi_up_s
  refine lv_aload_n S.1 S.2.1 dX3_init_14 rfl (lv_at hl 0 rfl) ?_
  refine lv_aload_n S.1 S.2.1 dX3_init_15 rfl (lv_at hl 3 rfl) ?_
  refine fp_X3_19 S E hS hW r ha0 he2_r (Nat.le_of_ble_eq_true rfl) rfl rfl hn dX3_init_16 (fun H locs hW hS hz => ?_)
  obtain ⟨cf3, hcf3⟩ : ∃ z, z = va_up cf2 r (some (.inr (4, [.int (nI (i)), .null, .ref (ka)]))) := ⟨_, rfl⟩
  have hW : mi_W D A ad cf3 H := by rw [hcf3]; exact hW
  have he3_r : cf3 r = some (.inr (4, [.int (nI (i)), .null, .ref (ka)])) := by rw [hcf3]; exact mi_up_s
  exact mi_retMv S hr hk hS dX3_init_19 (Nat.le_refl _) (Nat.le_refl _) (by rw [hcf3, hcf2, hcf1, mi_up_up, mi_up_up] at hW; exact hW)
set_option maxHeartbeats 4000000 in
set_option maxRecDepth 100000 in
theorem c_Coin_init (l : Launch) (D : va_G) (A : Nat → Prop) {ad : Nat → Nat} {cf : Nat → Option va_E} {r a : Nat} {f0 f1 f2 : Value} (ha0 : ad r = a) (hr0 : cf r = some (.inr (1, [f0, f1, f2]))) {da ga ka : Nat} : mi_Mv l yX0_init (Cond.code yX0_init cX0_init 4 none) (mi_rm 1) D A (mi_W D A ad cf) [.ref (a), .ref (da), .ref (ga), .ref (ka)] 0 0 (mi_W D A ad (va_up cf r (some (.inr (1, [.ref (da), .ref (ga), .ref (ka)]))))) := by
  refine mi_start (cc := cX0_init) (nL := 4) (ret := none) rfl (by decide) (Nat.le_of_ble_eq_true rfl) ?_
  intro p e s m below meth c ls S E hW hS hr hk hn hl
  have S : CallFix p m c cX0_init 4 s _ ((Cond.code yX0_init cX0_init 4 none) :: mi_G) RX0 := S
  have hl : lv_has ls 4 [(0, .ref (a)), (1, .ref (da)), (2, .ref (ga)), (3, .ref (ka))] := hl
  refine lv_aload_n S.1 S.2.1 dX0_init_0 rfl (lv_at hl 0 rfl) ?_
  refine W.objInit S.1 S.2.1 S.2.2.2.1 (S.2.2.2.2 _ (List.mem_cons_of_mem _ mw_531)) (S.2.2.2.2 _ (List.mem_cons_of_mem _ mw_44)) (S.2.2.2.2 _ (List.mem_cons_of_mem _ mw_45)) rfl (hl.1.trans S.2.2.1.symm) rfl dX0_init_1 (Nat.le_of_ble_eq_true rfl) (Nat.le_of_ble_eq_true rfl) ?_
  refine W.eq (g2 := F0 m 4 ls []) rfl ?_
  refine lv_aload_n S.1 S.2.1 dX0_init_4 rfl (lv_at hl 0 rfl) ?_
  refine lv_aload_n S.1 S.2.1 dX0_init_5 rfl (lv_at hl 1 rfl) ?_
  refine fp_X0_7 S E hS hW r ha0 hr0 (Nat.le_of_ble_eq_true rfl) rfl rfl hn dX0_init_6 (fun H locs hW hS hz => ?_)
  obtain ⟨cf1, hcf1⟩ : ∃ z, z = va_up cf r (some (.inr (1, [.ref (da), f1, f2]))) := ⟨_, rfl⟩
  have hW : mi_W D A ad cf1 H := by rw [hcf1]; exact hW
  have he1_r : cf1 r = some (.inr (1, [.ref (da), f1, f2])) := by rw [hcf1]; exact mi_up_s
  refine lv_aload_n S.1 S.2.1 dX0_init_9 rfl (lv_at hl 0 rfl) ?_
  refine lv_aload_n S.1 S.2.1 dX0_init_10 rfl (lv_at hl 2 rfl) ?_
  refine fp_X0_13 S E hS hW r ha0 he1_r (Nat.le_of_ble_eq_true rfl) rfl rfl hn dX0_init_11 (fun H locs hW hS hz => ?_)
  obtain ⟨cf2, hcf2⟩ : ∃ z, z = va_up cf1 r (some (.inr (1, [.ref (da), .ref (ga), f2]))) := ⟨_, rfl⟩
  have hW : mi_W D A ad cf2 H := by rw [hcf2]; exact hW
  have he2_r : cf2 r = some (.inr (1, [.ref (da), .ref (ga), f2])) := by rw [hcf2]; exact mi_up_s
  refine lv_aload_n S.1 S.2.1 dX0_init_14 rfl (lv_at hl 0 rfl) ?_
  refine lv_aload_n S.1 S.2.1 dX0_init_15 rfl (lv_at hl 3 rfl) ?_
  refine fp_X0_17 S E hS hW r ha0 he2_r (Nat.le_of_ble_eq_true rfl) rfl rfl hn dX0_init_16 (fun H locs hW hS hz => ?_)
  obtain ⟨cf3, hcf3⟩ : ∃ z, z = va_up cf2 r (some (.inr (1, [.ref (da), .ref (ga), .ref (ka)]))) := ⟨_, rfl⟩
  have hW : mi_W D A ad cf3 H := by rw [hcf3]; exact hW
  have he3_r : cf3 r = some (.inr (1, [.ref (da), .ref (ga), .ref (ka)])) := by rw [hcf3]; exact mi_up_s
  exact mi_retMv S hr hk hS dX0_init_19 (Nat.le_refl _) (Nat.le_refl _) (by rw [hcf3, hcf2, hcf1, mi_up_up, mi_up_up] at hW; exact hW)
