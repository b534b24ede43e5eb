/-! the reference's pieces -/
theorem pc_jn_row {x : Nat → Int32} {v : Nat → Nat} {a b w : Nat} (hx : ∀ j, j < 128 → x j = mi_dn (v j)) (hw : w = pc_mn (v a) (v b)) : ∀ j, j < 128 → upd (upd x a (mi_dn w)) b (mi_dn w) j = mi_dn (pc_jn v a b j) := by
  intro j hj
  show (if j = b then mi_dn w else (if j = a then mi_dn w else x j)) = mi_dn (if j = b then pc_mn (v a) (v b) else (if j = a then pc_mn (v a) (v b) else v j))
  rw [hw]
  by_cases h1 : j = b
  · rw [if_pos h1, if_pos h1]
  · rw [if_neg h1, if_neg h1]
    by_cases h2 : j = a
    · rw [if_pos h2, if_pos h2]
    · rw [if_neg h2, if_neg h2]
      exact hx j hj
theorem pc_row_y {x : Nat → Int32} {K : Nat → Nat} {i : Nat} (hx : ∀ j, j < i → x j = mi_dn (pc_v0 K j)) (hk : K i ≠ 0) : ∀ j, j < i + 1 → upd x i (nI i) j = mi_dn (pc_v0 K j) := by
  intro j hj
  show (if j = i then nI i else x j) = mi_dn (if K j = 0 then 0 else j + 1)
  by_cases h : j = i
  · rw [if_pos h, h, if_neg hk]
    rfl
  · rw [if_neg h]
    exact hx j (by omega)
theorem pc_row_n {x : Nat → Int32} {K : Nat → Nat} {i : Nat} (hx : ∀ j, j < i → x j = mi_dn (pc_v0 K j)) (hk : K i = 0) : ∀ j, j < i + 1 → upd x i (-1) j = mi_dn (pc_v0 K j) := by
  intro j hj
  show (if j = i then -1 else x j) = mi_dn (if K j = 0 then 0 else j + 1)
  by_cases h : j = i
  · rw [if_pos h, h, if_pos hk]
    rfl
  · rw [if_neg h]
    exact hx j (by omega)
def pc_clx (v : Nat → Nat) (n t : Nat) : Prop := pc_cl v n ∧ (1 ≤ t → n % 8 < 7 → v n = 0 ∨ v (n + 1) = 0 ∨ v n = v (n + 1)) ∧ (2 ≤ t → n / 8 % 4 < 3 → v n = 0 ∨ v (n + 8) = 0 ∨ v n = v (n + 8)) ∧ (3 ≤ t → n < 96 → v n = 0 ∨ v (n + 32) = 0 ∨ v n = v (n + 32))
def pc_J (K v0 v : Nat → Nat) (k n t : Nat) : Prop := pc_L K v ∧ ((k = 0 ∧ v = v0 ∧ pc_clx v n t) ∨ (k = 1 ∧ fb_sm v 128 < fb_sm v0 128))
theorem pc_J_0 {K v : Nat → Nat} (h : pc_L K v) : pc_J K v v 0 0 0 := ⟨h, Or.inl ⟨rfl, rfl, fun p q h1 => absurd h1 (Nat.not_lt_zero p), fun h => absurd h (by omega), fun h => absurd h (by omega), fun h => absurd h (by omega)⟩⟩
theorem pc_J_k {K v0 v : Nat → Nat} {k n t : Nat} (h : pc_J K v0 v k n t) : k ≤ 1 := by rcases h.2 with ⟨a, -⟩ | ⟨a, -⟩ <;> omega
theorem pc_J_next {K v0 v : Nat → Nat} {k n n' : Nat} (h : pc_J K v0 v k n 3) (e : n' = n + 1) : pc_J K v0 v k n' 0 := by
  subst e
  refine ⟨h.1, h.2.elim (fun ⟨a, b, c1, c2, c3, c4⟩ => Or.inl ⟨a, b, fun p q hp h1 h2 e => ?_, fun h => absurd h (by omega), fun h => absurd h (by omega), fun h => absurd h (by omega)⟩) Or.inr⟩
  by_cases z : p = n
  · subst z
    rcases e with ⟨rfl, e⟩ | ⟨rfl, e⟩ | ⟨rfl, e⟩
    · exact c2 (by omega) e
    · exact c3 (by omega) e
    · exact c4 (by omega) e
  · exact c1 p q (by omega) h1 h2 e
/-- a step: the t-th edge from n leads to b, or there is none -/
theorem pc_J_skip {K v0 v : Nat → Nat} {k k' n t : Nat} (h : pc_J K v0 v k n t) (hk : k' = k) (hn : (t = 0 ∧ ¬ n % 8 < 7) ∨ (t = 1 ∧ ¬ n / 8 % 4 < 3) ∨ (t = 2 ∧ ¬ n < 96)) : pc_J K v0 v k' n (t + 1) := by
  subst hk
  refine ⟨h.1, h.2.elim (fun ⟨a, b, c1, c2, c3, c4⟩ => Or.inl ⟨a, b, c1, fun h1 h2 => c2 (by omega) h2, fun h1 h2 => c3 (by omega) h2, fun h1 h2 => c4 (by omega) h2⟩) Or.inr⟩
theorem pc_J_join {K v0 v v' : Nat → Nat} {k k' r n b t : Nat} (h : pc_J K v0 v k n t) (hn : n < 128) (hb : b < 128) (he : (t = 0 ∧ n % 8 < 7 ∧ b = n + 1) ∨ (t = 1 ∧ n / 8 % 4 < 3 ∧ b = n + 8) ∨ (t = 2 ∧ n < 96 ∧ b = n + 32)) (hj : (r = 0 ∧ v' = v ∧ (v n = 0 ∨ v b = 0 ∨ v n = v b)) ∨ (r = 1 ∧ v n ≠ 0 ∧ v b ≠ 0 ∧ v n ≠ v b ∧ v' = pc_jn v n b)) (h1 : (r ≠ 0 ∨ k ≠ 0) → k' = 1) (h0 : r = 0 → k = 0 → k' = 0) : pc_J K v0 v' k' n (t + 1) := by
  obtain ⟨hL, hd⟩ := h
  rcases hj with ⟨rfl, rfl, hc⟩ | ⟨rfl, n1, n2, n3, rfl⟩
  · refine ⟨hL, ?_⟩
    rcases hd with ⟨rfl, rfl, c1, c2, c3, c4⟩ | ⟨rfl, hs⟩
    · refine Or.inl ⟨h0 rfl rfl, rfl, c1, fun t1 q => ?_, fun t1 q => ?_, fun t1 q => ?_⟩
      · rcases he with ⟨a1, a2, rfl⟩ | ⟨a1, a2, rfl⟩ | ⟨a1, a2, rfl⟩
        · exact hc
        · exact c2 (by omega) q
        · exact c2 (by omega) q
      · rcases he with ⟨a1, a2, rfl⟩ | ⟨a1, a2, rfl⟩ | ⟨a1, a2, rfl⟩
        · omega
        · exact hc
        · exact c3 (by omega) q
      · rcases he with ⟨a1, a2, rfl⟩ | ⟨a1, a2, rfl⟩ | ⟨a1, a2, rfl⟩
        · omega
        · omega
        · exact hc
    · exact Or.inr ⟨h1 (Or.inr (by omega)), hs⟩
  · have e : pc_e n b := by
      rcases he with ⟨a1, a2, rfl⟩ | ⟨a1, a2, rfl⟩ | ⟨a1, a2, rfl⟩
      · exact Or.inl ⟨rfl, a2⟩
      · exact Or.inr (Or.inl ⟨rfl, a2⟩)
      · exact Or.inr (Or.inr ⟨rfl, a2⟩)
    have hlt := pc_jn_sm hn hb (by omega) n3
    refine ⟨pc_L_jn hL hn hb e n1 n2, Or.inr ⟨h1 (Or.inl (by omega)), ?_⟩⟩
    rcases hd with ⟨-, rfl, -⟩ | ⟨-, hs⟩
    · exact hlt
    · omega
theorem pc_J_cl {K v0 v : Nat → Nat} {n : Nat} (h : pc_J K v0 v 0 n 0) : v = v0 ∧ pc_cl v n := h.2.elim (fun h => ⟨h.2.1, h.2.2.1⟩) (fun h => absurd h.1 (by omega))
theorem pc_J_lt {K v0 v : Nat → Nat} {k n t : Nat} (h : pc_J K v0 v k n t) : 2 * fb_sm v 128 + k < 2 * fb_sm v0 128 + 1 := by
  rcases h.2 with ⟨a, b, -⟩ | ⟨a, b⟩
  · rw [b]
    omega
  · omega
set_option maxHeartbeats 4000000 in
set_option maxRecDepth 100000 in
theorem c_joins (l : Launch) (D : va_G) (A : Nat → Prop) {ad : Nat → Nat} {cf0 : Nat → Option va_E} {f : Nat → Int32} {g : Nat → Nat → Int32} {x : Nat → Int32} {v : Nat → Nat} (hx : ∀ j, j < 128 → x j = mi_dn (v j)) (hvb : ∀ j, j < 128 → v j ≤ 128) {a b : Nat} (ha : a < 128) (hb : b < 128) : mi_Mi l yX5_joins (Cond.code yX5_joins cX5_joins 4 (some Jvm.ClassFile.FieldType.boolean)) (mi_rm 0) D A (mo_W D A ad cf0 f (va_up g 5 x)) [.ref (ad 1000020), .int (nI (a)), .int (nI (b))] 0 0 (fun r H => ∃ x1 v1 k1, r = nI k1 ∧ mo_W D A ad cf0 f (va_up g 5 x1) H ∧ (∀ j, j < 128 → x1 j = mi_dn (v1 j)) ∧ ((k1 = 0 ∧ v1 = v ∧ (v a = 0 ∨ v b = 0 ∨ v a = v b)) ∨ (k1 = 1 ∧ v a ≠ 0 ∧ v b ≠ 0 ∧ v a ≠ v b ∧ v1 = pc_jn v a b))) := by
  refine mi_start (cc := cX5_joins) (nL := 4) (ret := (some Jvm.ClassFile.FieldType.boolean)) rfl (by decide) (Nat.le_of_ble_eq_true rfl) ?_
  intro p e s m below meth c ls S E hM hS hr hk hn hl
  have S : CallFix p m c cX5_joins 4 s _ ((Cond.code yX5_joins cX5_joins 4 (some Jvm.ClassFile.FieldType.boolean)) :: mi_G) RX5 := S
  have hl : lv_has ls 4 [(0, .ref (ad 1000020)), (1, .int (nI (a))), (2, .int (nI (b)))] := hl
  have hva := hvb a ha
  have hvc := hvb b hb
  refine lv_aload_n S.1 S.2.1 dX5_joins_0 rfl (lv_at hl 0 rfl) ?_
  refine mo_g_20 S E hM dX5_joins_1 ?_
  refine lv_iload_n S.1 S.2.1 dX5_joins_4 rfl (lv_at hl 1 rfl) ?_
  refine mo_ald 5 S E hM rfl (by show _ < 128; omega) dX5_joins_5 ?_
  refine mi_top (v' := .int (mi_dn (v a))) (congrArg Value.int ((congrFun mi_up_s _).trans (hx a (by omega)))) ?_
  refine lv_iconst (v := (-1)) S.1 S.2.1 dX5_joins_6 (by decide) ?_
  refine mi_xcmp_eq (tgt := 35) S (mi_dn_toInt (n := v a) (by have := hvb a (by omega); omega)) ((show (-1 : Int32).toInt = -1 from by decide)) dX5_joins_7 (by decide) (fun c7_0 => ?_) (fun c7_0 => ?_)
  · refine lv_iconst (v := nI 0) S.1 S.2.1 dX5_joins_35 (by decide) ?_
    exact mi_retMz S hr hk hS dX5_joins_36 rfl (Nat.le_refl _) (Nat.le_refl _) ⟨x, v, 0, rfl, hM, hx, Or.inl ⟨rfl, rfl, by omega⟩⟩
  · refine lv_aload_n S.1 S.2.1 dX5_joins_10 rfl (lv_at hl 0 rfl) ?_
    refine mo_g_20 S E hM dX5_joins_11 ?_
    refine lv_iload_n S.1 S.2.1 dX5_joins_14 rfl (lv_at hl 2 rfl) ?_
    refine mo_ald 5 S E hM rfl (by show _ < 128; omega) dX5_joins_15 ?_
    refine mi_top (v' := .int (mi_dn (v b))) (congrArg Value.int ((congrFun mi_up_s _).trans (hx b (by omega)))) ?_
    refine lv_iconst (v := (-1)) S.1 S.2.1 dX5_joins_16 (by decide) ?_
    refine mi_xcmp_eq (tgt := 35) S (mi_dn_toInt (n := v b) (by have := hvb b (by omega); omega)) ((show (-1 : Int32).toInt = -1 from by decide)) dX5_joins_17 (by decide) (fun c17_1 => ?_) (fun c17_1 => ?_)
    · refine lv_iconst (v := nI 0) S.1 S.2.1 dX5_joins_35 (by decide) ?_
      exact mi_retMz S hr hk hS dX5_joins_36 rfl (Nat.le_refl _) (Nat.le_refl _) ⟨x, v, 0, rfl, hM, hx, Or.inl ⟨rfl, rfl, by omega⟩⟩
    · refine lv_aload_n S.1 S.2.1 dX5_joins_20 rfl (lv_at hl 0 rfl) ?_
      refine mo_g_20 S E hM dX5_joins_21 ?_
      refine lv_iload_n S.1 S.2.1 dX5_joins_24 rfl (lv_at hl 1 rfl) ?_
      refine mo_ald 5 S E hM rfl (by show _ < 128; omega) dX5_joins_25 ?_
      refine mi_top (v' := .int (mi_dn (v a))) (congrArg Value.int ((congrFun mi_up_s _).trans (hx a (by omega)))) ?_
      refine lv_aload_n S.1 S.2.1 dX5_joins_26 rfl (lv_at hl 0 rfl) ?_
      refine mo_g_20 S E hM dX5_joins_27 ?_
      refine lv_iload_n S.1 S.2.1 dX5_joins_30 rfl (lv_at hl 2 rfl) ?_
      refine mo_ald 5 S E hM rfl (by show _ < 128; omega) dX5_joins_31 ?_
      refine mi_top (v' := .int (mi_dn (v b))) (congrArg Value.int ((congrFun mi_up_s _).trans (hx b (by omega)))) ?_
      refine mi_xcmp_ne (tgt := 37) S (mi_dn_toInt (n := v a) (by have := hvb a (by omega); omega)) (mi_dn_toInt (n := v b) (by have := hvb b (by omega); omega)) dX5_joins_32 (by decide) (fun c32_2 => ?_) (fun c32_2 => ?_)
      · refine lv_aload_n S.1 S.2.1 dX5_joins_37 rfl (lv_at hl 0 rfl) ?_
        refine mo_g_20 S E hM dX5_joins_38 ?_
        refine lv_iload_n S.1 S.2.1 dX5_joins_41 rfl (lv_at hl 1 rfl) ?_
        refine mo_ald 5 S E hM rfl (by show _ < 128; omega) dX5_joins_42 ?_
        refine mi_top (v' := .int (mi_dn (v a))) (congrArg Value.int ((congrFun mi_up_s _).trans (hx a (by omega)))) ?_
        refine lv_aload_n S.1 S.2.1 dX5_joins_43 rfl (lv_at hl 0 rfl) ?_
        refine mo_g_20 S E hM dX5_joins_44 ?_
        refine lv_iload_n S.1 S.2.1 dX5_joins_47 rfl (lv_at hl 2 rfl) ?_
        refine mo_ald 5 S E hM rfl (by show _ < 128; omega) dX5_joins_48 ?_
        refine mi_top (v' := .int (mi_dn (v b))) (congrArg Value.int ((congrFun mi_up_s _).trans (hx b (by omega)))) ?_
        refine mi_xcmp_ge (tgt := 61) S (mi_dn_toInt (n := v a) (by have := hvb a (by omega); omega)) (mi_dn_toInt (n := v b) (by have := hvb b (by omega); omega)) dX5_joins_49 (by decide) (fun c49_3 => ?_) (fun c49_3 => ?_)
        · refine lv_aload_n S.1 S.2.1 dX5_joins_61 rfl (lv_at hl 0 rfl) ?_
          refine mo_g_20 S E hM dX5_joins_62 ?_
          refine lv_iload_n S.1 S.2.1 dX5_joins_65 rfl (lv_at hl 2 rfl) ?_
          refine mo_ald 5 S E hM rfl (by show _ < 128; omega) dX5_joins_66 ?_
          refine mi_top (v' := .int (mi_dn (v b))) (congrArg Value.int ((congrFun mi_up_s _).trans (hx b (by omega)))) ?_
          refine lv_istore_n (lv' := [(3, .int (mi_dn (v b))), (0, .ref (ad 1000020)), (1, .int (nI (a))), (2, .int (nI (b)))]) S.1 S.2.1 dX5_joins_67 rfl hl (by decide) rfl (fun ls hl => ?_)
          refine lv_aload_n S.1 S.2.1 dX5_joins_68 rfl (lv_at hl 1 rfl) ?_
          refine mo_g_20 S E hM dX5_joins_69 ?_
          refine lv_iload_n S.1 S.2.1 dX5_joins_72 rfl (lv_at hl 2 rfl) ?_
          refine lv_iload_n S.1 S.2.1 dX5_joins_73 rfl (lv_at hl 0 rfl) ?_
          refine mo_ast 5 S E hS hM rfl (by show _ < 128; omega) dX5_joins_74 (fun H locs hM hS => ?_)
          rw [mi_up_up, mi_up_s] at hM
          refine lv_aload_n S.1 S.2.1 dX5_joins_75 rfl (lv_at hl 1 rfl) ?_
          refine mo_g_20 S E hM dX5_joins_76 ?_
          refine lv_iload_n S.1 S.2.1 dX5_joins_79 rfl (lv_at hl 3 rfl) ?_
          refine lv_iload_n S.1 S.2.1 dX5_joins_80 rfl (lv_at hl 0 rfl) ?_
          refine mo_ast 5 S E hS hM rfl (by show _ < 128; omega) dX5_joins_81 (fun H locs hM hS => ?_)
          rw [mi_up_up, mi_up_s] at hM
          refine lv_iconst (v := nI 1) S.1 S.2.1 dX5_joins_82 (by decide) ?_
          exact mi_retMz S hr hk hS dX5_joins_83 rfl (Nat.le_refl _) (Nat.le_refl _) ⟨_, pc_jn v a b, 1, rfl, hM, pc_jn_row hx (by unfold pc_mn; first | (rw [if_pos (by omega)]) | (rw [if_neg (by omega)])), Or.inr ⟨rfl, by omega, by omega, by omega, rfl⟩⟩
        · refine lv_aload_n S.1 S.2.1 dX5_joins_52 rfl (lv_at hl 0 rfl) ?_
          refine mo_g_20 S E hM dX5_joins_53 ?_
          refine lv_iload_n S.1 S.2.1 dX5_joins_56 rfl (lv_at hl 1 rfl) ?_
          refine mo_ald 5 S E hM rfl (by show _ < 128; omega) dX5_joins_57 ?_
          refine mi_top (v' := .int (mi_dn (v a))) (congrArg Value.int ((congrFun mi_up_s _).trans (hx a (by omega)))) ?_
          refine lv_goto (tgt := 67) S.1 S.2.1 dX5_joins_58 (by decide) ?_
          refine lv_istore_n (lv' := [(3, .int (mi_dn (v a))), (0, .ref (ad 1000020)), (1, .int (nI (a))), (2, .int (nI (b)))]) S.1 S.2.1 dX5_joins_67 rfl hl (by decide) rfl (fun ls hl => ?_)
          refine lv_aload_n S.1 S.2.1 dX5_joins_68 rfl (lv_at hl 1 rfl) ?_
          refine mo_g_20 S E hM dX5_joins_69 ?_
          refine lv_iload_n S.1 S.2.1 dX5_joins_72 rfl (lv_at hl 2 rfl) ?_
          refine lv_iload_n S.1 S.2.1 dX5_joins_73 rfl (lv_at hl 0 rfl) ?_
          refine mo_ast 5 S E hS hM rfl (by show _ < 128; omega) dX5_joins_74 (fun H locs hM hS => ?_)
          rw [mi_up_up, mi_up_s] at hM
          refine lv_aload_n S.1 S.2.1 dX5_joins_75 rfl (lv_at hl 1 rfl) ?_
          refine mo_g_20 S E hM dX5_joins_76 ?_
          refine lv_iload_n S.1 S.2.1 dX5_joins_79 rfl (lv_at hl 3 rfl) ?_
          refine lv_iload_n S.1 S.2.1 dX5_joins_80 rfl (lv_at hl 0 rfl) ?_
          refine mo_ast 5 S E hS hM rfl (by show _ < 128; omega) dX5_joins_81 (fun H locs hM hS => ?_)
          rw [mi_up_up, mi_up_s] at hM
          refine lv_iconst (v := nI 1) S.1 S.2.1 dX5_joins_82 (by decide) ?_
          exact mi_retMz S hr hk hS dX5_joins_83 rfl (Nat.le_refl _) (Nat.le_refl _) ⟨_, pc_jn v a b, 1, rfl, hM, pc_jn_row hx (by unfold pc_mn; first | (rw [if_pos (by omega)]) | (rw [if_neg (by omega)])), Or.inr ⟨rfl, by omega, by omega, by omega, rfl⟩⟩
      · refine lv_iconst (v := nI 0) S.1 S.2.1 dX5_joins_35 (by decide) ?_
        exact mi_retMz S hr hk hS dX5_joins_36 rfl (Nat.le_refl _) (Nat.le_refl _) ⟨x, v, 0, rfl, hM, hx, Or.inl ⟨rfl, rfl, by omega⟩⟩
set_option maxHeartbeats 4000000 in
set_option maxRecDepth 100000 in
theorem c_joinsAll (l : Launch) (D : va_G) (A : Nat → Prop) {ad : Nat → Nat} {cf0 : Nat → Option va_E} {f : Nat → Int32} {g : Nat → Nat → Int32} {x0 : Nat → Int32} {v0 K : Nat → Nat} (hx : ∀ j, j < 128 → x0 j = mi_dn (v0 j)) (hL : pc_L K v0) : mi_Mi l yX5_joinsAll (Cond.code yX5_joinsAll cX5_joinsAll 5 (some Jvm.ClassFile.FieldType.boolean)) (mi_rm 1) D A (mo_W D A ad cf0 f (va_up g 5 x0)) [.ref (ad 1000020)] 0 0 (fun r H => ∃ x1 v1 k1, r = nI k1 ∧ mo_W D A ad cf0 f (va_up g 5 x1) H ∧ (∀ j, j < 128 → x1 j = mi_dn (v1 j)) ∧ pc_J K v0 v1 k1 128 0) := by
  refine mi_start (cc := cX5_joinsAll) (nL := 5) (ret := (some Jvm.ClassFile.FieldType.boolean)) rfl (by decide) (Nat.le_of_ble_eq_true rfl) ?_
  intro p e s m below meth c ls S E hM hS hr hk hn hl
  have S : CallFix p m c cX5_joinsAll 5 s _ ((Cond.code yX5_joinsAll cX5_joinsAll 5 (some Jvm.ClassFile.FieldType.boolean)) :: mi_G) RX5 := S
  have hl : lv_has ls 5 [(0, .ref (ad 1000020))] := hl
  refine lv_iconst (v := nI 0) S.1 S.2.1 dX5_joinsAll_0 (by decide) ?_
  refine lv_istore_n (lv' := [(1, .int (nI (0))), (0, .ref (ad 1000020))]) S.1 S.2.1 dX5_joinsAll_1 rfl hl (by decide) rfl (fun ls hl => ?_)
  refine lv_iconst (v := nI 0) S.1 S.2.1 dX5_joinsAll_2 (by decide) ?_
  refine lv_istore_n (lv' := [(2, .int (nI (0))), (1, .int (nI (0))), (0, .ref (ad 1000020))]) S.1 S.2.1 dX5_joinsAll_3 rfl hl (by decide) rfl (fun ls hl => ?_)
  have lp4 : ∀ (n4 : Nat) (x : Nat → Int32) (v : Nat → Nat) (k : Nat) (i : Nat) (H : Heap) (locs : List Loc) (ls : Array Slot), 16 - i < n4 → i ≤ 16 → (∀ j, j < 128 → x j = mi_dn (v j)) → pc_J K v0 v k (8 * i) 0 → mo_W D A ad cf0 f (va_up g 5 x) H → va_S A s.heap H locs → lv_has ls 5 [(0, .ref (ad 1000020)), (1, .int (nI (k))), (2, .int (nI (i)))] → W p l e (mi_rm 1) s m ([.ref (ad 1000020)] : List Value).toArray below meth c H locs 0 0 (MQ below (mi_Qi A (fun r H => ∃ x1 v1 k1, r = nI k1 ∧ mo_W D A ad cf0 f (va_up g 5 x1) H ∧ (∀ j, j < 128 → x1 j = mi_dn (v1 j)) ∧ pc_J K v0 v1 k1 128 0)) ([.ref (ad 1000020)] : List Value).toArray s 0 0 A) (F0 m 4 ls []) := by
    intro n4
    induction n4 with
    | zero => intro x v k i H locs ls hm hi hx hJ hM hS hl; exact absurd hm (Nat.not_lt_zero _)
    | succ n4 ih4 =>
      intro x v k i H locs ls hm hi hx hJ hM hS hl
      refine lv_iload_n S.1 S.2.1 dX5_joinsAll_4 rfl (lv_at hl 2 rfl) ?_
      refine lv_bipush (v := nI 16) S.1 S.2.1 dX5_joinsAll_5 (by decide) ?_
      refine mi_icmp_ge (tgt := 134) S (by omega) (by omega) dX5_joinsAll_7 (by decide) (fun c7_0 => ?_) (fun c7_0 => ?_)
      · refine lv_iload_n S.1 S.2.1 dX5_joinsAll_134 rfl (lv_at hl 1 rfl) ?_
        exact mi_retMz S hr hk hS dX5_joinsAll_135 (mi_nz (pc_J_k hJ)) (Nat.le_refl _) (Nat.le_refl _) ⟨x, v, k, rfl, hM, hx, (by rw [show 128 = 8 * i by omega]; exact hJ)⟩
      · refine lv_iconst (v := nI 0) S.1 S.2.1 dX5_joinsAll_10 (by decide) ?_
        refine lv_istore_n (lv' := [(3, .int (nI (0))), (0, .ref (ad 1000020)), (1, .int (nI (k))), (2, .int (nI (i)))]) S.1 S.2.1 dX5_joinsAll_11 rfl hl (by decide) rfl (fun ls hl => ?_)
        have lp12 : ∀ (n12 : Nat) (x : Nat → Int32) (v : Nat → Nat) (k : Nat) (j : Nat) (H : Heap) (locs : List Loc) (ls : Array Slot), 8 - j < n12 → j ≤ 8 → (∀ j, j < 128 → x j = mi_dn (v j)) → pc_J K v0 v k (8 * i + j) 0 → mo_W D A ad cf0 f (va_up g 5 x) H → va_S A s.heap H locs → lv_has ls 5 [(0, .ref (ad 1000020)), (1, .int (nI (k))), (2, .int (nI (i))), (3, .int (nI (j)))] → W p l e (mi_rm 1) s m ([.ref (ad 1000020)] : List Value).toArray below meth c H locs 0 0 (MQ below (mi_Qi A (fun r H => ∃ x1 v1 k1, r = nI k1 ∧ mo_W D A ad cf0 f (va_up g 5 x1) H ∧ (∀ j, j < 128 → x1 j = mi_dn (v1 j)) ∧ pc_J K v0 v1 k1 128 0)) ([.ref (ad 1000020)] : List Value).toArray s 0 0 A) (F0 m 12 ls []) := by
          intro n12
          induction n12 with
          | zero => intro x v k j H locs ls hm hj hx hJ hM hS hl; exact absurd hm (Nat.not_lt_zero _)
          | succ n12 ih12 =>
            intro x v k j H locs ls hm hj hx hJ hM hS hl
            refine lv_iload_n S.1 S.2.1 dX5_joinsAll_12 rfl (lv_at hl 3 rfl) ?_
            refine lv_bipush (v := nI 8) S.1 S.2.1 dX5_joinsAll_13 (by decide) ?_
            refine mi_icmp_ge (tgt := 128) S (by omega) (by omega) dX5_joinsAll_15 (by decide) (fun c15_1 => ?_) (fun c15_1 => ?_)
            · refine lv_iinc (v := nI (i + 1)) (lv' := [(2, .int (nI (i + 1))), (0, .ref (ad 1000020)), (1, .int (nI (k))), (3, .int (nI (j)))]) S.1 S.2.1 dX5_joinsAll_128 hl (k := 2) rfl (mi_inc _) (by decide) rfl (fun ls hl => ?_)
              refine lv_goto (tgt := 4) S.1 S.2.1 dX5_joinsAll_131 (by decide) ?_
              exact ih4 x v k (i + 1) _ _ _ (by omega) (by omega) (hx) (by rw [show 8 * (i + 1) = 8 * i + j by omega]; exact hJ) hM hS (lv_sub hl [1, 2, 0] rfl)
            · refine lv_bipush (v := nI 8) S.1 S.2.1 dX5_joinsAll_18 (by decide) ?_
              refine lv_iload_n S.1 S.2.1 dX5_joinsAll_20 rfl (lv_at hl 2 rfl) ?_
              refine mi_imul S dX5_joinsAll_21 ?_
              refine lv_iload_n S.1 S.2.1 dX5_joinsAll_22 rfl (lv_at hl 3 rfl) ?_
              refine mi_iadd S dX5_joinsAll_23 ?_
              refine lv_istore (lv' := [(4, .int (nI ((8 * i) + j))), (0, .ref (ad 1000020)), (1, .int (nI (k))), (2, .int (nI (i))), (3, .int (nI (j)))]) S.1 S.2.1 dX5_joinsAll_24 hl (by decide) rfl (fun ls hl => ?_)
              have mg57_3 : ∀ (x : Nat → Int32) (v : Nat → Nat) (k : Nat) (H : Heap) (locs : List Loc) (ls : Array Slot), (∀ j, j < 128 → x j = mi_dn (v j)) → pc_J K v0 v k (8 * i + j) 1 → mo_W D A ad cf0 f (va_up g 5 x) H → va_S A s.heap H locs → lv_has ls 5 [(0, .ref (ad 1000020)), (1, .int (nI (k))), (2, .int (nI (i))), (3, .int (nI (j))), (4, .int (nI (8 * i + j)))] → W p l e (mi_rm 1) s m ([.ref (ad 1000020)] : List Value).toArray below meth c H locs 0 0 (MQ below (mi_Qi A (fun r H => ∃ x1 v1 k1, r = nI k1 ∧ mo_W D A ad cf0 f (va_up g 5 x1) H ∧ (∀ j, j < 128 → x1 j = mi_dn (v1 j)) ∧ pc_J K v0 v1 k1 128 0)) ([.ref (ad 1000020)] : List Value).toArray s 0 0 A) (F0 m 57 ls []) := by
                intro x v k H locs ls hx hJ hM hS hl
                have mg90_4 : ∀ (x : Nat → Int32) (v : Nat → Nat) (k : Nat) (H : Heap) (locs : List Loc) (ls : Array Slot), (∀ j, j < 128 → x j = mi_dn (v j)) → pc_J K v0 v k (8 * i + j) 2 → mo_W D A ad cf0 f (va_up g 5 x) H → va_S A s.heap H locs → lv_has ls 5 [(0, .ref (ad 1000020)), (1, .int (nI (k))), (2, .int (nI (i))), (3, .int (nI (j))), (4, .int (nI (8 * i + j)))] → W p l e (mi_rm 1) s m ([.ref (ad 1000020)] : List Value).toArray below meth c H locs 0 0 (MQ below (mi_Qi A (fun r H => ∃ x1 v1 k1, r = nI k1 ∧ mo_W D A ad cf0 f (va_up g 5 x1) H ∧ (∀ j, j < 128 → x1 j = mi_dn (v1 j)) ∧ pc_J K v0 v1 k1 128 0)) ([.ref (ad 1000020)] : List Value).toArray s 0 0 A) (F0 m 90 ls []) := by
                  intro x v k H locs ls hx hJ hM hS hl
                  refine lv_iload_n S.1 S.2.1 dX5_joinsAll_90 rfl (lv_at hl 2 rfl) ?_
                  refine lv_iconst (v := nI 4) S.1 S.2.1 dX5_joinsAll_91 (by decide) ?_
                  refine mi_iadd S dX5_joinsAll_92 ?_
                  refine lv_bipush (v := nI 16) S.1 S.2.1 dX5_joinsAll_93 (by decide) ?_
                  refine mi_icmp_ge (tgt := 112) S (by omega) (by omega) dX5_joinsAll_95 (by decide) (fun c95_4 => ?_) (fun c95_4 => ?_)
                  · have hkb := pc_J_k hJ
                    refine lv_iload_n S.1 S.2.1 dX5_joinsAll_112 rfl (lv_at hl 1 rfl) ?_
                    refine mi_if_eq (tgt := 120) S (by omega) dX5_joinsAll_113 (by decide) (fun c113_5 => ?_) (fun c113_5 => ?_)
                    · refine lv_iconst (v := nI 0) S.1 S.2.1 dX5_joinsAll_120 (by decide) ?_
                      refine lv_istore_n (lv' := [(1, .int (nI (0))), (0, .ref (ad 1000020)), (2, .int (nI (i))), (3, .int (nI (j))), (4, .int (nI (8 * i + j)))]) S.1 S.2.1 dX5_joinsAll_121 rfl hl (by decide) rfl (fun ls hl => ?_)
                      refine lv_iinc (v := nI (j + 1)) (lv' := [(3, .int (nI (j + 1))), (1, .int (nI (0))), (0, .ref (ad 1000020)), (2, .int (nI (i))), (4, .int (nI (8 * i + j)))]) S.1 S.2.1 dX5_joinsAll_122 hl (k := 3) rfl (mi_inc _) (by decide) rfl (fun ls hl => ?_)
                      refine lv_goto (tgt := 12) S.1 S.2.1 dX5_joinsAll_125 (by decide) ?_
                      exact ih12 x v 0 (j + 1) _ _ _ (by omega) (by omega) (hx) (pc_J_next (n := 8 * i + j) (pc_J_skip (k := k) hJ (by have := pc_J_k hJ; omega) (by omega)) (by omega)) hM hS (lv_sub hl [2, 1, 3, 0] rfl)
                    · refine lv_iconst (v := nI 1) S.1 S.2.1 dX5_joinsAll_116 (by decide) ?_
                      refine lv_goto (tgt := 121) S.1 S.2.1 dX5_joinsAll_117 (by decide) ?_
                      refine lv_istore_n (lv' := [(1, .int (nI (1))), (0, .ref (ad 1000020)), (2, .int (nI (i))), (3, .int (nI (j))), (4, .int (nI (8 * i + j)))]) S.1 S.2.1 dX5_joinsAll_121 rfl hl (by decide) rfl (fun ls hl => ?_)
                      refine lv_iinc (v := nI (j + 1)) (lv' := [(3, .int (nI (j + 1))), (1, .int (nI (1))), (0, .ref (ad 1000020)), (2, .int (nI (i))), (4, .int (nI (8 * i + j)))]) S.1 S.2.1 dX5_joinsAll_122 hl (k := 3) rfl (mi_inc _) (by decide) rfl (fun ls hl => ?_)
                      refine lv_goto (tgt := 12) S.1 S.2.1 dX5_joinsAll_125 (by decide) ?_
                      exact ih12 x v 1 (j + 1) _ _ _ (by omega) (by omega) (hx) (pc_J_next (n := 8 * i + j) (pc_J_skip (k := k) hJ (by have := pc_J_k hJ; omega) (by omega)) (by omega)) hM hS (lv_sub hl [2, 1, 3, 0] rfl)
                  · refine lv_aload_n S.1 S.2.1 dX5_joinsAll_98 rfl (lv_at hl 0 rfl) ?_
                    refine lv_iload S.1 S.2.1 dX5_joinsAll_99 (lv_at hl 4 rfl) ?_
                    refine lv_iload S.1 S.2.1 dX5_joinsAll_101 (lv_at hl 4 rfl) ?_
                    refine lv_bipush (v := nI 32) S.1 S.2.1 dX5_joinsAll_103 (by decide) ?_
                    refine mi_iadd S dX5_joinsAll_105 ?_
                    refine mi_cMi (mi_runV (P := mo_W D A ad cf0 f (va_up g 5 x)) (As := [.int (nI (8 * i + j)), .int (nI ((8 * i + j) + 32))]) (rest := []) S E hS hM (ad 1000020) (c_joins l D A (f := f) (g := g) (x := x) (v := v) hx (fun j hj => pc_L_le hJ.1 hj) (by omega) (by omega)) (hM.recv E) mw_807 mw_804 mw_806 mw_25 mw_43 ⟨by decide, by decide, by decide +kernel⟩ ⟨rfl, rfl, Nat.le_of_ble_eq_true rfl, Nat.le_of_ble_eq_true rfl⟩ (n := 2) rfl hl.1 rfl (Nat.le_of_ble_eq_true rfl) dX5_joinsAll_106 ⟨Nat.le_of_ble_eq_true rfl, Nat.le_of_ble_eq_true rfl⟩) hS (fun r9 H locs hp9 hS hz => ?_)
                    obtain ⟨x7, v7, k7, rfl, hM, hx7, hj7⟩ := hp9
                    refine mi_if_ne (tgt := 116) S (by omega) dX5_joinsAll_109 (by decide) (fun c109_7 => ?_) (fun c109_7 => ?_)
                    · refine lv_iconst (v := nI 1) S.1 S.2.1 dX5_joinsAll_116 (by decide) ?_
                      refine lv_goto (tgt := 121) S.1 S.2.1 dX5_joinsAll_117 (by decide) ?_
                      refine lv_istore_n (lv' := [(1, .int (nI (1))), (0, .ref (ad 1000020)), (2, .int (nI (i))), (3, .int (nI (j))), (4, .int (nI (8 * i + j)))]) S.1 S.2.1 dX5_joinsAll_121 rfl hl (by decide) rfl (fun ls hl => ?_)
                      refine lv_iinc (v := nI (j + 1)) (lv' := [(3, .int (nI (j + 1))), (1, .int (nI (1))), (0, .ref (ad 1000020)), (2, .int (nI (i))), (4, .int (nI (8 * i + j)))]) S.1 S.2.1 dX5_joinsAll_122 hl (k := 3) rfl (mi_inc _) (by decide) rfl (fun ls hl => ?_)
                      refine lv_goto (tgt := 12) S.1 S.2.1 dX5_joinsAll_125 (by decide) ?_
                      exact ih12 x7 v7 1 (j + 1) _ _ _ (by omega) (by omega) (hx7) (pc_J_next (n := 8 * i + j) (pc_J_join (r := k7) (k := k) hJ (by omega) (by omega) (by omega) hj7 (by omega) (by omega)) (by omega)) hM hS (lv_sub hl [2, 1, 3, 0] rfl)
                    · have hkb := pc_J_k hJ
                      refine lv_iload_n S.1 S.2.1 dX5_joinsAll_112 rfl (lv_at hl 1 rfl) ?_
                      refine mi_if_eq (tgt := 120) S (by omega) dX5_joinsAll_113 (by decide) (fun c113_8 => ?_) (fun c113_8 => ?_)
                      · refine lv_iconst (v := nI 0) S.1 S.2.1 dX5_joinsAll_120 (by decide) ?_
                        refine lv_istore_n (lv' := [(1, .int (nI (0))), (0, .ref (ad 1000020)), (2, .int (nI (i))), (3, .int (nI (j))), (4, .int (nI (8 * i + j)))]) S.1 S.2.1 dX5_joinsAll_121 rfl hl (by decide) rfl (fun ls hl => ?_)
                        refine lv_iinc (v := nI (j + 1)) (lv' := [(3, .int (nI (j + 1))), (1, .int (nI (0))), (0, .ref (ad 1000020)), (2, .int (nI (i))), (4, .int (nI (8 * i + j)))]) S.1 S.2.1 dX5_joinsAll_122 hl (k := 3) rfl (mi_inc _) (by decide) rfl (fun ls hl => ?_)
                        refine lv_goto (tgt := 12) S.1 S.2.1 dX5_joinsAll_125 (by decide) ?_
                        exact ih12 x7 v7 0 (j + 1) _ _ _ (by omega) (by omega) (hx7) (pc_J_next (n := 8 * i + j) (pc_J_join (r := k7) (k := k) hJ (by omega) (by omega) (by omega) hj7 (by omega) (by omega)) (by omega)) hM hS (lv_sub hl [2, 1, 3, 0] rfl)
                      · refine lv_iconst (v := nI 1) S.1 S.2.1 dX5_joinsAll_116 (by decide) ?_
                        refine lv_goto (tgt := 121) S.1 S.2.1 dX5_joinsAll_117 (by decide) ?_
                        refine lv_istore_n (lv' := [(1, .int (nI (1))), (0, .ref (ad 1000020)), (2, .int (nI (i))), (3, .int (nI (j))), (4, .int (nI (8 * i + j)))]) S.1 S.2.1 dX5_joinsAll_121 rfl hl (by decide) rfl (fun ls hl => ?_)
                        refine lv_iinc (v := nI (j + 1)) (lv' := [(3, .int (nI (j + 1))), (1, .int (nI (1))), (0, .ref (ad 1000020)), (2, .int (nI (i))), (4, .int (nI (8 * i + j)))]) S.1 S.2.1 dX5_joinsAll_122 hl (k := 3) rfl (mi_inc _) (by decide) rfl (fun ls hl => ?_)
                        refine lv_goto (tgt := 12) S.1 S.2.1 dX5_joinsAll_125 (by decide) ?_
                        exact ih12 x7 v7 1 (j + 1) _ _ _ (by omega) (by omega) (hx7) (pc_J_next (n := 8 * i + j) (pc_J_join (r := k7) (k := k) hJ (by omega) (by omega) (by omega) hj7 (by omega) (by omega)) (by omega)) hM hS (lv_sub hl [2, 1, 3, 0] rfl)
                refine lv_iload_n S.1 S.2.1 dX5_joinsAll_57 rfl (lv_at hl 2 rfl) ?_
                refine lv_iconst (v := nI 4) S.1 S.2.1 dX5_joinsAll_58 (by decide) ?_
                refine mi_irem S (by omega) (by omega) (by omega) dX5_joinsAll_59 ?_
                refine lv_iconst (v := nI 1) S.1 S.2.1 dX5_joinsAll_60 (by decide) ?_
                refine mi_iadd S dX5_joinsAll_61 ?_
                refine lv_iconst (v := nI 4) S.1 S.2.1 dX5_joinsAll_62 (by decide) ?_
                refine mi_icmp_ge (tgt := 80) S (by omega) (by omega) dX5_joinsAll_63 (by decide) (fun c63_9 => ?_) (fun c63_9 => ?_)
                · have hkb := pc_J_k hJ
                  refine lv_iload_n S.1 S.2.1 dX5_joinsAll_80 rfl (lv_at hl 1 rfl) ?_
                  refine mi_if_eq (tgt := 88) S (by omega) dX5_joinsAll_81 (by decide) (fun c81_10 => ?_) (fun c81_10 => ?_)
                  · refine lv_iconst (v := nI 0) S.1 S.2.1 dX5_joinsAll_88 (by decide) ?_
                    refine lv_istore_n (lv' := [(1, .int (nI (0))), (0, .ref (ad 1000020)), (2, .int (nI (i))), (3, .int (nI (j))), (4, .int (nI (8 * i + j)))]) S.1 S.2.1 dX5_joinsAll_89 rfl hl (by decide) rfl (fun ls hl => ?_)
                    exact mg90_4 x v 0 _ _ _ (hx) (pc_J_skip (k := k) hJ (by have := pc_J_k hJ; omega) (by omega)) hM hS (lv_sub hl [1, 0, 2, 3, 4] rfl)
                  · refine lv_iconst (v := nI 1) S.1 S.2.1 dX5_joinsAll_84 (by decide) ?_
                    refine lv_goto (tgt := 89) S.1 S.2.1 dX5_joinsAll_85 (by decide) ?_
                    refine lv_istore_n (lv' := [(1, .int (nI (1))), (0, .ref (ad 1000020)), (2, .int (nI (i))), (3, .int (nI (j))), (4, .int (nI (8 * i + j)))]) S.1 S.2.1 dX5_joinsAll_89 rfl hl (by decide) rfl (fun ls hl => ?_)
                    exact mg90_4 x v 1 _ _ _ (hx) (pc_J_skip (k := k) hJ (by have := pc_J_k hJ; omega) (by omega)) hM hS (lv_sub hl [1, 0, 2, 3, 4] rfl)
                · refine lv_aload_n S.1 S.2.1 dX5_joinsAll_66 rfl (lv_at hl 0 rfl) ?_
                  refine lv_iload S.1 S.2.1 dX5_joinsAll_67 (lv_at hl 4 rfl) ?_
                  refine lv_iload S.1 S.2.1 dX5_joinsAll_69 (lv_at hl 4 rfl) ?_
                  refine lv_bipush (v := nI 8) S.1 S.2.1 dX5_joinsAll_71 (by decide) ?_
                  refine mi_iadd S dX5_joinsAll_73 ?_
                  refine mi_cMi (mi_runV (P := mo_W D A ad cf0 f (va_up g 5 x)) (As := [.int (nI (8 * i + j)), .int (nI ((8 * i + j) + 8))]) (rest := []) S E hS hM (ad 1000020) (c_joins l D A (f := f) (g := g) (x := x) (v := v) hx (fun j hj => pc_L_le hJ.1 hj) (by omega) (by omega)) (hM.recv E) mw_807 mw_804 mw_806 mw_25 mw_43 ⟨by decide, by decide, by decide +kernel⟩ ⟨rfl, rfl, Nat.le_of_ble_eq_true rfl, Nat.le_of_ble_eq_true rfl⟩ (n := 2) rfl hl.1 rfl (Nat.le_of_ble_eq_true rfl) dX5_joinsAll_74 ⟨Nat.le_of_ble_eq_true rfl, Nat.le_of_ble_eq_true rfl⟩) hS (fun r9 H locs hp9 hS hz => ?_)
                  obtain ⟨x12, v12, k12, rfl, hM, hx12, hj12⟩ := hp9
                  refine mi_if_ne (tgt := 84) S (by omega) dX5_joinsAll_77 (by decide) (fun c77_12 => ?_) (fun c77_12 => ?_)
                  · refine lv_iconst (v := nI 1) S.1 S.2.1 dX5_joinsAll_84 (by decide) ?_
                    refine lv_goto (tgt := 89) S.1 S.2.1 dX5_joinsAll_85 (by decide) ?_
                    refine lv_istore_n (lv' := [(1, .int (nI (1))), (0, .ref (ad 1000020)), (2, .int (nI (i))), (3, .int (nI (j))), (4, .int (nI (8 * i + j)))]) S.1 S.2.1 dX5_joinsAll_89 rfl hl (by decide) rfl (fun ls hl => ?_)
                    exact mg90_4 x12 v12 1 _ _ _ (hx12) (pc_J_join (r := k12) (k := k) hJ (by omega) (by omega) (by omega) hj12 (by omega) (by omega)) hM hS (lv_sub hl [1, 0, 2, 3, 4] rfl)
                  · have hkb := pc_J_k hJ
                    refine lv_iload_n S.1 S.2.1 dX5_joinsAll_80 rfl (lv_at hl 1 rfl) ?_
                    refine mi_if_eq (tgt := 88) S (by omega) dX5_joinsAll_81 (by decide) (fun c81_13 => ?_) (fun c81_13 => ?_)
                    · refine lv_iconst (v := nI 0) S.1 S.2.1 dX5_joinsAll_88 (by decide) ?_
                      refine lv_istore_n (lv' := [(1, .int (nI (0))), (0, .ref (ad 1000020)), (2, .int (nI (i))), (3, .int (nI (j))), (4, .int (nI (8 * i + j)))]) S.1 S.2.1 dX5_joinsAll_89 rfl hl (by decide) rfl (fun ls hl => ?_)
                      exact mg90_4 x12 v12 0 _ _ _ (hx12) (pc_J_join (r := k12) (k := k) hJ (by omega) (by omega) (by omega) hj12 (by omega) (by omega)) hM hS (lv_sub hl [1, 0, 2, 3, 4] rfl)
                    · refine lv_iconst (v := nI 1) S.1 S.2.1 dX5_joinsAll_84 (by decide) ?_
                      refine lv_goto (tgt := 89) S.1 S.2.1 dX5_joinsAll_85 (by decide) ?_
                      refine lv_istore_n (lv' := [(1, .int (nI (1))), (0, .ref (ad 1000020)), (2, .int (nI (i))), (3, .int (nI (j))), (4, .int (nI (8 * i + j)))]) S.1 S.2.1 dX5_joinsAll_89 rfl hl (by decide) rfl (fun ls hl => ?_)
                      exact mg90_4 x12 v12 1 _ _ _ (hx12) (pc_J_join (r := k12) (k := k) hJ (by omega) (by omega) (by omega) hj12 (by omega) (by omega)) hM hS (lv_sub hl [1, 0, 2, 3, 4] rfl)
              refine lv_iload_n S.1 S.2.1 dX5_joinsAll_26 rfl (lv_at hl 4 rfl) ?_
              refine lv_iconst (v := nI 1) S.1 S.2.1 dX5_joinsAll_27 (by decide) ?_
              refine mi_iadd S dX5_joinsAll_28 ?_
              refine lv_bipush (v := nI 8) S.1 S.2.1 dX5_joinsAll_29 (by decide) ?_
              refine mi_icmp_ge (tgt := 47) S (by omega) (by omega) dX5_joinsAll_31 (by decide) (fun c31_14 => ?_) (fun c31_14 => ?_)
              · have hkb := pc_J_k hJ
                refine lv_iload_n S.1 S.2.1 dX5_joinsAll_47 rfl (lv_at hl 2 rfl) ?_
                refine mi_if_eq (tgt := 55) S (by omega) dX5_joinsAll_48 (by decide) (fun c48_15 => ?_) (fun c48_15 => ?_)
                · refine lv_iconst (v := nI 0) S.1 S.2.1 dX5_joinsAll_55 (by decide) ?_
                  refine lv_istore_n (lv' := [(1, .int (nI (0))), (4, .int (nI ((8 * i) + j))), (0, .ref (ad 1000020)), (2, .int (nI (i))), (3, .int (nI (j)))]) S.1 S.2.1 dX5_joinsAll_56 rfl hl (by decide) rfl (fun ls hl => ?_)
                  exact mg57_3 x v 0 _ _ _ (hx) (pc_J_skip (k := k) hJ (by have := pc_J_k hJ; omega) (by omega)) hM hS (lv_sub hl [2, 0, 3, 4, 1] rfl)
                · refine lv_iconst (v := nI 1) S.1 S.2.1 dX5_joinsAll_51 (by decide) ?_
                  refine lv_goto (tgt := 56) S.1 S.2.1 dX5_joinsAll_52 (by decide) ?_
                  refine lv_istore_n (lv' := [(1, .int (nI (1))), (4, .int (nI ((8 * i) + j))), (0, .ref (ad 1000020)), (2, .int (nI (i))), (3, .int (nI (j)))]) S.1 S.2.1 dX5_joinsAll_56 rfl hl (by decide) rfl (fun ls hl => ?_)
                  exact mg57_3 x v 1 _ _ _ (hx) (pc_J_skip (k := k) hJ (by have := pc_J_k hJ; omega) (by omega)) hM hS (lv_sub hl [2, 0, 3, 4, 1] rfl)
              · refine lv_aload_n S.1 S.2.1 dX5_joinsAll_34 rfl (lv_at hl 1 rfl) ?_
                refine lv_iload S.1 S.2.1 dX5_joinsAll_35 (lv_at hl 0 rfl) ?_
                refine lv_iload S.1 S.2.1 dX5_joinsAll_37 (lv_at hl 0 rfl) ?_
                refine lv_iconst (v := nI 1) S.1 S.2.1 dX5_joinsAll_39 (by decide) ?_
                refine mi_iadd S dX5_joinsAll_40 ?_
                refine mi_cMi (mi_runV (P := mo_W D A ad cf0 f (va_up g 5 x)) (As := [.int (nI ((8 * i) + j)), .int (nI (((8 * i) + j) + 1))]) (rest := []) S E hS hM (ad 1000020) (c_joins l D A (f := f) (g := g) (x := x) (v := v) hx (fun j hj => pc_L_le hJ.1 hj) (by omega) (by omega)) (hM.recv E) mw_807 mw_804 mw_806 mw_25 mw_43 ⟨by decide, by decide, by decide +kernel⟩ ⟨rfl, rfl, Nat.le_of_ble_eq_true rfl, Nat.le_of_ble_eq_true rfl⟩ (n := 2) rfl hl.1 rfl (Nat.le_of_ble_eq_true rfl) dX5_joinsAll_41 ⟨Nat.le_of_ble_eq_true rfl, Nat.le_of_ble_eq_true rfl⟩) hS (fun r9 H locs hp9 hS hz => ?_)
                obtain ⟨x17, v17, k17, rfl, hM, hx17, hj17⟩ := hp9
                refine mi_if_ne (tgt := 51) S (by omega) dX5_joinsAll_44 (by decide) (fun c44_17 => ?_) (fun c44_17 => ?_)
                · refine lv_iconst (v := nI 1) S.1 S.2.1 dX5_joinsAll_51 (by decide) ?_
                  refine lv_goto (tgt := 56) S.1 S.2.1 dX5_joinsAll_52 (by decide) ?_
                  refine lv_istore_n (lv' := [(1, .int (nI (1))), (4, .int (nI ((8 * i) + j))), (0, .ref (ad 1000020)), (2, .int (nI (i))), (3, .int (nI (j)))]) S.1 S.2.1 dX5_joinsAll_56 rfl hl (by decide) rfl (fun ls hl => ?_)
                  exact mg57_3 x17 v17 1 _ _ _ (hx17) (pc_J_join (r := k17) (k := k) hJ (by omega) (by omega) (by omega) hj17 (by omega) (by omega)) hM hS (lv_sub hl [2, 0, 3, 4, 1] rfl)
                · have hkb := pc_J_k hJ
                  refine lv_iload_n S.1 S.2.1 dX5_joinsAll_47 rfl (lv_at hl 2 rfl) ?_
                  refine mi_if_eq (tgt := 55) S (by omega) dX5_joinsAll_48 (by decide) (fun c48_18 => ?_) (fun c48_18 => ?_)
                  · refine lv_iconst (v := nI 0) S.1 S.2.1 dX5_joinsAll_55 (by decide) ?_
                    refine lv_istore_n (lv' := [(1, .int (nI (0))), (4, .int (nI ((8 * i) + j))), (0, .ref (ad 1000020)), (2, .int (nI (i))), (3, .int (nI (j)))]) S.1 S.2.1 dX5_joinsAll_56 rfl hl (by decide) rfl (fun ls hl => ?_)
                    exact mg57_3 x17 v17 0 _ _ _ (hx17) (pc_J_join (r := k17) (k := k) hJ (by omega) (by omega) (by omega) hj17 (by omega) (by omega)) hM hS (lv_sub hl [2, 0, 3, 4, 1] rfl)
                  · refine lv_iconst (v := nI 1) S.1 S.2.1 dX5_joinsAll_51 (by decide) ?_
                    refine lv_goto (tgt := 56) S.1 S.2.1 dX5_joinsAll_52 (by decide) ?_
                    refine lv_istore_n (lv' := [(1, .int (nI (1))), (4, .int (nI ((8 * i) + j))), (0, .ref (ad 1000020)), (2, .int (nI (i))), (3, .int (nI (j)))]) S.1 S.2.1 dX5_joinsAll_56 rfl hl (by decide) rfl (fun ls hl => ?_)
                    exact mg57_3 x17 v17 1 _ _ _ (hx17) (pc_J_join (r := k17) (k := k) hJ (by omega) (by omega) (by omega) hj17 (by omega) (by omega)) hM hS (lv_sub hl [2, 0, 3, 4, 1] rfl)
        exact lp12 _ x v k 0 _ _ _ (Nat.lt_succ_self _) (by omega) (hx) (hJ) hM hS (lv_sub hl [1, 2, 3, 0] rfl)
  exact lp4 _ x0 v0 0 0 _ _ _ (Nat.lt_succ_self _) (by omega) (hx) (pc_J_0 hL) hM hS (lv_sub hl [2, 1, 0] rfl)
set_option maxHeartbeats 4000000 in
set_option maxRecDepth 100000 in
theorem c_manyPieces (l : Launch) (D : va_G) (A : Nat → Prop) {ad : Nat → Nat} {cf0 : Nat → Option va_E} {f : Nat → Int32} {g : Nat → Nat → Int32}{w : Nat} {K : Nat → Nat} (hw : w < 61) (hf2 : f 2 = nI w) (hK : ∀ a b, a < 16 → b < 8 → mo_kd (g 4 (16 * w + a)) b = nI (K (8 * a + b))) (hKb : ∀ j, j < 128 → K j < 4) : mi_Mi l yX5_manyPieces (Cond.code yX5_manyPieces cX5_manyPieces 4 (some Jvm.ClassFile.FieldType.int)) (mi_rm 2) D A (mo_W D A ad cf0 f g) [.ref (ad 1000020)] 0 0 (fun r H => ∃ k1 x1, r = nI k1 ∧ pc_ct (pc_lst K) 128 k1 ∧ mo_W D A ad cf0 f (va_up g 5 x1) H) := by
  refine mi_start (cc := cX5_manyPieces) (nL := 4) (ret := (some Jvm.ClassFile.FieldType.int)) rfl (by decide) (Nat.le_of_ble_eq_true rfl) ?_
  intro p e s m below meth c ls S E hM hS hr hk hn hl
  have S : CallFix p m c cX5_manyPieces 4 s _ ((Cond.code yX5_manyPieces cX5_manyPieces 4 (some Jvm.ClassFile.FieldType.int)) :: mi_G) RX5 := S
  have hl : lv_has ls 4 [(0, .ref (ad 1000020))] := hl
  refine lv_iconst (v := nI 0) S.1 S.2.1 dX5_manyPieces_0 (by decide) ?_
  refine lv_istore_n (lv' := [(1, .int (nI (0))), (0, .ref (ad 1000020))]) S.1 S.2.1 dX5_manyPieces_1 rfl hl (by decide) rfl (fun ls hl => ?_)
  have lp2 : ∀ (n2 : Nat) (x : Nat → Int32) (i : Nat) (H : Heap) (locs : List Loc) (ls : Array Slot), 128 - i < n2 → i ≤ 128 → (∀ j, j < i → x j = mi_dn (pc_v0 K j)) → mo_W D A ad cf0 f (va_up g 5 x) H → va_S A s.heap H locs → lv_has ls 4 [(0, .ref (ad 1000020)), (1, .int (nI (i)))] → W p l e (mi_rm 2) s m ([.ref (ad 1000020)] : List Value).toArray below meth c H locs 0 0 (MQ below (mi_Qi A (fun r H => ∃ k1 x1, r = nI k1 ∧ pc_ct (pc_lst K) 128 k1 ∧ mo_W D A ad cf0 f (va_up g 5 x1) H)) ([.ref (ad 1000020)] : List Value).toArray s 0 0 A) (F0 m 2 ls []) := by
    intro n2
    induction n2 with
    | zero => intro x i H locs ls hm hi hx hM hS hl; exact absurd hm (Nat.not_lt_zero _)
    | succ n2 ih2 =>
      intro x i H locs ls hm hi hx hM hS hl
      refine lv_iload_n S.1 S.2.1 dX5_manyPieces_2 rfl (lv_at hl 1 rfl) ?_
      refine lv_sipush (v := nI 128) S.1 S.2.1 dX5_manyPieces_3 (by decide) ?_
      refine mi_icmp_ge (tgt := 41) S (by omega) (by omega) dX5_manyPieces_6 (by decide) (fun c6_0 => ?_) (fun c6_0 => ?_)
      · refine lv_iconst (v := nI 1) S.1 S.2.1 dX5_manyPieces_41 (by decide) ?_
        refine lv_istore_n (lv' := [(1, .int (nI (1))), (0, .ref (ad 1000020))]) S.1 S.2.1 dX5_manyPieces_42 rfl hl (by decide) rfl (fun ls hl => ?_)
        have lp43 : ∀ (n43 : Nat) (x : Nat → Int32) (v : Nat → Nat) (k : Nat) (H : Heap) (locs : List Loc) (ls : Array Slot), 2 * fb_sm v 128 + k < n43 → k ≤ 1 → (∀ j, j < 128 → x j = mi_dn (v j)) → pc_L K v → (k = 0 → pc_cl v 128) → mo_W D A ad cf0 f (va_up g 5 x) H → va_S A s.heap H locs → lv_has ls 4 [(0, .ref (ad 1000020)), (1, .int (nI (k)))] → W p l e (mi_rm 2) s m ([.ref (ad 1000020)] : List Value).toArray below meth c H locs 0 0 (MQ below (mi_Qi A (fun r H => ∃ k1 x1, r = nI k1 ∧ pc_ct (pc_lst K) 128 k1 ∧ mo_W D A ad cf0 f (va_up g 5 x1) H)) ([.ref (ad 1000020)] : List Value).toArray s 0 0 A) (F0 m 43 ls []) := by
          intro n43
          induction n43 with
          | zero => intro x v k H locs ls hm hkb hx hL hc9 hM hS hl; exact absurd hm (Nat.not_lt_zero _)
          | succ n43 ih43 =>
            intro x v k H locs ls hm hkb hx hL hc9 hM hS hl
            refine lv_iload_n S.1 S.2.1 dX5_manyPieces_43 rfl (lv_at hl 1 rfl) ?_
            refine mi_if_eq (tgt := 55) S (by omega) dX5_manyPieces_44 (by decide) (fun c44_1 => ?_) (fun c44_1 => ?_)
            · have hcl := hc9 (by omega)
              have hvb : ∀ j, j < 128 → v j ≤ 128 := fun j hj => pc_L_le hL hj
              refine lv_iconst (v := nI 0) S.1 S.2.1 dX5_manyPieces_55 (by decide) ?_
              refine lv_istore_n (lv' := [(2, .int (nI (0))), (0, .ref (ad 1000020)), (1, .int (nI (k)))]) S.1 S.2.1 dX5_manyPieces_56 rfl hl (by decide) rfl (fun ls hl => ?_)
              refine lv_iconst (v := nI 0) S.1 S.2.1 dX5_manyPieces_57 (by decide) ?_
              refine lv_istore_n (lv' := [(3, .int (nI (0))), (2, .int (nI (0))), (0, .ref (ad 1000020)), (1, .int (nI (k)))]) S.1 S.2.1 dX5_manyPieces_58 rfl hl (by decide) rfl (fun ls hl => ?_)
              have lp59 : ∀ (n59 : Nat) (n : Nat) (i : Nat) (ls : Array Slot), 128 - i < n59 → i ≤ 128 → n = fb_ct (fun p => decide (v p = p + 1)) i → lv_has ls 4 [(0, .ref (ad 1000020)), (2, .int (nI (n))), (3, .int (nI (i)))] → W p l e (mi_rm 2) s m ([.ref (ad 1000020)] : List Value).toArray below meth c H locs 0 0 (MQ below (mi_Qi A (fun r H => ∃ k1 x1, r = nI k1 ∧ pc_ct (pc_lst K) 128 k1 ∧ mo_W D A ad cf0 f (va_up g 5 x1) H)) ([.ref (ad 1000020)] : List Value).toArray s 0 0 A) (F0 m 59 ls []) := by
                intro n59
                induction n59 with
                | zero => intro n i ls hm hi hn9  hl; exact absurd hm (Nat.not_lt_zero _)
                | succ n59 ih59 =>
                  intro n i ls hm hi hn9  hl
                  refine lv_iload_n S.1 S.2.1 dX5_manyPieces_59 rfl (lv_at hl 2 rfl) ?_
                  refine lv_sipush (v := nI 128) S.1 S.2.1 dX5_manyPieces_60 (by decide) ?_
                  refine mi_icmp_ge (tgt := 90) S (by omega) (by omega) dX5_manyPieces_63 (by decide) (fun c63_2 => ?_) (fun c63_2 => ?_)
                  · refine lv_iload_n S.1 S.2.1 dX5_manyPieces_90 rfl (lv_at hl 1 rfl) ?_
                    exact mi_retMi S hr hk hS dX5_manyPieces_91 (Nat.le_refl _) (Nat.le_refl _) ⟨n, x, rfl, (by rw [hn9, show i = 128 by omega]; exact pc_L_ct hL hcl), hM⟩
                  · have hnb := fb_ct_le (fun p => decide (v p = p + 1)) i
                    have hvi := hvb i (by omega)
                    refine lv_iload_n S.1 S.2.1 dX5_manyPieces_66 rfl (lv_at hl 1 rfl) ?_
                    refine lv_aload_n S.1 S.2.1 dX5_manyPieces_67 rfl (lv_at hl 0 rfl) ?_
                    refine mo_g_20 S E hM dX5_manyPieces_68 ?_
                    refine lv_iload_n S.1 S.2.1 dX5_manyPieces_71 rfl (lv_at hl 2 rfl) ?_
                    refine mo_ald 5 S E hM rfl (by show _ < 128; omega) dX5_manyPieces_72 ?_
                    refine mi_top (v' := .int (mi_dn (v i))) (congrArg Value.int ((congrFun mi_up_s _).trans (hx i (by omega)))) ?_
                    refine lv_iload_n S.1 S.2.1 dX5_manyPieces_73 rfl (lv_at hl 2 rfl) ?_
                    refine mi_xcmp_ne (tgt := 81) S (mi_dn_toInt (n := v i) (by have := hvb i (by omega); omega)) (nI_toInt (n := i) (by omega)) dX5_manyPieces_74 (by decide) (fun c74_3 => ?_) (fun c74_3 => ?_)
                    · refine lv_iconst (v := nI 0) S.1 S.2.1 dX5_manyPieces_81 (by decide) ?_
                      refine mi_iadd S dX5_manyPieces_82 ?_
                      refine lv_istore_n (lv' := [(2, .int (nI (n + 0))), (0, .ref (ad 1000020)), (3, .int (nI (i)))]) S.1 S.2.1 dX5_manyPieces_83 rfl hl (by decide) rfl (fun ls hl => ?_)
                      refine lv_iinc (v := nI (i + 1)) (lv' := [(3, .int (nI (i + 1))), (2, .int (nI (n + 0))), (0, .ref (ad 1000020))]) S.1 S.2.1 dX5_manyPieces_84 hl (k := 2) rfl (mi_inc _) (by decide) rfl (fun ls hl => ?_)
                      refine lv_goto (tgt := 59) S.1 S.2.1 dX5_manyPieces_87 (by decide) ?_
                      exact ih59 (n + 0) (i + 1) _ (by omega) (by omega) (by rw [fb_ct_succ, ← hn9]; first | (rw [if_pos (decide_eq_true (by omega))]) | (rw [if_neg (fun h => absurd (of_decide_eq_true h) (by omega))]))  (lv_sub hl [2, 1, 0] rfl)
                    · refine lv_iconst (v := nI 1) S.1 S.2.1 dX5_manyPieces_77 (by decide) ?_
                      refine lv_goto (tgt := 82) S.1 S.2.1 dX5_manyPieces_78 (by decide) ?_
                      refine mi_iadd S dX5_manyPieces_82 ?_
                      refine lv_istore_n (lv' := [(2, .int (nI (n + 1))), (0, .ref (ad 1000020)), (3, .int (nI (i)))]) S.1 S.2.1 dX5_manyPieces_83 rfl hl (by decide) rfl (fun ls hl => ?_)
                      refine lv_iinc (v := nI (i + 1)) (lv' := [(3, .int (nI (i + 1))), (2, .int (nI (n + 1))), (0, .ref (ad 1000020))]) S.1 S.2.1 dX5_manyPieces_84 hl (k := 2) rfl (mi_inc _) (by decide) rfl (fun ls hl => ?_)
                      refine lv_goto (tgt := 59) S.1 S.2.1 dX5_manyPieces_87 (by decide) ?_
                      exact ih59 (n + 1) (i + 1) _ (by omega) (by omega) (by rw [fb_ct_succ, ← hn9]; first | (rw [if_pos (decide_eq_true (by omega))]) | (rw [if_neg (fun h => absurd (of_decide_eq_true h) (by omega))]))  (lv_sub hl [2, 1, 0] rfl)
              exact lp59 _ 0 0 _ (Nat.lt_succ_self _) (by omega) (by rfl)  (lv_sub hl [2, 1, 0] rfl)
            · refine lv_aload_n S.1 S.2.1 dX5_manyPieces_47 rfl (lv_at hl 0 rfl) ?_
              refine mi_cMi (mi_runV (P := mo_W D A ad cf0 f (va_up g 5 x)) (As := []) (rest := []) S E hS hM (ad 1000020) (c_joinsAll l D A (f := f) (g := g) (x0 := x) (v0 := v) (K := K) hx hL) (hM.recv E) mw_803 mw_800 mw_802 mw_24 mw_43 ⟨by decide, by decide, by decide +kernel⟩ ⟨rfl, rfl, Nat.le_of_ble_eq_true rfl, Nat.le_of_ble_eq_true rfl⟩ (n := 0) rfl hl.1 rfl (Nat.le_of_ble_eq_true rfl) dX5_manyPieces_48 ⟨Nat.le_of_ble_eq_true rfl, Nat.le_of_ble_eq_true rfl⟩) hS (fun r9 H locs hp9 hS hz => ?_)
              obtain ⟨x5, v5, k5, rfl, hM, hx5, hJ5⟩ := hp9
              have hkb := pc_J_k hJ5
              have hlt := pc_J_lt hJ5
              refine lv_istore_n (lv' := [(1, .int (nI (k5))), (0, .ref (ad 1000020))]) S.1 S.2.1 dX5_manyPieces_51 rfl hl (by decide) rfl (fun ls hl => ?_)
              refine lv_goto (tgt := 43) S.1 S.2.1 dX5_manyPieces_52 (by decide) ?_
              exact ih43 x5 v5 k5 _ _ _ (by omega) (by omega) (hx5) (hJ5.1) (fun h9 => by rw [h9] at hJ5; exact (pc_J_cl hJ5).2) hM hS (lv_sub hl [1, 0] rfl)
        exact lp43 _ x ((pc_v0 K)) 1 _ _ _ (Nat.lt_succ_self _) (by omega) (fun j hj => hx j (by omega)) (pc_L_0 K) (fun h => absurd h (by omega)) hM hS (lv_sub hl [1, 0] rfl)
      · refine lv_aload_n S.1 S.2.1 dX5_manyPieces_9 rfl (lv_at hl 0 rfl) ?_
        refine mo_g_20 S E hM dX5_manyPieces_10 ?_
        refine lv_iload_n S.1 S.2.1 dX5_manyPieces_13 rfl (lv_at hl 1 rfl) ?_
        refine lv_aload_n S.1 S.2.1 dX5_manyPieces_14 rfl (lv_at hl 0 rfl) ?_
        refine lv_iload_n S.1 S.2.1 dX5_manyPieces_15 rfl (lv_at hl 1 rfl) ?_
        refine lv_bipush (v := nI 8) S.1 S.2.1 dX5_manyPieces_16 (by decide) ?_
        refine mi_idiv S (by omega) (by omega) (by omega) dX5_manyPieces_18 ?_
        refine lv_iload_n S.1 S.2.1 dX5_manyPieces_19 rfl (lv_at hl 1 rfl) ?_
        refine lv_bipush (v := nI 8) S.1 S.2.1 dX5_manyPieces_20 (by decide) ?_
        refine mi_irem S (by omega) (by omega) (by omega) dX5_manyPieces_22 ?_
        refine mi_cR (mi_runV (P := mo_W D A ad cf0 f (va_up g 5 x)) (As := [.int (nI (i / 8)), .int (nI (i % 8))]) (rest := [.int (nI (i)), .ref (ad 1000005)]) S E hS hM (ad 1000020) (c_mkindNow l D A (f := f) (g := (va_up g 5 x)) (w := w) hw hf2 (by omega) (by omega) (hK (i / 8) (i % 8) (by omega) (by omega))) (hM.recv E) mw_763 mw_760 mw_762 mw_19 mw_43 ⟨by decide, by decide, by decide +kernel⟩ ⟨rfl, rfl, Nat.le_of_ble_eq_true rfl, Nat.le_of_ble_eq_true rfl⟩ (n := 2) rfl hl.1 rfl (Nat.le_of_ble_eq_true rfl) dX5_manyPieces_23 ⟨Nat.le_of_ble_eq_true rfl, Nat.le_of_ble_eq_true rfl⟩) (fun r9 e9 => ?_)
        subst e9
        refine mi_top (v' := .int (nI (K i))) (by rw [show 8 * (i / 8) + i % 8 = i by omega]) ?_
        have hkb1 := hKb i (by omega)
        refine mi_if_le (tgt := 33) S (by omega) dX5_manyPieces_26 (by decide) (fun c26_5 => ?_) (fun c26_5 => ?_)
        · refine lv_iconst (v := (-1)) S.1 S.2.1 dX5_manyPieces_33 (by decide) ?_
          refine mo_ast 5 S E hS hM rfl (by show _ < 128; omega) dX5_manyPieces_34 (fun H locs hM hS => ?_)
          rw [mi_up_up, mi_up_s] at hM
          refine lv_iinc (v := nI (i + 1)) (lv' := [(1, .int (nI (i + 1))), (0, .ref (ad 1000020))]) S.1 S.2.1 dX5_manyPieces_35 hl (k := 1) rfl (mi_inc _) (by decide) rfl (fun ls hl => ?_)
          refine lv_goto (tgt := 2) S.1 S.2.1 dX5_manyPieces_38 (by decide) ?_
          exact ih2 (((upd x (i) (-1)))) (i + 1) _ _ _ (by omega) (by omega) (pc_row_n hx (by omega)) hM hS (lv_sub hl [1, 0] rfl)
        · refine lv_iload_n S.1 S.2.1 dX5_manyPieces_29 rfl (lv_at hl 1 rfl) ?_
          refine lv_goto (tgt := 34) S.1 S.2.1 dX5_manyPieces_30 (by decide) ?_
          refine mo_ast 5 S E hS hM rfl (by show _ < 128; omega) dX5_manyPieces_34 (fun H locs hM hS => ?_)
          rw [mi_up_up, mi_up_s] at hM
          refine lv_iinc (v := nI (i + 1)) (lv' := [(1, .int (nI (i + 1))), (0, .ref (ad 1000020))]) S.1 S.2.1 dX5_manyPieces_35 hl (k := 1) rfl (mi_inc _) (by decide) rfl (fun ls hl => ?_)
          refine lv_goto (tgt := 2) S.1 S.2.1 dX5_manyPieces_38 (by decide) ?_
          exact ih2 (((upd x (i) (nI (i))))) (i + 1) _ _ _ (by omega) (by omega) (pc_row_y hx (by omega)) hM hS (lv_sub hl [1, 0] rfl)
  exact lp2 _ ((g 5)) 0 _ _ _ (Nat.lt_succ_self _) (by omega) (fun j hj => absurd hj (Nat.not_lt_zero j)) (by rw [mi_up_fn]; exact hM) hS (lv_sub hl [1, 0] rfl)
set_option maxHeartbeats 4000000 in
set_option maxRecDepth 100000 in
theorem c_mpieces (l : Launch) (D : va_G) (A : Nat → Prop) {ad : Nat → Nat} {cf0 : Nat → Option va_E} {f : Nat → Int32} {g : Nat → Nat → Int32} {S0 : sT} (hR : st_mo S0 f g) (hO : st_ok S0) {k : Nat} (hct : pc_ct (pc_lst (sK S0 (sW S0))) 128 k) : mi_Mi l yX5_pieces (Cond.code yX5_pieces cX5_pieces 1 (some Jvm.ClassFile.FieldType.int)) (mi_rm 3) D A (mo_W D A ad cf0 f g) [.ref (ad 1000020)] 0 0 (fun r H => r = nI (k) ∧ ∃ f1 g1, mo_W D A ad cf0 f1 g1 H ∧ st_mo (S0) f1 g1 ∧ f1 0 = nI 0) := by
  refine mi_start (cc := cX5_pieces) (nL := 1) (ret := (some Jvm.ClassFile.FieldType.int)) rfl (by decide) (Nat.le_of_ble_eq_true rfl) ?_
  intro p e s m below meth c ls S E hM hS hr hk hn hl
  have S : CallFix p m c cX5_pieces 1 s _ ((Cond.code yX5_pieces cX5_pieces 1 (some Jvm.ClassFile.FieldType.int)) :: mi_G) RX5 := S
  have hl : lv_has ls 1 [(0, .ref (ad 1000020))] := hl
  obtain ⟨⟨o1, o2, o3, o4, o5⟩, oP, oK, oD, oX, oC, oI⟩ := id hO
  have hw : sW S0 < 61 := by omega
  have hK := st_mo_K hR o3
  have hKb : ∀ j, j < 128 → sK S0 (sW S0) j < 4 := fun j hj => oK _ _ o3 hj
  refine lv_aload_n S.1 S.2.1 dX5_pieces_0 rfl (lv_at hl 0 rfl) ?_
  refine lv_iconst (v := nI 0) S.1 S.2.1 dX5_pieces_1 (by decide) ?_
  refine mo_p_44 S E hS hM dX5_pieces_2 (fun H locs hM hS => ?_)
  refine lv_aload_n S.1 S.2.1 dX5_pieces_5 rfl (lv_at hl 0 rfl) ?_
  refine mi_cMi (mi_runV (P := mo_W D A ad cf0 (upd f 0 (nI (0))) g) (As := []) (rest := []) S E hS hM (ad 1000020) (c_manyPieces l D A (f := (upd f 0 (nI (0)))) (g := g) (w := sW S0) (K := sK S0 (sW S0)) hw hR.1.2.1 hK hKb) (hM.recv E) mw_799 mw_796 mw_798 mw_23 mw_43 ⟨by decide, by decide, by decide +kernel⟩ ⟨rfl, rfl, Nat.le_of_ble_eq_true rfl, Nat.le_of_ble_eq_true rfl⟩ (n := 0) rfl hl.1 rfl (Nat.le_of_ble_eq_true rfl) dX5_pieces_6 ⟨Nat.le_of_ble_eq_true rfl, Nat.le_of_ble_eq_true rfl⟩) hS (fun r9 H locs hp9 hS hz => ?_)
  obtain ⟨k9, x9, e9, hk9, hM⟩ := hp9
  rw [pc_ct_fun hk9 hct] at e9
  subst e9
  exact mi_retMi S hr hk hS dX5_pieces_9 (Nat.le_refl _) (Nat.le_refl _) ⟨rfl, (upd f 0 (nI (0))), (va_up g 5 x9), hM, st_mo_5 (st_mo_0 hR _) _, rfl⟩
set_option maxHeartbeats 4000000 in
set_option maxRecDepth 100000 in
theorem c_mcut_1 (l : Launch) (D : va_G) (A : Nat → Prop) {ad : Nat → Nat} {cf0 : Nat → Option va_E} {f : Nat → Int32} {g : Nat → Nat → Int32} {S0 : sT} (hR : st_mo S0 f g) (hO : st_ok S0) {k : Nat} (hct : pc_ct (pc_lst (sK S0 (sW S0))) 128 k) (hk1 : k ≠ 1) : mi_Mi l yX5_cut (Cond.code yX5_cut cX5_cut 2 (some Jvm.ClassFile.FieldType.int)) (mi_rm 3) D A (mo_W D A ad cf0 f g) [.ref (ad 1000020)] 0 0 (fun r H => ∃ x1, mo_W D A ad cf0 (upd f 0 (nI 1)) (va_up g 5 x1) H) := by
  refine mi_start (cc := cX5_cut) (nL := 2) (ret := (some Jvm.ClassFile.FieldType.int)) rfl (by decide) (Nat.le_of_ble_eq_true rfl) ?_
  intro p e s m below meth c ls S E hM hS hr hk hn hl
  have S : CallFix p m c cX5_cut 2 s _ ((Cond.code yX5_cut cX5_cut 2 (some Jvm.ClassFile.FieldType.int)) :: mi_G) RX5 := S
  have hl : lv_has ls 2 [(0, .ref (ad 1000020))] := hl
  obtain ⟨⟨o1, o2, o3, o4, o5⟩, oP, oK, oD, oX, oC, oI⟩ := id hO
  have hw : sW S0 < 61 := by omega
  have hK := st_mo_K hR o3
  have hKb : ∀ j, j < 128 → sK S0 (sW S0) j < 4 := fun j hj => oK _ _ o3 hj
  have hkle := pc_ct_le hct
  refine lv_aload_n S.1 S.2.1 dX5_cut_0 rfl (lv_at hl 0 rfl) ?_
  refine lv_aload_n S.1 S.2.1 dX5_cut_1 rfl (lv_at hl 0 rfl) ?_
  refine mi_cMi (mi_runV (P := mo_W D A ad cf0 f g) (As := []) (rest := [.ref (ad 1000020)]) S E hS hM (ad 1000020) (c_manyPieces l D A (f := f) (g := g) (w := sW S0) (K := sK S0 (sW S0)) hw hR.1.2.1 hK hKb) (hM.recv E) mw_799 mw_796 mw_798 mw_23 mw_43 ⟨by decide, by decide, by decide +kernel⟩ ⟨rfl, rfl, Nat.le_of_ble_eq_true rfl, Nat.le_of_ble_eq_true rfl⟩ (n := 0) rfl hl.1 rfl (Nat.le_of_ble_eq_true rfl) dX5_cut_2 ⟨Nat.le_of_ble_eq_true rfl, Nat.le_of_ble_eq_true rfl⟩) hS (fun r9 H locs hp9 hS hz => ?_)
  obtain ⟨k9, x9, e9, hk9, hM⟩ := hp9
  rw [pc_ct_fun hk9 hct] at e9
  subst e9
  refine lv_iconst (v := nI 1) S.1 S.2.1 dX5_cut_5 (by decide) ?_
  refine mi_icmp_ne (tgt := 18) S (by omega) (by omega) dX5_cut_6 (by decide) (fun c6_0 => ?_) (fun c6_0 => by exfalso; omega)
  refine lv_iconst (v := nI 1) S.1 S.2.1 dX5_cut_18 (by decide) ?_
  refine lv_goto (tgt := 23) S.1 S.2.1 dX5_cut_19 (by decide) ?_
  refine mo_p_44 S E hS hM dX5_cut_23 (fun H locs hM hS => ?_)
  refine lv_aload_n S.1 S.2.1 dX5_cut_26 rfl (lv_at hl 0 rfl) ?_
  refine mo_g_44 S E hM dX5_cut_27 ?_
  refine mi_top (v' := .int (nI (1))) (rfl) ?_
  refine mi_if_le (tgt := 35) S (by omega) dX5_cut_30 (by decide) (fun c30_2 => by exfalso; omega) (fun c30_2 => ?_)
  refine lv_iconst (v := nI 0) S.1 S.2.1 dX5_cut_33 (by decide) ?_
  exact mi_retMi S hr hk hS dX5_cut_34 (Nat.le_refl _) (Nat.le_refl _) (⟨x9, hM⟩)
set_option maxHeartbeats 4000000 in
set_option maxRecDepth 100000 in
theorem c_mcut_2 (l : Launch) (D : va_G) (A : Nat → Prop) {ad : Nat → Nat} {cf0 : Nat → Option va_E} {f : Nat → Int32} {g : Nat → Nat → Int32} {S0 : sT} (hR : st_mo S0 f g) (hO : st_ok S0) {k : Nat} (hct : pc_ct (pc_lst (sK S0 (sW S0))) 128 k) (hk1 : k = 1) (h8 : sD S0 = 8) : mi_Mi l yX5_cut (Cond.code yX5_cut cX5_cut 2 (some Jvm.ClassFile.FieldType.int)) (mi_rm 3) D A (mo_W D A ad cf0 f g) [.ref (ad 1000020)] 0 0 (fun r H => ∃ x1, mo_W D A ad cf0 (upd f 0 (nI 1)) (va_up g 5 x1) H) := by
  refine mi_start (cc := cX5_cut) (nL := 2) (ret := (some Jvm.ClassFile.FieldType.int)) rfl (by decide) (Nat.le_of_ble_eq_true rfl) ?_
  intro p e s m below meth c ls S E hM hS hr hk hn hl
  have S : CallFix p m c cX5_cut 2 s _ ((Cond.code yX5_cut cX5_cut 2 (some Jvm.ClassFile.FieldType.int)) :: mi_G) RX5 := S
  have hl : lv_has ls 2 [(0, .ref (ad 1000020))] := hl
  obtain ⟨⟨o1, o2, o3, o4, o5⟩, oP, oK, oD, oX, oC, oI⟩ := id hO
  have hw : sW S0 < 61 := by omega
  have hK := st_mo_K hR o3
  have hKb : ∀ j, j < 128 → sK S0 (sW S0) j < 4 := fun j hj => oK _ _ o3 hj
  refine lv_aload_n S.1 S.2.1 dX5_cut_0 rfl (lv_at hl 0 rfl) ?_
  refine lv_aload_n S.1 S.2.1 dX5_cut_1 rfl (lv_at hl 0 rfl) ?_
  refine mi_cMi (mi_runV (P := mo_W D A ad cf0 f g) (As := []) (rest := [.ref (ad 1000020)]) S E hS hM (ad 1000020) (c_manyPieces l D A (f := f) (g := g) (w := sW S0) (K := sK S0 (sW S0)) hw hR.1.2.1 hK hKb) (hM.recv E) mw_799 mw_796 mw_798 mw_23 mw_43 ⟨by decide, by decide, by decide +kernel⟩ ⟨rfl, rfl, Nat.le_of_ble_eq_true rfl, Nat.le_of_ble_eq_true rfl⟩ (n := 0) rfl hl.1 rfl (Nat.le_of_ble_eq_true rfl) dX5_cut_2 ⟨Nat.le_of_ble_eq_true rfl, Nat.le_of_ble_eq_true rfl⟩) hS (fun r9 H locs hp9 hS hz => ?_)
  obtain ⟨k9, x9, e9, hk9, hM⟩ := hp9
  rw [pc_ct_fun hk9 hct] at e9
  subst e9
  refine lv_iconst (v := nI 1) S.1 S.2.1 dX5_cut_5 (by decide) ?_
  refine mi_icmp_ne (tgt := 18) S (by omega) (by omega) dX5_cut_6 (by decide) (fun c6_0 => by exfalso; omega) (fun c6_0 => ?_)
  refine lv_aload_n S.1 S.2.1 dX5_cut_9 rfl (lv_at hl 0 rfl) ?_
  refine mo_g_104 S E hM dX5_cut_10 ?_
  refine mi_top (v' := .int (nI (sD S0))) (congrArg Value.int hR.1.2.2.1) ?_
  refine lv_bipush (v := nI 8) S.1 S.2.1 dX5_cut_13 (by decide) ?_
  refine mi_icmp_ne (tgt := 22) S (by omega) (by omega) dX5_cut_15 (by decide) (fun c15_1 => by exfalso; omega) (fun c15_1 => ?_)
  refine lv_iconst (v := nI 1) S.1 S.2.1 dX5_cut_18 (by decide) ?_
  refine lv_goto (tgt := 23) S.1 S.2.1 dX5_cut_19 (by decide) ?_
  refine mo_p_44 S E hS hM dX5_cut_23 (fun H locs hM hS => ?_)
  refine lv_aload_n S.1 S.2.1 dX5_cut_26 rfl (lv_at hl 0 rfl) ?_
  refine mo_g_44 S E hM dX5_cut_27 ?_
  refine mi_top (v' := .int (nI (1))) (rfl) ?_
  refine mi_if_le (tgt := 35) S (by omega) dX5_cut_30 (by decide) (fun c30_3 => by exfalso; omega) (fun c30_3 => ?_)
  refine lv_iconst (v := nI 0) S.1 S.2.1 dX5_cut_33 (by decide) ?_
  exact mi_retMi S hr hk hS dX5_cut_34 (Nat.le_refl _) (Nat.le_refl _) (⟨x9, hM⟩)
theorem mo_two {g : Nat → Nat → Int32} {A B : Nat → Int32} {p : Nat} {v : Int32} : va_up (va_up (va_up (va_up g 7 A) 8 B) 7 (upd ((va_up (va_up g 7 A) 8 B) 7) p v)) 8 (upd ((va_up (va_up (va_up g 7 A) 8 B) 7 (upd ((va_up (va_up g 7 A) 8 B) 7) p v)) 8) p v) = va_up (va_up g 7 (upd A p v)) 8 (upd B p v) := by
  funext k
  by_cases h8 : k = 8
  · subst h8
    rfl
  · by_cases h7 : k = 7
    · subst h7
      rfl
    · rw [mi_up_n h8, mi_up_n h7, mi_up_n h8, mi_up_n h7, mi_up_n h8, mi_up_n h7]
theorem mo_two0 {g : Nat → Nat → Int32} : va_up (va_up g 7 (g 7)) 8 (g 8) = g := by
  funext k
  by_cases h8 : k = 8
  · subst h8
    rfl
  · rw [mi_up_n h8]
    by_cases h7 : k = 7
    · subst h7
      rfl
    · rw [mi_up_n h7]
set_option maxHeartbeats 4000000 in
set_option maxRecDepth 100000 in
theorem c_mcut (l : Launch) (D : va_G) (A : Nat → Prop) {ad : Nat → Nat} {cf0 : Nat → Option va_E} {f : Nat → Int32} {g : Nat → Nat → Int32} {S0 : sT} (hR : st_mo S0 f g) (hO : st_ok S0) (hct : pc_ct (pc_lst (sK S0 (sW S0))) 128 1) (h8 : sD S0 < 8) : mi_Mi l yX5_cut (Cond.code yX5_cut cX5_cut 2 (some Jvm.ClassFile.FieldType.int)) (mi_rm 3) D A (mo_W D A ad cf0 f g) [.ref (ad 1000020)] 0 0 (fun r H => r = nI (sD S0) ∧ ∃ f1 g1, mo_W D A ad cf0 f1 g1 H ∧ st_mo (st_cut S0) f1 g1 ∧ f1 0 = nI 0) := by
  refine mi_start (cc := cX5_cut) (nL := 2) (ret := (some Jvm.ClassFile.FieldType.int)) rfl (by decide) (Nat.le_of_ble_eq_true rfl) ?_
  intro p e s m below meth c ls S E hM hS hr hk hn hl
  have S : CallFix p m c cX5_cut 2 s _ ((Cond.code yX5_cut cX5_cut 2 (some Jvm.ClassFile.FieldType.int)) :: mi_G) RX5 := S
  have hl : lv_has ls 2 [(0, .ref (ad 1000020))] := hl
  obtain ⟨⟨o1, o2, o3, o4, o5⟩, oP, oK, oD, oX, oC, oI⟩ := id hO
  have hw : sW S0 < 61 := by omega
  have hK := st_mo_K hR o3
  have hKb : ∀ j, j < 128 → sK S0 (sW S0) j < 4 := fun j hj => oK _ _ o3 hj
  refine lv_aload_n S.1 S.2.1 dX5_cut_0 rfl (lv_at hl 0 rfl) ?_
  refine lv_aload_n S.1 S.2.1 dX5_cut_1 rfl (lv_at hl 0 rfl) ?_
  refine mi_cMi (mi_runV (P := mo_W D A ad cf0 f g) (As := []) (rest := [.ref (ad 1000020)]) S E hS hM (ad 1000020) (c_manyPieces l D A (f := f) (g := g) (w := sW S0) (K := sK S0 (sW S0)) hw hR.1.2.1 hK hKb) (hM.recv E) mw_799 mw_796 mw_798 mw_23 mw_43 ⟨by decide, by decide, by decide +kernel⟩ ⟨rfl, rfl, Nat.le_of_ble_eq_true rfl, Nat.le_of_ble_eq_true rfl⟩ (n := 0) rfl hl.1 rfl (Nat.le_of_ble_eq_true rfl) dX5_cut_2 ⟨Nat.le_of_ble_eq_true rfl, Nat.le_of_ble_eq_true rfl⟩) hS (fun r9 H locs hp9 hS hz => ?_)
  obtain ⟨k9, x9, e9, hk9, hM⟩ := hp9
  rw [pc_ct_fun hk9 hct] at e9
  subst e9
  refine mi_top (v' := .int (nI (1))) (rfl) ?_
  refine lv_iconst (v := nI 1) S.1 S.2.1 dX5_cut_5 (by decide) ?_
  refine mi_icmp_ne (tgt := 18) S (by omega) (by omega) dX5_cut_6 (by decide) (fun c6_0 => by exfalso; omega) (fun c6_0 => ?_)
  refine lv_aload_n S.1 S.2.1 dX5_cut_9 rfl (lv_at hl 0 rfl) ?_
  refine mo_g_104 S E hM dX5_cut_10 ?_
  refine mi_top (v' := .int (nI (sD S0))) (congrArg Value.int hR.1.2.2.1) ?_
  refine lv_bipush (v := nI 8) S.1 S.2.1 dX5_cut_13 (by decide) ?_
  refine mi_icmp_ne (tgt := 22) S (by omega) (by omega) dX5_cut_15 (by decide) (fun c15_1 => ?_) (fun c15_1 => by exfalso; omega)
  refine lv_iconst (v := nI 0) S.1 S.2.1 dX5_cut_22 (by decide) ?_
  refine mo_p_44 S E hS hM dX5_cut_23 (fun H locs hM hS => ?_)
  refine lv_aload_n S.1 S.2.1 dX5_cut_26 rfl (lv_at hl 0 rfl) ?_
  refine mo_g_44 S E hM dX5_cut_27 ?_
  refine mi_top (v' := .int (nI (0))) (rfl) ?_
  refine mi_if_le (tgt := 35) S (by omega) dX5_cut_30 (by decide) (fun c30_3 => ?_) (fun c30_3 => by exfalso; omega)
  refine lv_iconst (v := nI 0) S.1 S.2.1 dX5_cut_35 (by decide) ?_
  refine lv_istore_n (lv' := [(1, .int (nI (0))), (0, .ref (ad 1000020))]) S.1 S.2.1 dX5_cut_36 rfl hl (by decide) rfl (fun ls hl => ?_)
  have lp37 : ∀ (n37 : Nat) (i : Nat) (H : Heap) (locs : List Loc) (ls : Array Slot), 16 - i < n37 → i ≤ 16 → mo_W D A ad cf0 (upd f 0 (nI (0))) (va_up (va_up (va_up g 5 x9) 7 (mo_ly (g 7) (sD S0) (fun c => sp_h (sK S0 (sW S0)) c 8) i)) 8 (mo_ly (g 8) (sD S0) (fun c => sp_h (sK S0 (sW S0)) c 8) i)) H → va_S A s.heap H locs → lv_has ls 2 [(0, .ref (ad 1000020)), (1, .int (nI (i)))] → W p l e (mi_rm 3) s m ([.ref (ad 1000020)] : List Value).toArray below meth c H locs 0 0 (MQ below (mi_Qi A (fun r H => r = nI (sD S0) ∧ ∃ f1 g1, mo_W D A ad cf0 f1 g1 H ∧ st_mo (st_cut S0) f1 g1 ∧ f1 0 = nI 0)) ([.ref (ad 1000020)] : List Value).toArray s 0 0 A) (F0 m 37 ls []) := by
    intro n37
    induction n37 with
    | zero => intro i H locs ls hm hi hM hS hl; exact absurd hm (Nat.not_lt_zero _)
    | succ n37 ih37 =>
      intro i H locs ls hm hi hM hS hl
      refine lv_iload_n S.1 S.2.1 dX5_cut_37 rfl (lv_at hl 1 rfl) ?_
      refine lv_bipush (v := nI 16) S.1 S.2.1 dX5_cut_38 (by decide) ?_
      refine mi_icmp_ge (tgt := 87) S (by omega) (by omega) dX5_cut_40 (by decide) (fun c40_4 => ?_) (fun c40_4 => ?_)
      · have h16 : i = 16 := by omega
        rw [h16] at hM
        refine lv_aload_n S.1 S.2.1 dX5_cut_87 rfl (lv_at hl 0 rfl) ?_
        refine mo_g_29 S E hM dX5_cut_88 ?_
        refine lv_aload_n S.1 S.2.1 dX5_cut_91 rfl (lv_at hl 0 rfl) ?_
        refine mo_g_104 S E hM dX5_cut_92 ?_
        refine mi_top (v' := .int (nI (sD S0))) (congrArg Value.int hR.1.2.2.1) ?_
        refine lv_iconst (v := nI 0) S.1 S.2.1 dX5_cut_95 (by decide) ?_
        refine mo_ast 9 S E hS hM rfl (by show _ < 8; omega) dX5_cut_96 (fun H locs hM hS => ?_)
        refine lv_aload_n S.1 S.2.1 dX5_cut_97 rfl (lv_at hl 0 rfl) ?_
        refine lv_dup S.1 S.2.1 dX5_cut_98 rfl ?_
        refine mo_g_104 S E hM dX5_cut_99 ?_
        refine mi_top (v' := .int (nI (sD S0))) (congrArg Value.int hR.1.2.2.1) ?_
        refine lv_iconst (v := nI 1) S.1 S.2.1 dX5_cut_102 (by decide) ?_
        refine mi_iadd S dX5_cut_103 ?_
        refine mo_p_104 S E hS hM dX5_cut_104 (fun H locs hM hS => ?_)
        refine lv_aload_n S.1 S.2.1 dX5_cut_107 rfl (lv_at hl 0 rfl) ?_
        refine mo_g_104 S E hM dX5_cut_108 ?_
        refine mi_top (v' := .int (nI ((sD S0) + 1))) (rfl) ?_
        refine lv_iconst (v := nI 1) S.1 S.2.1 dX5_cut_111 (by decide) ?_
        refine mi_isub S (by omega) dX5_cut_112 ?_
        exact mi_retMi S hr hk hS dX5_cut_113 (Nat.le_refl _) (Nat.le_refl _) ⟨rfl, (upd (upd f 0 (nI (0))) 6 (nI ((sD S0) + 1))), (va_up (va_up (va_up (va_up g 5 x9) 7 (mo_ly (g 7) (sD S0) (fun c => sp_h (sK S0 (sW S0)) c 8) 16)) 8 (mo_ly (g 8) (sD S0) (fun c => sp_h (sK S0 (sW S0)) c 8) 16)) 9 (upd ((va_up (va_up (va_up g 5 x9) 7 (mo_ly (g 7) (sD S0) (fun c => sp_h (sK S0 (sW S0)) c 8) 16)) 8 (mo_ly (g 8) (sD S0) (fun c => sp_h (sK S0 (sW S0)) c 8) 16)) 9) (sD S0) (nI (0)))), hM, st_mo_cut (st_mo_0 hR (nI 0)) rfl rfl rfl rfl rfl rfl rfl rfl rfl rfl rfl rfl, rfl⟩
      · refine lv_aload_n S.1 S.2.1 dX5_cut_43 rfl (lv_at hl 0 rfl) ?_
        refine mo_g_23 S E hM dX5_cut_44 ?_
        refine lv_bipush (v := nI 16) S.1 S.2.1 dX5_cut_47 (by decide) ?_
        refine lv_aload_n S.1 S.2.1 dX5_cut_49 rfl (lv_at hl 0 rfl) ?_
        refine mo_g_104 S E hM dX5_cut_50 ?_
        refine mi_top (v' := .int (nI (sD S0))) (congrArg Value.int hR.1.2.2.1) ?_
        refine mi_imul S dX5_cut_53 ?_
        refine lv_iload_n S.1 S.2.1 dX5_cut_54 rfl (lv_at hl 1 rfl) ?_
        refine mi_iadd S dX5_cut_55 ?_
        refine lv_aload_n S.1 S.2.1 dX5_cut_56 rfl (lv_at hl 0 rfl) ?_
        refine lv_iload_n S.1 S.2.1 dX5_cut_57 rfl (lv_at hl 1 rfl) ?_
        refine mi_cR (mi_runV (P := mo_W D A ad cf0 (upd f 0 (nI (0))) (va_up (va_up (va_up g 5 x9) 7 (mo_ly (g 7) (sD S0) (fun c => sp_h (sK S0 (sW S0)) c 8) i)) 8 (mo_ly (g 8) (sD S0) (fun c => sp_h (sK S0 (sW S0)) c 8) i))) (As := [.int (nI (i))]) (rest := [.int (nI ((16 * (sD S0)) + i)), .ref (ad 1000007)]) S E hS hM (ad 1000020) (c_heightNow l D A (f := (upd f 0 (nI (0)))) (g := (va_up (va_up (va_up g 5 x9) 7 (mo_ly (g 7) (sD S0) (fun c => sp_h (sK S0 (sW S0)) c 8) i)) 8 (mo_ly (g 8) (sD S0) (fun c => sp_h (sK S0 (sW S0)) c 8) i))) (w := sW S0) (K := sK S0 (sW S0)) hw hR.1.2.1 hK hKb (a := i) (by omega)) (hM.recv E) mw_815 mw_812 mw_814 mw_26 mw_43 ⟨by decide, by decide, by decide +kernel⟩ ⟨rfl, rfl, Nat.le_of_ble_eq_true rfl, Nat.le_of_ble_eq_true rfl⟩ (n := 1) rfl hl.1 rfl (Nat.le_of_ble_eq_true rfl) dX5_cut_58 ⟨Nat.le_of_ble_eq_true rfl, Nat.le_of_ble_eq_true rfl⟩) (fun r9 e9 => ?_)
        subst e9
        refine mo_ast 7 S E hS hM rfl (by show _ < 128; omega) dX5_cut_61 (fun H locs hM hS => ?_)
        refine lv_aload_n S.1 S.2.1 dX5_cut_62 rfl (lv_at hl 0 rfl) ?_
        refine mo_g_26 S E hM dX5_cut_63 ?_
        refine lv_bipush (v := nI 16) S.1 S.2.1 dX5_cut_66 (by decide) ?_
        refine lv_aload_n S.1 S.2.1 dX5_cut_68 rfl (lv_at hl 0 rfl) ?_
        refine mo_g_104 S E hM dX5_cut_69 ?_
        refine mi_top (v' := .int (nI (sD S0))) (congrArg Value.int hR.1.2.2.1) ?_
        refine mi_imul S dX5_cut_72 ?_
        refine lv_iload_n S.1 S.2.1 dX5_cut_73 rfl (lv_at hl 1 rfl) ?_
        refine mi_iadd S dX5_cut_74 ?_
        refine lv_aload_n S.1 S.2.1 dX5_cut_75 rfl (lv_at hl 0 rfl) ?_
        refine lv_iload_n S.1 S.2.1 dX5_cut_76 rfl (lv_at hl 1 rfl) ?_
        refine mi_cR (mi_runV (P := mo_W D A ad cf0 (upd f 0 (nI (0))) (va_up (va_up (va_up (va_up g 5 x9) 7 (mo_ly (g 7) (sD S0) (fun c => sp_h (sK S0 (sW S0)) c 8) i)) 8 (mo_ly (g 8) (sD S0) (fun c => sp_h (sK S0 (sW S0)) c 8) i)) 7 (upd ((va_up (va_up (va_up g 5 x9) 7 (mo_ly (g 7) (sD S0) (fun c => sp_h (sK S0 (sW S0)) c 8) i)) 8 (mo_ly (g 8) (sD S0) (fun c => sp_h (sK S0 (sW S0)) c 8) i)) 7) ((16 * (sD S0)) + i) (nI (sp_h (sK S0 (sW S0)) i 8))))) (As := [.int (nI (i))]) (rest := [.int (nI ((16 * (sD S0)) + i)), .ref (ad 1000008)]) S E hS hM (ad 1000020) (c_heightNow l D A (f := (upd f 0 (nI (0)))) (g := (va_up (va_up (va_up (va_up g 5 x9) 7 (mo_ly (g 7) (sD S0) (fun c => sp_h (sK S0 (sW S0)) c 8) i)) 8 (mo_ly (g 8) (sD S0) (fun c => sp_h (sK S0 (sW S0)) c 8) i)) 7 (upd ((va_up (va_up (va_up g 5 x9) 7 (mo_ly (g 7) (sD S0) (fun c => sp_h (sK S0 (sW S0)) c 8) i)) 8 (mo_ly (g 8) (sD S0) (fun c => sp_h (sK S0 (sW S0)) c 8) i)) 7) ((16 * (sD S0)) + i) (nI (sp_h (sK S0 (sW S0)) i 8))))) (w := sW S0) (K := sK S0 (sW S0)) hw hR.1.2.1 hK hKb (a := i) (by omega)) (hM.recv E) mw_815 mw_812 mw_814 mw_26 mw_43 ⟨by decide, by decide, by decide +kernel⟩ ⟨rfl, rfl, Nat.le_of_ble_eq_true rfl, Nat.le_of_ble_eq_true rfl⟩ (n := 1) rfl hl.1 rfl (Nat.le_of_ble_eq_true rfl) dX5_cut_77 ⟨Nat.le_of_ble_eq_true rfl, Nat.le_of_ble_eq_true rfl⟩) (fun r9 e9 => ?_)
        subst e9
        refine mo_ast 8 S E hS hM rfl (by show _ < 128; omega) dX5_cut_80 (fun H locs hM hS => ?_)
        refine lv_iinc (v := nI (i + 1)) (lv' := [(1, .int (nI (i + 1))), (0, .ref (ad 1000020))]) S.1 S.2.1 dX5_cut_81 hl (k := 1) rfl (mi_inc _) (by decide) rfl (fun ls hl => ?_)
        refine lv_goto (tgt := 37) S.1 S.2.1 dX5_cut_84 (by decide) ?_
        exact ih37 (i + 1) _ _ _ (by omega) (by omega) (by rw [mo_two, mo_ly_step (h := (fun c => sp_h (sK S0 (sW S0)) c 8)), mo_ly_step (h := (fun c => sp_h (sK S0 (sW S0)) c 8))] at hM; exact hM) hS (lv_sub hl [1, 0] rfl)
  exact lp37 _ 0 _ _ _ (Nat.lt_succ_self _) (by omega) (by rw [mo_ly_0, mo_ly_0]; exact (mo_two0 (g := va_up g 5 x9)).symm ▸ hM) hS (lv_sub hl [1, 0] rfl)
