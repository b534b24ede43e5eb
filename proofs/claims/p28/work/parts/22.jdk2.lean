/-! the JDK's members that write: ArrayList's constructor and add, Arrays.fill, copyOf -/
theorem mi_fill_0 (f : Nat → Int32) (x : Int32) : (fun j => if j < 0 then x else f j) = f := funext fun j => if_neg (Nat.not_lt_zero j)
theorem mi_up_id {α : Type} {f : Nat → Option α} {k : Nat} {v : α} (h : f k = some v) : va_up f k (some v) = f := by
  funext j
  by_cases hj : j = k
  · subst hj
    rw [mi_up_s, h]
  · rw [mi_up_n hj]
set_option maxHeartbeats 4000000 in
set_option maxRecDepth 100000 in
theorem c_AC_init (l : Launch) (D : va_G) (A : Nat → Prop) {P : Heap → Prop} (a : Nat) : mi_Mv l yJxa1e45_init_da8c8 (Cond.code yJxa1e45_init_da8c8 cJxa1e45_init_da8c8 1 none) (mi_rm 1) D A (P) [.ref (a)] 0 0 (P) := by
  refine mi_start (cc := cJxa1e45_init_da8c8) (nL := 1) (ret := none) rfl (by decide) (Nat.le_of_ble_eq_true rfl) ?_
  intro p e s m below meth c ls S E hW hS hr hk hn hl
  have S : CallFix p m c cJxa1e45_init_da8c8 1 s _ ((Cond.code yJxa1e45_init_da8c8 cJxa1e45_init_da8c8 1 none) :: mi_G) RJxa1e45 := S
  have hl : lv_has ls 1 [(0, .ref (a))] := hl
  refine lv_aload_n S.1 S.2.1 dJxa1e45_init_da8c8_0 rfl (lv_at hl 0 rfl) ?_
  refine W.objInit S.1 S.2.1 S.2.2.2.1 (S.2.2.2.2 _ (List.mem_cons_of_mem _ mw_57)) (S.2.2.2.2 _ (List.mem_cons_of_mem _ mw_44)) (S.2.2.2.2 _ (List.mem_cons_of_mem _ mw_45)) rfl (hl.1.trans S.2.2.1.symm) rfl dJxa1e45_init_da8c8_1 (Nat.le_of_ble_eq_true rfl) (Nat.le_of_ble_eq_true rfl) ?_
  refine W.eq (g2 := F0 m 4 ls []) rfl ?_
  exact mi_retMv S hr hk hS dJxa1e45_init_da8c8_4 (Nat.le_of_ble_eq_true rfl) (Nat.le_of_ble_eq_true rfl) (hW)
set_option maxHeartbeats 4000000 in
set_option maxRecDepth 100000 in
theorem c_Ab_init (l : Launch) (D : va_G) (A : Nat → Prop) {ad : Nat → Nat} {cf : Nat → Option va_E} {r a : Nat} {mcn : Int32} {ea nn : Value} (ha0 : ad r = a) (hr0 : cf r = some (.inr (0, [.int mcn, ea, nn]))) : mi_Mv l yJxc12de_init_da8c8 (Cond.code yJxc12de_init_da8c8 cJxc12de_init_da8c8 1 none) (mi_rm 2) D A (mi_W D A ad cf) [.ref (a)] 0 0 (mi_W D A ad (va_up cf r (some (.inr (0, [.int (nI 0), ea, nn]))))) := by
  refine mi_start (cc := cJxc12de_init_da8c8) (nL := 1) (ret := none) rfl (by decide) (Nat.le_of_ble_eq_true rfl) ?_
  intro p e s m below meth c ls S E hW hS hr hk hn hl
  have S : CallFix p m c cJxc12de_init_da8c8 1 s _ ((Cond.code yJxc12de_init_da8c8 cJxc12de_init_da8c8 1 none) :: mi_G) RJxc12de := S
  have hl : lv_has ls 1 [(0, .ref (a))] := hl
  refine lv_aload_n S.1 S.2.1 dJxc12de_init_da8c8_0 rfl (lv_at hl 0 rfl) ?_
  refine mi_cMv (mi_runI (P := mi_W D A ad cf) (As := []) (rest := []) S E hS hW a (c_AC_init l D A a) mw_56 mw_54 mw_55 mw_19 rfl ⟨by decide, by decide, by decide +kernel⟩ ⟨rfl, rfl, Nat.le_of_ble_eq_true rfl, Nat.le_of_ble_eq_true rfl⟩ (n := 0) rfl hl.1 rfl (Nat.le_of_ble_eq_true rfl) dJxc12de_init_da8c8_1 ⟨Nat.le_of_ble_eq_true rfl, Nat.le_of_ble_eq_true rfl⟩) hS (fun H locs hW hS hz => ?_)
  refine lv_aload_n S.1 S.2.1 dJxc12de_init_da8c8_4 rfl (lv_at hl 0 rfl) ?_
  refine lv_iconst (v := nI 0) S.1 S.2.1 dJxc12de_init_da8c8_5 (by decide) ?_
  refine fp_Jxc12de_7 S E hS hW r ha0 hr0 (Nat.le_of_ble_eq_true rfl) dJxc12de_init_da8c8_6 (fun H locs hW hS hz => ?_)
  obtain ⟨cf1, hcf1⟩ : ∃ z, z = va_up cf r (some (.inr (0, [.int (nI (0)), ea, nn]))) := ⟨_, rfl⟩
  have hW : mi_W D A ad cf1 H := by rw [hcf1]; exact hW
  have he1_r : cf1 r = some (.inr (0, [.int (nI (0)), ea, nn])) := by rw [hcf1]; exact mi_up_s
  exact mi_retMv S hr hk hS dJxc12de_init_da8c8_9 (Nat.le_of_ble_eq_true rfl) (Nat.le_of_ble_eq_true rfl) (by rw [hcf1] at hW; exact hW)
set_option maxHeartbeats 4000000 in
set_option maxRecDepth 100000 in
theorem c_AL_init (l : Launch) (D : va_G) (A : Nat → Prop) {ad : Nat → Nat} {cf : Nat → Option va_E} {r a : Nat} {mcn : Int32} {ea nn : Value} (ha0 : ad r = a) (hr0 : cf r = some (.inr (0, [.int mcn, ea, nn]))) : mi_Mv l yJx4a65c_init_da8c8 (Cond.code yJx4a65c_init_da8c8 cJx4a65c_init_da8c8 1 none) (mi_rm 3) D A (mi_W D A ad cf) [.ref (a)] 0 0 (mi_W D A ad (va_up cf r (some (.inr (0, [.int (nI 0), .ref (mi_de D), nn]))))) := by
  refine mi_start (cc := cJx4a65c_init_da8c8) (nL := 1) (ret := none) rfl (by decide) (Nat.le_of_ble_eq_true rfl) ?_
  intro p e s m below meth c ls S E hW hS hr hk hn hl
  have S : CallFix p m c cJx4a65c_init_da8c8 1 s _ ((Cond.code yJx4a65c_init_da8c8 cJx4a65c_init_da8c8 1 none) :: mi_G) RJx4a65c := S
  have hl : lv_has ls 1 [(0, .ref (a))] := hl
  refine lv_aload_n S.1 S.2.1 dJx4a65c_init_da8c8_0 rfl (lv_at hl 0 rfl) ?_
  refine mi_cMv (mi_runI (P := mi_W D A ad cf) (As := []) (rest := []) S E hS hW a (c_Ab_init l D A ha0 hr0) mw_53 mw_51 mw_52 mw_20 rfl ⟨by decide, by decide, by decide +kernel⟩ ⟨rfl, rfl, Nat.le_of_ble_eq_true rfl, Nat.le_of_ble_eq_true rfl⟩ (n := 0) rfl hl.1 rfl (Nat.le_of_ble_eq_true rfl) dJx4a65c_init_da8c8_1 ⟨Nat.le_of_ble_eq_true rfl, Nat.le_of_ble_eq_true rfl⟩) hS (fun H locs hW hS hz => ?_)
  obtain ⟨cf1, hcf1⟩ : ∃ z, z = va_up cf r (some (.inr (0, [.int (nI (0)), ea, nn]))) := ⟨_, rfl⟩
  have hW : mi_W D A ad cf1 H := by rw [hcf1]; exact hW
  have he1_r : cf1 r = some (.inr (0, [.int (nI (0)), ea, nn])) := by rw [hcf1]; exact mi_up_s
  refine lv_aload_n S.1 S.2.1 dJx4a65c_init_da8c8_4 rfl (lv_at hl 0 rfl) ?_
  refine mi_gets S E hS (List.mem_cons_of_mem _ mw_58) dJx4a65c_init_da8c8_5 ?_
  refine fp_Jx4a65c_9 S E hS hW r ha0 he1_r (Nat.le_of_ble_eq_true rfl) rfl rfl dJx4a65c_init_da8c8_8 (fun H locs hW hS hz => ?_)
  obtain ⟨cf2, hcf2⟩ : ∃ z, z = va_up cf1 r (some (.inr (0, [.int (nI (0)), .ref (mi_de D), nn]))) := ⟨_, rfl⟩
  have hW : mi_W D A ad cf2 H := by rw [hcf2]; exact hW
  have he2_r : cf2 r = some (.inr (0, [.int (nI (0)), .ref (mi_de D), nn])) := by rw [hcf2]; exact mi_up_s
  exact mi_retMv S hr hk hS dJx4a65c_init_da8c8_11 (Nat.le_of_ble_eq_true rfl) (Nat.le_of_ble_eq_true rfl) (by rw [hcf2, hcf1, mi_up_up] at hW; exact hW)
theorem mi_fill_step (f : Nat → Int32) (i : Nat) (x : Int32) : upd (fun j => if j < i then x else f j) i x = fun j => if j < i + 1 then x else f j := by
  funext j
  show (if j = i then x else if j < i then x else f j) = _
  by_cases h : j = i
  · rw [if_pos h, if_pos (by omega)]
  · rw [if_neg h]
    by_cases h2 : j < i
    · rw [if_pos h2, if_pos (by omega)]
    · rw [if_neg h2, if_neg (by omega)]
set_option maxHeartbeats 4000000 in
set_option maxRecDepth 100000 in
theorem c_fill (l : Launch) (D : va_G) (A : Nat → Prop) {ad : Nat → Nat} {cf : Nat → Option va_E} {r n v : Nat} {f : Nat → Int32} (hr0 : cf r = some (mi_ai D n f)) (hb : n < 2 ^ 31) : mi_Mv l yJ7_fill_53178 (Cond.code yJ7_fill_53178 cJ7_fill_53178 4 none) (mi_rm 0) D A (mi_W D A ad cf) [.ref (ad r), .int (nI (v))] 0 0 (mi_W D A ad (va_up cf r (some (mi_ai D n (fun j => if j < n then nI v else f j))))) := by
  refine mi_start (cc := cJ7_fill_53178) (nL := 4) (ret := none) rfl (by decide) (Nat.le_of_ble_eq_true rfl) ?_
  intro p e s m below meth c ls S E hW hS hr hk hn hl
  have S : CallFix p m c cJ7_fill_53178 4 s _ ((Cond.code yJ7_fill_53178 cJ7_fill_53178 4 none) :: mi_G) RJ7 := S
  have hl : lv_has ls 4 [(0, .ref (ad r)), (1, .int (nI (v)))] := hl
  refine lv_iconst (v := nI 0) S.1 S.2.1 dJ7_fill_53178_0 (by decide) ?_
  refine lv_istore_n (lv' := [(2, .int (nI (0))), (0, .ref (ad r)), (1, .int (nI (v)))]) S.1 S.2.1 dJ7_fill_53178_1 rfl hl (by decide) rfl (fun ls hl => ?_)
  refine lv_aload_n S.1 S.2.1 dJ7_fill_53178_2 rfl (lv_at hl 1 rfl) ?_
  refine mi_alen S E hW r 0 rfl hr0 rfl dJ7_fill_53178_3 ?_
  refine lv_istore_n (lv' := [(3, .int (nI (n))), (2, .int (nI (0))), (0, .ref (ad r)), (1, .int (nI (v)))]) S.1 S.2.1 dJ7_fill_53178_4 rfl hl (by decide) rfl (fun ls hl => ?_)
  have lp5 : ∀ (n5 : Nat) (i : Nat) (H : Heap) (locs : List Loc) (ls : Array Slot), n - i < n5 → i ≤ n → mi_W D A ad (va_up cf r (some (mi_ai D n (fun j => if j < i then nI v else f j)))) H → va_S A s.heap H locs → lv_has ls 4 [(0, .ref (ad r)), (1, .int (nI (v))), (2, .int (nI (i))), (3, .int (nI (n)))] → W p l e (mi_rm 0) s m ([.ref (ad r), .int (nI (v))] : List Value).toArray below meth c H locs 0 0 (MQ below (mi_Qv A (mi_W D A ad (va_up cf r (some (mi_ai D n (fun j => if j < n then nI v else f j)))))) ([.ref (ad r), .int (nI (v))] : List Value).toArray s 0 0 A) (F0 m 5 ls []) := by
    intro n5
    induction n5 with
    | zero => intro i H locs ls hm hi hW hS hl; exact absurd hm (Nat.not_lt_zero _)
    | succ n5 ih5 =>
      intro i H locs ls hm hi hW hS hl
      refine lv_iload_n S.1 S.2.1 dJ7_fill_53178_5 rfl (lv_at hl 2 rfl) ?_
      refine lv_iload_n S.1 S.2.1 dJ7_fill_53178_6 rfl (lv_at hl 3 rfl) ?_
      refine mi_icmp_ge (tgt := 20) S (by omega) (by omega) dJ7_fill_53178_7 (by decide) (fun c7_0 => ?_) (fun c7_0 => ?_)
      · exact mi_retMv S hr hk hS dJ7_fill_53178_20 (Nat.le_of_ble_eq_true rfl) (Nat.le_of_ble_eq_true rfl) (by rw [show i = n by omega] at hW; exact hW)
      · refine lv_aload_n S.1 S.2.1 dJ7_fill_53178_10 rfl (lv_at hl 0 rfl) ?_
        refine lv_iload_n S.1 S.2.1 dJ7_fill_53178_11 rfl (lv_at hl 2 rfl) ?_
        refine lv_iload_n S.1 S.2.1 dJ7_fill_53178_12 rfl (lv_at hl 1 rfl) ?_
        refine mi_iast S E hS hW r rfl (n := n) (f := fun j => if j < i then nI v else f j) mi_up_s (by omega) (by omega) dJ7_fill_53178_13 (fun H locs hW hS hz => ?_)
        have hW : mi_W D A ad (va_up cf r (some (mi_ai D n (fun j => if j < i + 1 then nI v else f j)))) H := by rw [mi_up_up, mi_fill_step] at hW; exact hW
        refine lv_iinc (v := nI (i + 1)) (lv' := [(2, .int (nI (i + 1))), (0, .ref (ad r)), (1, .int (nI (v))), (3, .int (nI (n)))]) S.1 S.2.1 dJ7_fill_53178_14 hl (k := 2) rfl (mi_inc _) (by decide) rfl (fun ls hl => ?_)
        refine lv_goto (tgt := 5) S.1 S.2.1 dJ7_fill_53178_17 (by decide) ?_
        exact ih5 (i + 1) _ _ _ (by omega) (by omega) hW hS (lv_sub hl [1, 2, 0, 3] rfl)
  exact lp5 _ 0 _ _ _ (Nat.lt_succ_self _) (by omega) (by rw [mi_fill_0 f (nI v), mi_up_id hr0]; exact hW) hS (lv_sub hl [2, 3, 1, 0] rfl)
