/-! a new state; set, raise, layer -/
section MTW
variable {p : Program} {l : Launch} {e : Env} {R : Room} {s : State} {m : MethodId} {args : Array Value} {below : List Frame} {meth : Method} {c : Code} {H : Heap} {locs : List Loc} {cells slots : Nat} {Q : State → Prop} {pc : Nat} {ls : Array Slot} {rest : List Value}
theorem mi_two {v v' u u' : Value} (h : v = v') (h2 : u = u') (k : W p l e R s m args below meth c H locs cells slots Q (F0 m pc ls (v' :: u' :: rest))) : W p l e R s m args below meth c H locs cells slots Q (F0 m pc ls (v :: u :: rest)) := by rw [h, h2]; exact k
end MTW
set_option maxHeartbeats 4000000 in
set_option maxRecDepth 100000 in
theorem c_beginState (l : Launch) (D : va_G) (A : Nat → Prop) {ad : Nat → Nat} {cf : Nat → Option va_E} {S0 : sT} (hX : RepX D S0 ad cf) (hO : st_ok S0) (hAu : ∀ a b, A a → a ≤ b → A b) (h61 : sN S0 < 61) : mi_Mv l yX4_beginState (Cond.code yX4_beginState cX4_beginState 1 none) (mi_rq 7 3 1131) D A (mi_W D A ad cf) [.ref (ad 0)] 3 1131 (rx_P D A (st_new S0 (sK S0 (sW S0))) ad cf) := by
  refine mi_start (cc := cX4_beginState) (nL := 1) (ret := none) rfl (by decide) (Nat.le_of_ble_eq_true rfl) ?_
  intro p e s m below meth c ls S E hW hS hr hk hn hl
  have S : CallFix p m c cX4_beginState 1 s _ ((Cond.code yX4_beginState cX4_beginState 1 none) :: mi_G) RX4 := S
  have hl : lv_has ls 1 [(0, .ref (ad 0))] := hl
  obtain ⟨⟨o1, o2, o3, o4, o5⟩, oP, oK, oD, oX, oC, oI⟩ := id hO
  obtain ⟨x0, x1, x2, x3, ⟨pm, pq, pn, xp⟩, xs, ⟨co, hrr, grr, xd, xc⟩, x9⟩ := id hX
  have hx0 := x0
  unfold rx_ob at hx0
  obtain ⟨hsn, hkn⟩ := xs (sW S0) o3
  have hKb : ∀ j, j < 128 → sK S0 (sW S0) j < 4 := fun j hj => oK _ _ o3 hj
  obtain ⟨mc1, ea1, hs1⟩ := x1.size
  have hA : ∀ q, s.heap.size ≤ q → A q := hW.up hAu hx0
  refine lv_aload_n S.1 S.2.1 dX4_beginState_0 rfl (lv_at hl 0 rfl) ?_
  obtain ⟨a1, hn1⟩ : ∃ z, z = s.heap.size := ⟨_, rfl⟩
  refine mi_new (ci := 4) (fs := [.int (nI (0)), .null, .null]) S E hS hA hW (100 + 2 * sN S0) rfl (mg_X3 _) tyX3 tyX3_ok (fun j hj => by rcases (show j = 0 ∨ j = 1 ∨ j = 2 by omega) with rfl | rfl | rfl <;> rfl) (List.mem_cons_of_mem _ mw_89) (List.mem_cons_of_mem _ mw_90) (List.mem_cons_of_mem _ mw_23) (by show _ ≤ (3 : Nat); omega) (by show _ ≤ (1131 : Nat); omega) dX4_beginState_1 (fun H9 hW hS hz => ?_)
  rw [← hn1] at hW hz ⊢
  obtain ⟨H, rfl⟩ : ∃ z, z = H9 := ⟨_, rfl⟩
  obtain ⟨ad1, had1⟩ : ∃ z, z = va_up ad ((100 + 2 * sN S0)) a1 := ⟨_, rfl⟩
  obtain ⟨cf1, hcf1⟩ : ∃ z, z = va_up cf ((100 + 2 * sN S0)) (some (.inr (4, [.int (nI (0)), .null, .null]))) := ⟨_, rfl⟩
  have hW : mi_W D A ad1 cf1 H := by rw [had1, hcf1]; exact hW
  have he1_0 : cf1 ((100 + 2 * sW S0)) = some (.inr (4, [.int (nI (sW S0)), rx_par S0 ad (sW S0), .ref (ad (101 + 2 * sW S0))])) := by rw [hcf1]; exact (mi_up_n (by omega)).trans hsn
  have ha1_0 : ad1 ((100 + 2 * sW S0)) = ad ((100 + 2 * sW S0)) := by rw [had1]; exact (mi_up_n (by omega)).trans rfl
  have he1_1 : cf1 0 = some (.inr (5, [.ref (ad 1), .ref (ad 2), .ref (ad 3), .ref (ad 4), .ref (ad (100 + 2 * sW S0))])) := by rw [hcf1]; exact (mi_up_n (by omega)).trans hx0
  have ha1_1 : ad1 0 = ad 0 := by rw [had1]; exact (mi_up_n (by omega)).trans rfl
  have he1_2 : cf1 1 = some (.inr (0, [.int mc1, .ref ea1, .int (nI (sN S0))])) := by rw [hcf1]; exact (mi_up_n (by omega)).trans hs1
  have ha1_2 : ad1 1 = ad 1 := by rw [had1]; exact (mi_up_n (by omega)).trans rfl
  have he1_3 : cf1 ((101 + 2 * sW S0)) = some (mi_ai D 128 (fun j => nI (sK S0 (sW S0) j))) := by rw [hcf1]; exact (mi_up_n (by omega)).trans hkn
  have ha1_3 : ad1 ((101 + 2 * sW S0)) = ad (101 + 2 * sW S0) := by rw [had1]; exact (mi_up_n (by omega)).trans rfl
  have he1_r : cf1 ((100 + 2 * sN S0)) = some (.inr (4, [.int (nI (0)), .null, .null])) := by rw [hcf1]; exact mi_up_s
  have ha1_r : ad1 ((100 + 2 * sN S0)) = a1 := by rw [had1]; exact mi_up_s
  refine lv_dup S.1 S.2.1 dX4_beginState_4 rfl ?_
  refine lv_aload_n S.1 S.2.1 dX4_beginState_5 rfl (lv_at hl 0 rfl) ?_
  refine fg_X4_12 S E hW 0 ha1_1 he1_1 rfl dX4_beginState_6 ?_
  refine mi_top (v' := .ref (ad1 1)) (congrArg Value.ref (Eq.symm ha1_2)) ?_
  refine mi_cR (mi_runV (P := mi_W D A ad1 cf1) (As := []) (rest := [.ref (a1), .ref (a1), .ref (ad 0)]) S E hS hW (ad1 1) (c_AL_size l D A he1_2) (hW.recv E he1_2 rfl) mw_307 mw_304 mw_305 mw_306 mw_21 ⟨by decide, by decide, by decide +kernel⟩ ⟨rfl, rfl, Nat.le_of_ble_eq_true rfl, Nat.le_of_ble_eq_true rfl⟩ (n := 0) rfl hl.1 rfl (Nat.le_of_ble_eq_true rfl) dX4_beginState_9 ⟨Nat.le_of_ble_eq_true rfl, Nat.le_of_ble_eq_true rfl⟩) (fun r9 e9 => ?_)
  subst e9
  refine lv_aload_n S.1 S.2.1 dX4_beginState_12 rfl (lv_at hl 0 rfl) ?_
  refine fg_X4_34 S E hW 0 ha1_1 he1_1 rfl dX4_beginState_13 ?_
  refine lv_aload_n S.1 S.2.1 dX4_beginState_16 rfl (lv_at hl 0 rfl) ?_
  refine fg_X4_34 S E hW 0 ha1_1 he1_1 rfl dX4_beginState_17 ?_
  refine fg_X4_198 S E hW ((100 + 2 * sW S0)) ha1_0 he1_0 rfl dX4_beginState_20 ?_
  obtain ⟨a2, hn2⟩ : ∃ z, z = H.size := ⟨_, rfl⟩
  refine mi_clone S E hS hA hW ((101 + 2 * sW S0)) (101 + 2 * sN S0) ha1_3 he1_3 hl.1 (List.mem_cons_of_mem _ mw_328) (List.mem_cons_of_mem _ mw_329) (List.mem_cons_of_mem _ mw_330) (List.mem_cons_of_mem _ mw_331) (List.mem_cons_of_mem _ mw_332) (Nat.le_of_ble_eq_true rfl) (Nat.le_of_ble_eq_true rfl) (by show _ ≤ (3 : Nat); omega) (by show _ ≤ (1131 : Nat); omega) dX4_beginState_23 (fun H9 hW hS hz => ?_)
  rw [← hn2] at hW hz ⊢
  obtain ⟨H, rfl⟩ : ∃ z, z = H9 := ⟨_, rfl⟩
  obtain ⟨ad2, had2⟩ : ∃ z, z = va_up ad1 ((101 + 2 * sN S0)) a2 := ⟨_, rfl⟩
  obtain ⟨cf2, hcf2⟩ : ∃ z, z = va_up cf1 ((101 + 2 * sN S0)) (some (mi_ai D 128 (fun j => nI (sK S0 (sW S0) j)))) := ⟨_, rfl⟩
  have hW : mi_W D A ad2 cf2 H := by rw [had2, hcf2]; exact hW
  have he2_0 : cf2 ((100 + 2 * sW S0)) = some (.inr (4, [.int (nI (sW S0)), rx_par S0 ad (sW S0), .ref (ad (101 + 2 * sW S0))])) := by rw [hcf2]; exact (mi_up_n (by omega)).trans he1_0
  have ha2_0 : ad2 ((100 + 2 * sW S0)) = ad ((100 + 2 * sW S0)) := by rw [had2]; exact (mi_up_n (by omega)).trans ha1_0
  have he2_1 : cf2 0 = some (.inr (5, [.ref (ad 1), .ref (ad 2), .ref (ad 3), .ref (ad 4), .ref (ad (100 + 2 * sW S0))])) := by rw [hcf2]; exact (mi_up_n (by omega)).trans he1_1
  have ha2_1 : ad2 0 = ad 0 := by rw [had2]; exact (mi_up_n (by omega)).trans ha1_1
  have he2_2 : cf2 1 = some (.inr (0, [.int mc1, .ref ea1, .int (nI (sN S0))])) := by rw [hcf2]; exact (mi_up_n (by omega)).trans he1_2
  have ha2_2 : ad2 1 = ad 1 := by rw [had2]; exact (mi_up_n (by omega)).trans ha1_2
  have he2_3 : cf2 ((101 + 2 * sW S0)) = some (mi_ai D 128 (fun j => nI (sK S0 (sW S0) j))) := by rw [hcf2]; exact (mi_up_n (by omega)).trans he1_3
  have ha2_3 : ad2 ((101 + 2 * sW S0)) = ad (101 + 2 * sW S0) := by rw [had2]; exact (mi_up_n (by omega)).trans ha1_3
  have he2_4 : cf2 ((100 + 2 * sN S0)) = some (.inr (4, [.int (nI (0)), .null, .null])) := by rw [hcf2]; exact (mi_up_n (by omega)).trans he1_r
  have ha2_4 : ad2 ((100 + 2 * sN S0)) = a1 := by rw [had2]; exact (mi_up_n (by omega)).trans ha1_r
  have he2_r : cf2 ((101 + 2 * sN S0)) = some (mi_ai D 128 (fun j => nI (sK S0 (sW S0) j))) := by rw [hcf2]; exact mi_up_s
  have ha2_r : ad2 ((101 + 2 * sN S0)) = a2 := by rw [had2]; exact mi_up_s
  refine mi_castI S E hW ((101 + 2 * sN S0)) ha2_r he2_r (List.mem_cons_of_mem _ mw_334) dX4_beginState_26 ?_
  refine mi_cMv (mi_runI (P := mi_W D A ad2 cf2) (As := [.int (nI (sN S0)), .ref (ad (100 + 2 * sW S0)), .ref (a2)]) (rest := [.ref (a1), .ref (ad 0)]) S E hS hW a1 (c_State_init l D A ha2_4 he2_4) mw_93 mw_91 mw_92 mw_23 rfl ⟨by decide, by decide, by decide +kernel⟩ ⟨rfl, rfl, Nat.le_of_ble_eq_true rfl, Nat.le_of_ble_eq_true rfl⟩ (n := 3) rfl hl.1 rfl (Nat.le_of_ble_eq_true rfl) dX4_beginState_29 ⟨(by show _ ≤ (3 : Nat); omega), (by show _ ≤ (1131 : Nat); omega)⟩) hS (fun H locs hW hS hz => ?_)
  obtain ⟨cf3, hcf3⟩ : ∃ z, z = va_up cf2 ((100 + 2 * sN S0)) (some (.inr (4, [.int (nI (sN S0)), .ref (ad (100 + 2 * sW S0)), .ref (a2)]))) := ⟨_, rfl⟩
  have hW : mi_W D A ad2 cf3 H := by rw [hcf3]; exact hW
  have he3_0 : cf3 ((100 + 2 * sW S0)) = some (.inr (4, [.int (nI (sW S0)), rx_par S0 ad (sW S0), .ref (ad (101 + 2 * sW S0))])) := by rw [hcf3]; exact (mi_up_n (by omega)).trans he2_0
  have he3_1 : cf3 0 = some (.inr (5, [.ref (ad 1), .ref (ad 2), .ref (ad 3), .ref (ad 4), .ref (ad (100 + 2 * sW S0))])) := by rw [hcf3]; exact (mi_up_n (by omega)).trans he2_1
  have he3_2 : cf3 1 = some (.inr (0, [.int mc1, .ref ea1, .int (nI (sN S0))])) := by rw [hcf3]; exact (mi_up_n (by omega)).trans he2_2
  have he3_3 : cf3 ((101 + 2 * sW S0)) = some (mi_ai D 128 (fun j => nI (sK S0 (sW S0) j))) := by rw [hcf3]; exact (mi_up_n (by omega)).trans he2_3
  have he3_4 : cf3 ((101 + 2 * sN S0)) = some (mi_ai D 128 (fun j => nI (sK S0 (sW S0) j))) := by rw [hcf3]; exact (mi_up_n (by omega)).trans he2_r
  have he3_r : cf3 ((100 + 2 * sN S0)) = some (.inr (4, [.int (nI (sN S0)), .ref (ad (100 + 2 * sW S0)), .ref (a2)])) := by rw [hcf3]; exact mi_up_s
  refine fp_X4_34 S E hS hW 0 ha2_1 he3_1 (Nat.le_of_ble_eq_true rfl) rfl rfl dX4_beginState_32 (fun H locs hW hS hz => ?_)
  obtain ⟨cf4, hcf4⟩ : ∃ z, z = va_up cf3 0 (some (.inr (5, [.ref (ad 1), .ref (ad 2), .ref (ad 3), .ref (ad 4), .ref (a1)]))) := ⟨_, rfl⟩
  have hW : mi_W D A ad2 cf4 H := by rw [hcf4]; exact hW
  have he4_0 : cf4 ((100 + 2 * sW S0)) = some (.inr (4, [.int (nI (sW S0)), rx_par S0 ad (sW S0), .ref (ad (101 + 2 * sW S0))])) := by rw [hcf4]; exact (mi_up_n (by omega)).trans he3_0
  have he4_1 : cf4 1 = some (.inr (0, [.int mc1, .ref ea1, .int (nI (sN S0))])) := by rw [hcf4]; exact (mi_up_n (by omega)).trans he3_2
  have he4_2 : cf4 ((101 + 2 * sW S0)) = some (mi_ai D 128 (fun j => nI (sK S0 (sW S0) j))) := by rw [hcf4]; exact (mi_up_n (by omega)).trans he3_3
  have he4_3 : cf4 ((101 + 2 * sN S0)) = some (mi_ai D 128 (fun j => nI (sK S0 (sW S0) j))) := by rw [hcf4]; exact (mi_up_n (by omega)).trans he3_4
  have he4_4 : cf4 ((100 + 2 * sN S0)) = some (.inr (4, [.int (nI (sN S0)), .ref (ad (100 + 2 * sW S0)), .ref (a2)])) := by rw [hcf4]; exact (mi_up_n (by omega)).trans he3_r
  have he4_r : cf4 0 = some (.inr (5, [.ref (ad 1), .ref (ad 2), .ref (ad 3), .ref (ad 4), .ref (a1)])) := by rw [hcf4]; exact mi_up_s
  refine lv_aload_n S.1 S.2.1 dX4_beginState_35 rfl (lv_at hl 0 rfl) ?_
  refine fg_X4_12 S E hW 0 ha2_1 he4_r rfl dX4_beginState_36 ?_
  refine lv_aload_n S.1 S.2.1 dX4_beginState_39 rfl (lv_at hl 0 rfl) ?_
  refine fg_X4_34 S E hW 0 ha2_1 he4_r rfl dX4_beginState_40 ?_
  refine mi_two (v' := .ref (ad2 (100 + 2 * sN S0))) (u' := .ref (ad2 1)) (congrArg Value.ref (Eq.symm ha2_4)) (congrArg Value.ref (Eq.symm ha2_2)) ?_
  have eC : ∀ k, k ≠ 0 → k ≠ (100 + 2 * sN S0) → k ≠ (101 + 2 * sN S0) → cf4 k = cf k := fun k _ _ _ => by rw [hcf4, mi_up_n (by omega), hcf3, mi_up_n (by omega), hcf2, mi_up_n (by omega), hcf1, mi_up_n (by omega)]
  have eA : ∀ k, k ≠ (100 + 2 * sN S0) → k ≠ (101 + 2 * sN S0) → ad2 k = ad k := fun k _ _ => by rw [had2, mi_up_n (by omega), had1, mi_up_n (by omega)]
  have kL9 : mi_L D ad2 cf4 1 11 (sN S0) (fun i => 100 + 2 * i) := x1.keep (eC _ (by omega) (by omega) (by omega)) ⟨eC _ (by omega) (by omega) (by omega), eA _ (by omega) (by omega)⟩ (fun i hi => eA _ (by omega) (by omega))
  obtain ⟨mc8, ea8, hs8⟩ := kL9.size
  refine mi_cMi (mi_runV (P := mi_W D A ad2 cf4) (As := [.ref (ad2 (100 + 2 * sN S0))]) (rest := []) S E hS hW (ad2 1) (c_addL l D A hAu kL9 (by omega) (ro := (100 + 2 * sN S0)) he4_4 rfl (by decide) (by omega) (by omega) (by omega) (by omega) (by omega) (by omega) ((eC 999 (by omega) (by omega) (by omega)).trans x9) (fun i hi => ⟨⟨_, (eC _ (by omega) (by omega) (by omega)).trans (xs i hi).1⟩, (fun he => absurd (hW.2 _ 1 _ _ ((eC _ (by omega) (by omega) (by omega)).trans (xs i hi).1) hs8 he) (by omega)), by omega⟩)) (hW.recv E hs8 rfl) mw_111 mw_108 mw_109 mw_110 mw_21 ⟨by decide, by decide, by decide +kernel⟩ ⟨rfl, rfl, Nat.le_of_ble_eq_true rfl, Nat.le_of_ble_eq_true rfl⟩ (n := 1) rfl hl.1 rfl (Nat.le_of_ble_eq_true rfl) dX4_beginState_43 ⟨(by show _ ≤ (3 : Nat); omega), (by show _ ≤ (1131 : Nat); omega)⟩) hS (fun r9 H locs hp9 hS hz => ?_)
  obtain ⟨e9, adL, cfL, hW, kL, frL, aL⟩ := hp9
  refine lv_pop S.1 S.2.1 dX4_beginState_46 rfl ?_
  refine mi_retMv S hr hk hS dX4_beginState_47 (by show _ ≤ (3 : Nat); omega) (by show _ ≤ (1131 : Nat); omega) ⟨adL, cfL, hW, RepX.new hO h61 hX ?_ ?_ ?_ ?_ (fun k q1 q2 q3 q4 q5 q6 => ⟨((frL k q3 q4).1).trans (eC k q2 q5 q6), ((frL k q3 q4).2).trans (eA k q5 q6)⟩), fun k hk => ⟨((frL k (by omega) (by omega)).1).trans (eC k (by omega) (by omega) (by omega)), ((frL k (by omega) (by omega)).2).trans (eA k (by omega) (by omega))⟩, ((frL 0 (by omega) (by omega)).2).trans (eA 0 (by omega) (by omega))⟩
  · rw [(frL 0 (by omega) (by omega)).1, he4_r, aL, eA 1 (by omega) (by omega), (frL 2 (by omega) (by omega)).2, eA 2 (by omega) (by omega), (frL 3 (by omega) (by omega)).2, eA 3 (by omega) (by omega), (frL 4 (by omega) (by omega)).2, eA 4 (by omega) (by omega), (frL (100 + 2 * sN S0) (by omega) (by omega)).2, ha2_4]
  · rw [mi_un_id (g := fun i => 100 + 2 * i) rfl] at kL; exact kL
  · rw [(frL (100 + 2 * sN S0) (by omega) (by omega)).1, he4_4, (frL (100 + 2 * sW S0) (by omega) (by omega)).2, eA (100 + 2 * sW S0) (by omega) (by omega), (frL (101 + 2 * sN S0) (by omega) (by omega)).2, ha2_r]
  · rw [(frL (101 + 2 * sN S0) (by omega) (by omega)).1, he4_3]
