/-! cut, strike, forge -/
section MIT2
variable {p : Program} {l : Launch} {e : Env} {R : Room} {s : State} {m : MethodId} {args : Array Value} {below : List Frame} {meth : Method} {c : Code} {H : Heap} {locs : List Loc} {cells slots : Nat} {Q : State → Prop}
variable {cc : ByteArray} {pc nL : Nat} {ls : Array Slot} {rest : List Value} {D : va_G} {A : Nat → Prop} {ad : Nat → Nat} {cf : Nat → Option va_E} {w0 : Cond} {P : Heap → Prop}
theorem mi_throwP {cls text : String} {ik is ic mc ms : Nat} (S : CallFix p m c cc nL s args (w0 :: mi_G) RX4) (E : mi_E D A s) (hst : l.stackTraces = false) (hS : va_S A s.heap H locs) (hW : mi_W D A ad cf H) (hP : ∀ H1, mi_W D A ad cf H1 → P H1) (hcls : Bundle.fit cls = true) (hk : Cond.classLink RX4 ik cls ∈ mi_G) (hini : Cond.initialized cls ∈ mi_G) (hstr : (is, text) ∈ mi_strs)
    (hg : ∀ w ∈ (vx_atS RX4 ic cls mi_ns).filter goodWord, w ∈ lw_tbl) (hb : ∀ w ∈ (vx_atS RX4 ic cls mi_ns).filter (fun w => !goodWord w), w ∈ mt_bad cls) (hcast : (cls, cls) ∈ mi_casts) (hgood : ∀ w ∈ Cond.classLink RX4 ik cls :: Cond.initialized cls :: vx_atS RX4 ic cls mi_ns, vx_ot w = true)
    (hsize : ls.size = nL) (d0 : decode cc pc = .ok (.new ik, 3)) (d3 : decode cc (pc + 3) = .ok (.dup, 1)) (d4 : decode cc (pc + 4) = .ok (.ldc is, 2)) (d6 : decode cc (pc + 6) = .ok (.invokespecial ic, 3)) (d9 : decode cc (pc + 9) = .ok (.athrow, 1))
    (hno : ∀ x ∈ c.exceptionTable.toList, False) (hfr : 5 < R.frames) (hlo : (rest.map fun v => v.category).sum + 82 ≤ R.locals) (hcells : cells + 1 ≤ R.cells) (hslots : slots + 6 ≤ R.slots) (hlk : meth.locks = false) (hc : cells + 1 ≤ mc) (hs : slots + 6 ≤ ms) :
    W p l e R s m args below meth c H locs cells slots (vx_MQ below (mi_QX A) (mi_XX A P cls) args s mc ms A) (F0 m pc ls rest) := by
  have hts := S.2.2.2.2
  have hdc := E.2.2.2.2.2.2.2.2.2.2.1.2
  obtain ⟨sa, hsa⟩ := E.2.2.2.2.1 _ hstr
  have hat : ∀ w ∈ vx_atS RX4 ic cls mi_ns, w.before args s = true := vx_hat
    (fun w hw => hts w (List.mem_cons_of_mem _ (List.mem_filter.mpr ⟨hg w hw, (List.mem_filter.mp hw).2⟩))) hb
    (vx_c (va_Nw.use (A := args) rfl (E.2.2.1 (cls, cls) hcast)) (vx_c (va_Nw.use (A := args) rfl (hdc _ (by decide))) (vx_c (va_Nw.use (A := args) rfl (hdc _ (by decide))) (vx_c (va_Nw.use (A := args) rfl (hdc _ (by decide))) vx_n))))
  exact vx_throwS (names := mi_ns) S.1 S.2.1 hst S.2.2.2.1 hcls (by decide) (hts _ (List.mem_cons_of_mem _ hk)) (hts _ (List.mem_cons_of_mem _ hini)) hsa hat hgood E.2.2.2.2.2.1 E.2.2.2.2.2.2.1 hS (hsize.trans S.2.2.1.symm) d0 d3 d4 d6 d9
    (fun x hx => absurd (hno x hx) (fun h => h)) hfr hlo hcells hslots hlk
    (fun t _ hz hq => ⟨(), trivial, ⟨rfl, hP _ (hW.kept (fun q h1 _ => hq q h1))⟩, ⟨Nat.le_trans hS.1 hz, fun q h1 h2 => (hq q (Nat.lt_of_lt_of_le h1 hS.1)).trans (hS.2.1 q h1 h2)⟩⟩) hS.2.2 hc hs
end MIT2
set_option maxHeartbeats 4000000 in
set_option maxRecDepth 100000 in
theorem c_cut (l : Launch) (D : va_G) (A : Nat → Prop) {ad : Nat → Nat} {cf : Nat → Option va_E} {S0 : sT} (hX : RepX D S0 ad cf) (hO : st_ok S0) (hAu : ∀ a b, A a → a ≤ b → A b) (hct : pc_ct (pc_lst (sK S0 (sW S0))) 128 1) (h8 : sD S0 < 8) : mi_Mi l yX4_cut (Cond.code yX4_cut cX4_cut 1 (some Jvm.ClassFile.FieldType.int)) (mi_rq 8 6 1057) D A (mi_W D A ad cf) [.ref (ad 0)] 6 1057 (fun r H => r = nI (sD S0) ∧ rx_P D A (st_cut S0) ad cf H) := by
  refine mi_start (cc := cX4_cut) (nL := 1) (ret := (some Jvm.ClassFile.FieldType.int)) rfl (by decide) (Nat.le_of_ble_eq_true rfl) ?_
  intro p e s m below meth c ls S E hW hS hr hk hn hl
  have S : CallFix p m c cX4_cut 1 s _ ((Cond.code yX4_cut cX4_cut 1 (some Jvm.ClassFile.FieldType.int)) :: mi_G) RX4 := S
  have hl : lv_has ls 1 [(0, .ref (ad 0))] := hl
  obtain ⟨⟨o1, o2, o3, o4, o5⟩, oP, oK, oD, oX, oC, oI⟩ := id hO
  obtain ⟨x0, x1, x2, x3, ⟨pm, pq, pn, xp⟩, xs, ⟨co, hrr, grr, xd, xc⟩, x9⟩ := id hX
  have hx0 := x0
  unfold rx_ob at hx0
  obtain ⟨hsn, hkn⟩ := xs (sW S0) o3
  have hKb : ∀ j, j < 128 → sK S0 (sW S0) j < 4 := fun j hj => oK _ _ o3 hj
  obtain ⟨mc2, ea2, hs2⟩ := x2.size
  have hA : ∀ q, s.heap.size ≤ q → A q := hW.up hAu hx0
  refine lv_aload_n S.1 S.2.1 dX4_cut_0 rfl (lv_at hl 0 rfl) ?_
  refine fg_X4_16 S E hW 0 rfl hx0 rfl dX4_cut_1 ?_
  refine mi_cR (mi_runV (P := mi_W D A ad cf) (As := []) (rest := []) S E hS hW (ad 2) (c_AL_size l D A hs2) (hW.recv E hs2 rfl) mw_307 mw_304 mw_305 mw_306 mw_21 ⟨by decide, by decide, by decide +kernel⟩ ⟨rfl, rfl, Nat.le_of_ble_eq_true rfl, Nat.le_of_ble_eq_true rfl⟩ (n := 0) rfl hl.1 rfl (Nat.le_of_ble_eq_true rfl) dX4_cut_4 ⟨Nat.le_of_ble_eq_true rfl, Nat.le_of_ble_eq_true rfl⟩) (fun r9 e9 => ?_)
  subst e9
  refine lv_bipush (v := nI 8) S.1 S.2.1 dX4_cut_7 (by decide) ?_
  refine mi_icmp_lt (tgt := 22) S (by omega) (by omega) dX4_cut_9 (by decide) (fun c9_0 => ?_) (fun c9_0 => by exfalso; omega)
  refine lv_aload_n S.1 S.2.1 dX4_cut_22 rfl (lv_at hl 0 rfl) ?_
  refine fg_X4_25 S E hW 0 rfl hx0 rfl dX4_cut_23 ?_
  refine lv_aload_n S.1 S.2.1 dX4_cut_26 rfl (lv_at hl 0 rfl) ?_
  refine fg_X4_34 S E hW 0 rfl hx0 rfl dX4_cut_27 ?_
  refine mi_cMi (mi_runV (P := mi_W D A ad cf) (As := [.ref (ad (100 + 2 * sW S0))]) (rest := []) S E hS hW (ad 4) (c_countPieces l D A xp hsn hkn ⟨by omega, by omega, by omega, by omega, by omega, by omega⟩ hKb) (hW.recv E xp.1 rfl) mw_447 mw_444 mw_445 mw_446 mw_22 ⟨by decide, by decide, by decide +kernel⟩ ⟨rfl, rfl, Nat.le_of_ble_eq_true rfl, Nat.le_of_ble_eq_true rfl⟩ (n := 1) rfl hl.1 rfl (Nat.le_of_ble_eq_true rfl) dX4_cut_30 ⟨(by show _ ≤ (6 : Nat); omega), (by show _ ≤ (1057 : Nat); omega)⟩) hS (fun r9 H locs hp9 hS hz => ?_)
  obtain ⟨k9, e9, hk9, cf1, u1, v1, n1, hW, hp1, hf1⟩ := hp9
  rw [pc_ct_fun hk9 hct] at e9
  subst e9
  have hX1 := RepX.pf hO hX hf1 hp1
  obtain ⟨co, hrr, grr, hC⟩ := hX1.C
  obtain ⟨y0, y1, y2, y3, ⟨ym, yq, yn, yp⟩, ys, yd, yc, y9⟩ := id hC
  have hy0 := y0
  unfold rx_ob at hy0
  obtain ⟨hsn, hkn⟩ := ys (sW S0) o3
  obtain ⟨mc2, ea2, hs2⟩ := y2.size
  refine lv_iconst (v := nI 1) S.1 S.2.1 dX4_cut_33 (by decide) ?_
  refine mi_icmp_eq (tgt := 47) S (by omega) (by omega) dX4_cut_34 (by decide) (fun c34_1 => ?_) (fun c34_1 => by exfalso; omega)
  refine lv_aload_n S.1 S.2.1 dX4_cut_47 rfl (lv_at hl 0 rfl) ?_
  refine fg_X4_16 S E hW 0 rfl hy0 rfl dX4_cut_48 ?_
  obtain ⟨a3, hn3⟩ : ∃ z, z = H.size := ⟨_, rfl⟩
  refine mi_new (ci := 2) (fs := [.null, .null, .null]) S E hS hA hW (300 + sD S0) rfl (mg_X1 _) tyX1 tyX1_ok (fun j hj => by rcases (show j = 0 ∨ j = 1 ∨ j = 2 by omega) with rfl | rfl | rfl <;> rfl) (List.mem_cons_of_mem _ mw_470) (List.mem_cons_of_mem _ mw_471) (List.mem_cons_of_mem _ mw_36) (by show _ ≤ (6 : Nat); omega) (by show _ ≤ (1057 : Nat); omega) dX4_cut_51 (fun H9 hW hS hz => ?_)
  rw [← hn3] at hW hz ⊢
  obtain ⟨H, rfl⟩ : ∃ z, z = H9 := ⟨_, rfl⟩
  obtain ⟨ad3, had3⟩ : ∃ z, z = va_up ad ((300 + sD S0)) a3 := ⟨_, rfl⟩
  obtain ⟨cf3, hcf3⟩ : ∃ z, z = va_up cf1 ((300 + sD S0)) (some (.inr (2, [.null, .null, .null]))) := ⟨_, rfl⟩
  have hW : mi_W D A ad3 cf3 H := by rw [had3, hcf3]; exact hW
  have he3_0 : cf3 ((100 + 2 * sW S0)) = some (.inr (4, [.int (nI (sW S0)), rx_par S0 ad (sW S0), .ref (ad (101 + 2 * sW S0))])) := by rw [hcf3]; exact (mi_up_n (by omega)).trans hsn
  have ha3_0 : ad3 ((100 + 2 * sW S0)) = ad ((100 + 2 * sW S0)) := by rw [had3]; exact (mi_up_n (by omega)).trans rfl
  have he3_1 : cf3 0 = some (.inr (5, [.ref (ad 1), .ref (ad 2), .ref (ad 3), .ref (ad 4), .ref (ad (100 + 2 * sW S0))])) := by rw [hcf3]; exact (mi_up_n (by omega)).trans hy0
  have ha3_1 : ad3 0 = ad 0 := by rw [had3]; exact (mi_up_n (by omega)).trans rfl
  have he3_2 : cf3 2 = some (.inr (0, [.int mc2, .ref ea2, .int (nI (sD S0))])) := by rw [hcf3]; exact (mi_up_n (by omega)).trans hs2
  have ha3_2 : ad3 2 = ad 2 := by rw [had3]; exact (mi_up_n (by omega)).trans rfl
  have he3_3 : cf3 ((101 + 2 * sW S0)) = some (mi_ai D 128 (fun j => nI (sK S0 (sW S0) j))) := by rw [hcf3]; exact (mi_up_n (by omega)).trans hkn
  have ha3_3 : ad3 ((101 + 2 * sW S0)) = ad (101 + 2 * sW S0) := by rw [had3]; exact (mi_up_n (by omega)).trans rfl
  have he3_r : cf3 ((300 + sD S0)) = some (.inr (2, [.null, .null, .null])) := by rw [hcf3]; exact mi_up_s
  have ha3_r : ad3 ((300 + sD S0)) = a3 := by rw [had3]; exact mi_up_s
  refine lv_dup S.1 S.2.1 dX4_cut_54 rfl ?_
  refine lv_aload_n S.1 S.2.1 dX4_cut_55 rfl (lv_at hl 0 rfl) ?_
  refine fg_X4_34 S E hW 0 ha3_1 he3_1 rfl dX4_cut_56 ?_
  refine mi_top (v' := .ref (ad3 (100 + 2 * sW S0))) (congrArg Value.ref (Eq.symm ha3_0)) ?_
  have hS8 : cf3 (100 + 2 * sW S0) = some (.inr (4, [.int (nI (sW S0)), rx_par S0 ad (sW S0), .ref (ad3 (101 + 2 * sW S0))])) := by rw [ha3_3]; exact he3_0
  refine mi_cMr (mi_runV (P := mi_W D A ad3 cf3) (As := []) (rest := [.ref (a3), .ref (a3), .ref (ad 2)]) S E hS hW (ad3 (100 + 2 * sW S0)) (c_copyHeights l D A hS8 he3_3 hKb hAu (t := (310 + sD S0)) ⟨by omega, by omega⟩) (hW.recv E hS8 rfl) mw_475 mw_472 mw_473 mw_474 mw_23 ⟨by decide, by decide, by decide +kernel⟩ ⟨rfl, rfl, Nat.le_of_ble_eq_true rfl, Nat.le_of_ble_eq_true rfl⟩ (n := 0) rfl hl.1 rfl (Nat.le_of_ble_eq_true rfl) dX4_cut_59 ⟨(by show _ ≤ (6 : Nat); omega), (by show _ ≤ (1057 : Nat); omega)⟩) hS (fun r9 H locs hW hS hz => ?_)
  obtain ⟨a4, rfl⟩ : ∃ z, z = r9 := ⟨_, rfl⟩
  obtain ⟨ad4, had4⟩ : ∃ z, z = va_up ad3 ((310 + sD S0)) a4 := ⟨_, rfl⟩
  obtain ⟨cf4, hcf4⟩ : ∃ z, z = va_up cf3 ((310 + sD S0)) (some (mi_ai D 16 (fun c => nI (sp_h (sK S0 (sW S0)) c 8)))) := ⟨_, rfl⟩
  have hW : mi_W D A ad4 cf4 H := by rw [had4, hcf4]; exact hW
  have he4_0 : cf4 ((100 + 2 * sW S0)) = some (.inr (4, [.int (nI (sW S0)), rx_par S0 ad (sW S0), .ref (ad (101 + 2 * sW S0))])) := by rw [hcf4]; exact (mi_up_n (by omega)).trans he3_0
  have ha4_0 : ad4 ((100 + 2 * sW S0)) = ad ((100 + 2 * sW S0)) := by rw [had4]; exact (mi_up_n (by omega)).trans ha3_0
  have he4_1 : cf4 0 = some (.inr (5, [.ref (ad 1), .ref (ad 2), .ref (ad 3), .ref (ad 4), .ref (ad (100 + 2 * sW S0))])) := by rw [hcf4]; exact (mi_up_n (by omega)).trans he3_1
  have ha4_1 : ad4 0 = ad 0 := by rw [had4]; exact (mi_up_n (by omega)).trans ha3_1
  have he4_2 : cf4 2 = some (.inr (0, [.int mc2, .ref ea2, .int (nI (sD S0))])) := by rw [hcf4]; exact (mi_up_n (by omega)).trans he3_2
  have ha4_2 : ad4 2 = ad 2 := by rw [had4]; exact (mi_up_n (by omega)).trans ha3_2
  have he4_3 : cf4 ((101 + 2 * sW S0)) = some (mi_ai D 128 (fun j => nI (sK S0 (sW S0) j))) := by rw [hcf4]; exact (mi_up_n (by omega)).trans he3_3
  have ha4_3 : ad4 ((101 + 2 * sW S0)) = ad (101 + 2 * sW S0) := by rw [had4]; exact (mi_up_n (by omega)).trans ha3_3
  have he4_4 : cf4 ((300 + sD S0)) = some (.inr (2, [.null, .null, .null])) := by rw [hcf4]; exact (mi_up_n (by omega)).trans he3_r
  have ha4_4 : ad4 ((300 + sD S0)) = a3 := by rw [had4]; exact (mi_up_n (by omega)).trans ha3_r
  have he4_r : cf4 ((310 + sD S0)) = some (mi_ai D 16 (fun c => nI (sp_h (sK S0 (sW S0)) c 8))) := by rw [hcf4]; exact mi_up_s
  have ha4_r : ad4 ((310 + sD S0)) = a4 := by rw [had4]; exact mi_up_s
  refine mi_cMv (mi_runI (P := mi_W D A ad4 cf4) (As := [.ref (a4)]) (rest := [.ref (a3), .ref (ad 2)]) S E hS hW a3 (c_Die_init l D A (d := sD S0) hAu ha4_4 he4_4 ha4_r he4_r) mw_483 mw_481 mw_482 mw_36 rfl ⟨by decide, by decide, by decide +kernel⟩ ⟨rfl, rfl, Nat.le_of_ble_eq_true rfl, Nat.le_of_ble_eq_true rfl⟩ (n := 1) rfl hl.1 rfl (Nat.le_of_ble_eq_true rfl) dX4_cut_62 ⟨(by show _ ≤ (6 : Nat); omega), (by show _ ≤ (1057 : Nat); omega)⟩) hS (fun H locs hp9 hS hz => ?_)
  obtain ⟨ad7, cf7, ah7, au7, hW, d1, d2, d3, d4, d5, dC, dA⟩ := hp9
  have eC : ∀ k, k ≠ (300 + sD S0) → k ≠ (310 + sD S0) → k ≠ (320 + sD S0) → k ≠ (330 + sD S0) → cf7 k = cf1 k := fun k q1 q2 q3 q4 => by rw [dC k q1 q3 q4, hcf4, mi_up_n (by omega), hcf3, mi_up_n (by omega)]
  have eA : ∀ k, k ≠ (300 + sD S0) → k ≠ (310 + sD S0) → k ≠ (320 + sD S0) → k ≠ (330 + sD S0) → ad7 k = ad k := fun k q1 q2 q3 q4 => by rw [dA k q3 q4, had4, mi_up_n (by omega), had3, mi_up_n (by omega)]
  have eD : ad7 (300 + sD S0) = a3 := by rw [dA (300 + sD S0) (by omega) (by omega)]; exact ha4_4
  have eF : ad7 (310 + sD S0) = a4 := by rw [dA (310 + sD S0) (by omega) (by omega)]; exact ha4_r
  have hF7 : cf7 (310 + sD S0) = some (mi_ai D 16 (fun c => nI (sp_h (sK S0 (sW S0)) c 8))) := by rw [dC (310 + sD S0) (by omega) (by omega) (by omega)]; exact he4_r
  refine mi_two (v' := .ref (ad7 (300 + sD S0))) (u' := .ref (ad7 2)) (congrArg Value.ref (Eq.symm eD)) (congrArg Value.ref (Eq.symm (eA 2 (by omega) (by omega) (by omega) (by omega)))) ?_
  have kL9 : mi_L D ad7 cf7 2 12 (sD S0) (fun d => 300 + d) := y2.keep (eC _ (by omega) (by omega) (by omega) (by omega)) ⟨eC _ (by omega) (by omega) (by omega) (by omega), eA _ (by omega) (by omega) (by omega) (by omega)⟩ (fun i hi => eA _ (by omega) (by omega) (by omega) (by omega))
  obtain ⟨mc8, ea8, hs8⟩ := kL9.size
  refine mi_cMi (mi_runV (P := mi_W D A ad7 cf7) (As := [.ref (ad7 (300 + sD S0))]) (rest := []) S E hS hW (ad7 2) (c_addL l D A hAu kL9 (by omega) (ro := (300 + sD S0)) d1 rfl (by decide) (by omega) (by omega) (by omega) (by omega) (by omega) (by omega) ((eC 999 (by omega) (by omega) (by omega) (by omega)).trans y9) (fun i hi => ⟨⟨_, (eC _ (by omega) (by omega) (by omega) (by omega)).trans (yd i hi).1.1⟩, (fun he => absurd (hW.2 _ 2 _ _ ((eC _ (by omega) (by omega) (by omega) (by omega)).trans (yd i hi).1.1) hs8 he) (by omega)), by omega⟩)) (hW.recv E hs8 rfl) mw_111 mw_108 mw_109 mw_110 mw_21 ⟨by decide, by decide, by decide +kernel⟩ ⟨rfl, rfl, Nat.le_of_ble_eq_true rfl, Nat.le_of_ble_eq_true rfl⟩ (n := 1) rfl hl.1 rfl (Nat.le_of_ble_eq_true rfl) dX4_cut_65 ⟨(by show _ ≤ (6 : Nat); omega), (by show _ ≤ (1057 : Nat); omega)⟩) hS (fun r9 H locs hp9 hS hz => ?_)
  obtain ⟨e9, adL, cfL, hW, kL, frL, aL⟩ := hp9
  rw [mi_un_id (g := fun d => 300 + d) rfl] at kL
  obtain ⟨mc6, ea6, hs6⟩ := kL.size
  have hy6 : cfL 0 = some (.inr (5, [.ref (ad 1), .ref (ad 2), .ref (ad 3), .ref (ad 4), .ref (ad (100 + 2 * sW S0))])) := (frL 0 (by omega) (by omega)).1.trans ((eC 0 (by omega) (by omega) (by omega) (by omega)).trans hy0)
  have a06 : adL 0 = ad 0 := (frL 0 (by omega) (by omega)).2.trans (eA 0 (by omega) (by omega) (by omega) (by omega))
  have a26 : adL 2 = ad 2 := aL.trans (eA 2 (by omega) (by omega) (by omega) (by omega))
  refine lv_pop S.1 S.2.1 dX4_cut_68 rfl ?_
  refine lv_aload_n S.1 S.2.1 dX4_cut_69 rfl (lv_at hl 0 rfl) ?_
  refine fg_X4_16 S E hW 0 a06 hy6 rfl dX4_cut_70 ?_
  refine mi_top (v' := .ref (adL 2)) (congrArg Value.ref (Eq.symm a26)) ?_
  refine mi_cR (mi_runV (P := mi_W D A adL cfL) (As := []) (rest := []) S E hS hW (adL 2) (c_AL_size l D A hs6) (hW.recv E hs6 rfl) mw_307 mw_304 mw_305 mw_306 mw_21 ⟨by decide, by decide, by decide +kernel⟩ ⟨rfl, rfl, Nat.le_of_ble_eq_true rfl, Nat.le_of_ble_eq_true rfl⟩ (n := 0) rfl hl.1 rfl (Nat.le_of_ble_eq_true rfl) dX4_cut_73 ⟨(by show _ ≤ (6 : Nat); omega), (by show _ ≤ (1057 : Nat); omega)⟩) (fun r9 e9 => ?_)
  subst e9
  refine lv_iconst (v := nI 1) S.1 S.2.1 dX4_cut_76 (by decide) ?_
  refine mi_isub S (by omega) dX4_cut_77 ?_
  refine mi_retMi S hr hk hS dX4_cut_78 (by show _ ≤ (6 : Nat); omega) (by show _ ≤ (1057 : Nat); omega) ⟨rfl, adL, cfL, hW, (RepC.cut (co := co) (hr := hrr) (gr := grr) hO h8 hC kL a26 ?_ ?_ ?_ ?_ (fun k q1 q2 q3 q4 q5 q6 q7 => ⟨(frL k q2 q3).1.trans (eC k q4 q5 q6 q7), (frL k q2 q3).2.trans (eA k q4 q5 q6 q7)⟩)).X, fun k hk => ⟨(frL k (by omega) (by omega)).1.trans ((eC k (by omega) (by omega) (by omega) (by omega)).trans (hf1 k (by omega) (by omega) (by omega))), (frL k (by omega) (by omega)).2.trans (eA k (by omega) (by omega) (by omega) (by omega))⟩, a06⟩
  · rw [(frL (310 + sD S0) (by omega) (by omega)).2, (frL (320 + sD S0) (by omega) (by omega)).2, (frL (330 + sD S0) (by omega) (by omega)).2, (frL (300 + sD S0) (by omega) (by omega)).1, eF, d4, d5]; exact d1
  · exact (frL (310 + sD S0) (by omega) (by omega)).1.trans hF7
  · exact (frL (320 + sD S0) (by omega) (by omega)).1.trans d2
  · exact ⟨_, Or.inl ⟨rfl, (frL (330 + sD S0) (by omega) (by omega)).1.trans d3⟩⟩
set_option maxHeartbeats 4000000 in
set_option maxRecDepth 100000 in
theorem c_cut_x1 (l : Launch) (D : va_G) (A : Nat → Prop) (hst : l.stackTraces = false) {ad : Nat → Nat} {cf : Nat → Option va_E} {S0 : sT} (hX : RepX D S0 ad cf) (hO : st_ok S0) (h8 : sD S0 = 8) : mi_Th l yX4_cut (Cond.code yX4_cut cX4_cut 1 (some Jvm.ClassFile.FieldType.int)) (mi_rq 6 1 6) D A (mi_W D A ad cf) [.ref (ad 0)] mi_IS 1 6 := by
  refine mi_startX (cc := cX4_cut) (nL := 1) (ret := (some Jvm.ClassFile.FieldType.int)) rfl (by decide) (Nat.le_of_ble_eq_true rfl) ?_
  intro p e s m below meth c ls S E hW hS hr hk hno hl
  have S : CallFix p m c cX4_cut 1 s _ ((Cond.code yX4_cut cX4_cut 1 (some Jvm.ClassFile.FieldType.int)) :: mi_G) RX4 := S
  have hl : lv_has ls 1 [(0, .ref (ad 0))] := hl
  obtain ⟨⟨o1, o2, o3, o4, o5⟩, oP, oK, oD, oX, oC, oI⟩ := id hO
  obtain ⟨x0, x1, x2, x3, ⟨pm, pq, pn, xp⟩, xs, ⟨co, hrr, grr, xd, xc⟩, x9⟩ := id hX
  have hx0 := x0
  unfold rx_ob at hx0
  obtain ⟨mc2, ea2, hs2⟩ := x2.size
  refine lv_aload_n S.1 S.2.1 dX4_cut_0 rfl (lv_at hl 0 rfl) ?_
  refine fg_X4_16 S E hW 0 rfl hx0 rfl dX4_cut_1 ?_
  refine mi_cR (mi_runV (P := mi_W D A ad cf) (As := []) (rest := []) S E hS hW (ad 2) (c_AL_size l D A hs2) (hW.recv E hs2 rfl) mw_307 mw_304 mw_305 mw_306 mw_21 ⟨by decide, by decide, by decide +kernel⟩ ⟨rfl, rfl, Nat.le_of_ble_eq_true rfl, Nat.le_of_ble_eq_true rfl⟩ (n := 0) rfl hl.1 rfl (Nat.le_of_ble_eq_true rfl) dX4_cut_4 ⟨Nat.le_of_ble_eq_true rfl, Nat.le_of_ble_eq_true rfl⟩) (fun r9 e9 => ?_)
  subst e9
  refine lv_bipush (v := nI 8) S.1 S.2.1 dX4_cut_7 (by decide) ?_
  refine mi_icmp_lt (tgt := 22) S (by omega) (by omega) dX4_cut_9 (by decide) (fun c9_0 => by exfalso; omega) (fun c9_0 => ?_)
  exact mi_throw (cls := mi_IS) (text := "no room for another die") (ik := 114) (is := 129) (ic := 118) S E hst hS hW (by decide) mw_308 mw_35 (by decide) mt_g_IS mt_b_IS (by decide) mt_o_IS hl.1 dX4_cut_12 dX4_cut_15 dX4_cut_16 dX4_cut_18 dX4_cut_21 hno (Nat.le_of_ble_eq_true rfl) (Nat.le_of_ble_eq_true rfl) (by show _ ≤ (1 : Nat); omega) (by show _ ≤ (6 : Nat); omega) hk (by show _ ≤ (1 : Nat); omega) (by show _ ≤ (6 : Nat); omega)
set_option maxHeartbeats 4000000 in
set_option maxRecDepth 100000 in
theorem c_cut_x2 (l : Launch) (D : va_G) (A : Nat → Prop) (hst : l.stackTraces = false) {ad : Nat → Nat} {cf : Nat → Option va_E} {S0 : sT} (hX : RepX D S0 ad cf) (hO : st_ok S0) {k : Nat} (hct : pc_ct (pc_lst (sK S0 (sW S0))) 128 k) (hk1 : k ≠ 1) (h8 : sD S0 < 8) : vx_Met l yX4_cut ((Cond.code yX4_cut cX4_cut 1 (some Jvm.ClassFile.FieldType.int)) :: mi_G) (mi_rq 7 1 6) (mi_Pc D A (mi_W D A ad cf) [.ref (ad 0)]) (mi_QX A) (mi_XX A (rx_P D A S0 ad cf) mi_IS) 1 6 A := by
  refine mi_startX (cc := cX4_cut) (nL := 1) (ret := (some Jvm.ClassFile.FieldType.int)) rfl (by decide) (Nat.le_of_ble_eq_true rfl) ?_
  intro p e s m below meth c ls S E hW hS hr hk hno hl
  have S : CallFix p m c cX4_cut 1 s _ ((Cond.code yX4_cut cX4_cut 1 (some Jvm.ClassFile.FieldType.int)) :: mi_G) RX4 := S
  have hl : lv_has ls 1 [(0, .ref (ad 0))] := hl
  obtain ⟨⟨o1, o2, o3, o4, o5⟩, oP, oK, oD, oX, oC, oI⟩ := id hO
  obtain ⟨x0, x1, x2, x3, ⟨pm, pq, pn, xp⟩, xs, ⟨co, hrr, grr, xd, xc⟩, x9⟩ := id hX
  have hx0 := x0
  unfold rx_ob at hx0
  obtain ⟨hsn, hkn⟩ := xs (sW S0) o3
  have hKb : ∀ j, j < 128 → sK S0 (sW S0) j < 4 := fun j hj => oK _ _ o3 hj
  obtain ⟨mc2, ea2, hs2⟩ := x2.size
  have hkl := pc_ct_le hct
  refine lv_aload_n S.1 S.2.1 dX4_cut_0 rfl (lv_at hl 0 rfl) ?_
  refine fg_X4_16 S E hW 0 rfl hx0 rfl dX4_cut_1 ?_
  refine mi_cR (mi_runV (P := mi_W D A ad cf) (As := []) (rest := []) S E hS hW (ad 2) (c_AL_size l D A hs2) (hW.recv E hs2 rfl) mw_307 mw_304 mw_305 mw_306 mw_21 ⟨by decide, by decide, by decide +kernel⟩ ⟨rfl, rfl, Nat.le_of_ble_eq_true rfl, Nat.le_of_ble_eq_true rfl⟩ (n := 0) rfl hl.1 rfl (Nat.le_of_ble_eq_true rfl) dX4_cut_4 ⟨Nat.le_of_ble_eq_true rfl, Nat.le_of_ble_eq_true rfl⟩) (fun r9 e9 => ?_)
  subst e9
  refine lv_bipush (v := nI 8) S.1 S.2.1 dX4_cut_7 (by decide) ?_
  refine mi_icmp_lt (tgt := 22) S (by omega) (by omega) dX4_cut_9 (by decide) (fun c9_0 => ?_) (fun c9_0 => by exfalso; omega)
  refine lv_aload_n S.1 S.2.1 dX4_cut_22 rfl (lv_at hl 0 rfl) ?_
  refine fg_X4_25 S E hW 0 rfl hx0 rfl dX4_cut_23 ?_
  refine lv_aload_n S.1 S.2.1 dX4_cut_26 rfl (lv_at hl 0 rfl) ?_
  refine fg_X4_34 S E hW 0 rfl hx0 rfl dX4_cut_27 ?_
  refine mi_cMi (mi_runV (P := mi_W D A ad cf) (As := [.ref (ad (100 + 2 * sW S0))]) (rest := []) S E hS hW (ad 4) (c_countPieces l D A xp hsn hkn ⟨by omega, by omega, by omega, by omega, by omega, by omega⟩ hKb) (hW.recv E xp.1 rfl) mw_447 mw_444 mw_445 mw_446 mw_22 ⟨by decide, by decide, by decide +kernel⟩ ⟨rfl, rfl, Nat.le_of_ble_eq_true rfl, Nat.le_of_ble_eq_true rfl⟩ (n := 1) rfl hl.1 rfl (Nat.le_of_ble_eq_true rfl) dX4_cut_30 ⟨(by show _ ≤ (1 : Nat); omega), (by show _ ≤ (6 : Nat); omega)⟩) hS (fun r9 H locs hp9 hS hz => ?_)
  obtain ⟨k9, e9, hk9, cf1, u1, v1, n1, hW, hp1, hf1⟩ := hp9
  rw [pc_ct_fun hk9 hct] at e9
  subst e9
  refine lv_iconst (v := nI 1) S.1 S.2.1 dX4_cut_33 (by decide) ?_
  refine mi_icmp_eq (tgt := 47) S (by omega) (by omega) dX4_cut_34 (by decide) (fun c34_1 => by exfalso; omega) (fun c34_1 => ?_)
  exact mi_throwP (cls := mi_IS) (text := "there is not just one piece") (ik := 114) (is := 131) (ic := 118) S E hst hS hW (fun H9 hW9 => ⟨ad, cf1, hW9, RepX.pf hO hX hf1 hp1, fun k hk => ⟨hf1 k (by omega) (by omega) (by omega), rfl⟩, rfl⟩) (by decide) mw_308 mw_35 (by decide) mt_g_IS mt_b_IS (by decide) mt_o_IS hl.1 dX4_cut_37 dX4_cut_40 dX4_cut_41 dX4_cut_43 dX4_cut_46 hno (Nat.le_of_ble_eq_true rfl) (Nat.le_of_ble_eq_true rfl) (by show _ ≤ (1 : Nat); omega) (by show _ ≤ (6 : Nat); omega) hk (by show _ ≤ (1 : Nat); omega) (by show _ ≤ (6 : Nat); omega)
set_option maxHeartbeats 4000000 in
set_option maxRecDepth 100000 in
theorem c_keepCoin (l : Launch) (D : va_G) (A : Nat → Prop) {ad : Nat → Nat} {cf : Nat → Option va_E} {a0 ac n : Nat} {f0 f1 f3 f4 : Value} {fc : List Value} (hAu : ∀ a b, A a → a ≤ b → A b) (ha0 : ad 0 = a0) (hac : ad (400 + n) = ac) (hob : cf 0 = some (.inr (5, [f0, f1, .ref (ad 3), f3, f4]))) (hL : mi_L D ad cf 3 13 n (fun i => 400 + i)) (hn60 : n < 60) (hco : cf (400 + n) = some (.inr (1, fc))) (h999 : cf 999 = none) (hel : ∀ i, i < n → ∃ fs, cf (400 + i) = some (.inr (1, fs))) : mi_Mi l yX4_keepCoin (Cond.code yX4_keepCoin cX4_keepCoin 2 (some Jvm.ClassFile.FieldType.int)) (mi_rq 7 1 1000) D A (mi_W D A ad cf) [.ref (a0), .ref (ac)] 1 1000 (fun r H => r = nI n ∧ ∃ ad1 cf1, mi_W D A ad1 cf1 H ∧ mi_L D ad1 cf1 3 13 (n + 1) (fun i => 400 + i) ∧ (∀ k, k ≠ 3 → k ≠ 13 → cf1 k = cf k ∧ ad1 k = ad k) ∧ ad1 3 = ad 3) := by
  refine mi_start (cc := cX4_keepCoin) (nL := 2) (ret := (some Jvm.ClassFile.FieldType.int)) rfl (by decide) (Nat.le_of_ble_eq_true rfl) ?_
  intro p e s m below meth c ls S E hW hS hr hk hn hl
  have S : CallFix p m c cX4_keepCoin 2 s _ ((Cond.code yX4_keepCoin cX4_keepCoin 2 (some Jvm.ClassFile.FieldType.int)) :: mi_G) RX4 := S
  have hl : lv_has ls 2 [(0, .ref (a0)), (1, .ref (ac))] := hl
  refine lv_aload_n S.1 S.2.1 dX4_keepCoin_0 rfl (lv_at hl 0 rfl) ?_
  refine fg_X4_19 S E hW 0 ha0 hob rfl dX4_keepCoin_1 ?_
  refine lv_aload_n S.1 S.2.1 dX4_keepCoin_4 rfl (lv_at hl 1 rfl) ?_
  refine mi_two (v' := .ref (ad (400 + n))) (u' := .ref (ad 3)) (congrArg Value.ref (Eq.symm hac)) rfl ?_
  obtain ⟨mc8, ea8, hs8⟩ := hL.size
  refine mi_cMi (mi_runV (P := mi_W D A ad cf) (As := [.ref (ad (400 + n))]) (rest := []) S E hS hW (ad 3) (c_addL l D A hAu hL (by omega) (ro := (400 + n)) hco rfl (by decide) (by omega) (by omega) (by omega) (by omega) (by omega) (by omega) h999 (fun i hi => ⟨hel i hi, (fun he => absurd (hW.2 _ 3 _ _ (hel i hi).choose_spec hs8 he) (by omega)), by omega⟩)) (hW.recv E hs8 rfl) mw_111 mw_108 mw_109 mw_110 mw_21 ⟨by decide, by decide, by decide +kernel⟩ ⟨rfl, rfl, Nat.le_of_ble_eq_true rfl, Nat.le_of_ble_eq_true rfl⟩ (n := 1) rfl hl.1 rfl (Nat.le_of_ble_eq_true rfl) dX4_keepCoin_5 ⟨Nat.le_of_ble_eq_true rfl, Nat.le_of_ble_eq_true rfl⟩) hS (fun r9 H locs hp9 hS hz => ?_)
  obtain ⟨e9, adL, cfL, hW, kL, frL, aL⟩ := hp9
  rw [mi_un_id (g := fun i => 400 + i) rfl] at kL
  obtain ⟨mc6, ea6, hs6⟩ := kL.size
  have hy6 := (frL 0 (by omega) (by omega)).1.trans hob
  have a06 : adL 0 = a0 := (frL 0 (by omega) (by omega)).2.trans ha0
  refine lv_pop S.1 S.2.1 dX4_keepCoin_8 rfl ?_
  refine lv_aload_n S.1 S.2.1 dX4_keepCoin_9 rfl (lv_at hl 0 rfl) ?_
  refine fg_X4_19 S E hW 0 a06 hy6 rfl dX4_keepCoin_10 ?_
  refine mi_top (v' := .ref (adL 3)) (congrArg Value.ref (Eq.symm aL)) ?_
  refine mi_cR (mi_runV (P := mi_W D A adL cfL) (As := []) (rest := []) S E hS hW (adL 3) (c_AL_size l D A hs6) (hW.recv E hs6 rfl) mw_307 mw_304 mw_305 mw_306 mw_21 ⟨by decide, by decide, by decide +kernel⟩ ⟨rfl, rfl, Nat.le_of_ble_eq_true rfl, Nat.le_of_ble_eq_true rfl⟩ (n := 0) rfl hl.1 rfl (Nat.le_of_ble_eq_true rfl) dX4_keepCoin_13 ⟨(by show _ ≤ (1 : Nat); omega), (by show _ ≤ (1000 : Nat); omega)⟩) (fun r9 e9 => ?_)
  subst e9
  refine lv_iconst (v := nI 1) S.1 S.2.1 dX4_keepCoin_16 (by decide) ?_
  refine mi_isub S (by omega) dX4_keepCoin_17 ?_
  exact mi_retMi S hr hk hS dX4_keepCoin_18 (by show _ ≤ (1 : Nat); omega) (by show _ ≤ (1000 : Nat); omega) ⟨rfl, adL, cfL, hW, kL, frL, aL⟩
