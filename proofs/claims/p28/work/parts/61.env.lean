/-! what holds at the law's entry -/
theorem mt_t1 {w : Cond} (i : Nat) (h : tables_1_1[i]? = some w) : w ∈ lw_tbl := List.mem_append_right _ (List.mem_append_left _ (List.mem_of_getElem? h))
theorem mt_t2 {w : Cond} (i : Nat) (h : tables_1_2[i]? = some w) : w ∈ lw_tbl := List.mem_append_right _ (List.mem_append_right _ (List.mem_append_left _ (List.mem_of_getElem? h)))
theorem mt_t3 {w : Cond} (i : Nat) (h : tables_1_3[i]? = some w) : w ∈ lw_tbl := List.mem_append_right _ (List.mem_append_right _ (List.mem_append_right _ (List.mem_of_getElem? h)))
theorem lw_inG {w : Cond} (h : w ∈ mi_G) : w ∈ lw_tbl := (List.mem_filter.mp h).1
theorem lw_str {k : Nat} {tx : String} {args : Array Value} {s : State} (hc : ∃ cur, s.vm.findClass RX4 = some cur) (h : (Cond.stringRef RX4 k tx).before args s = true) : ∃ a, vk_R RX4 k tx a s := by
  obtain ⟨cur, hcur⟩ := hc
  obtain ⟨-, -, -, a, -, -, -, -, -, ha⟩ := Cond.stringRef_spec hcur h
  exact ⟨a, vk_R.of h ha⟩
theorem lw_arr {ty : FieldType} {args : Array Value} {s : State} (h : (Cond.arrayClass ty).before args s = true) (ht : ∀ C, ty ≠ .object C) : ∃ cA, ArrOfT s cA ty ∧ va_RA s cA ty := by
  obtain ⟨cA, kA, comp, h1, h2, h3⟩ := Cond.arrayClass_spec h
  refine ⟨cA, fun n z => ⟨(fun k h => by cases h), kA, h2, comp, h3⟩, ?_⟩
  cases ty with
  | object C => exact absurd rfl (ht C)
  | _ => exact h1
theorem lw_arrO {C : String} {args : Array Value} {s : State} (h : (Cond.arrayOver (.object C)).before args s = true) : ∃ cA, ArrOfT s cA (.object C) ∧ va_RA s cA (.object C) := by
  obtain ⟨comp, cA, kA, h1, h2, h3, h4, h5⟩ := Cond.arrayOver_spec h
  exact ⟨cA, fun n z => ⟨(fun k h => by cases h), kA, h3, comp, h4⟩, kA, comp, h3, h4, h1, h5⟩
theorem lw_D (k0 k1 k2 k3 k4 k5 a0 a1 a2 : ClassId) (i0 i1 i2 i3 i4 i5 : Nat → Nat) (de mi : Nat) : ∃ D : va_G, (D.1 0 = k0 ∧ D.1 1 = k1 ∧ D.1 2 = k2 ∧ D.1 3 = k3 ∧ D.1 4 = k4 ∧ D.1 5 = k5) ∧ (D.1 100 = a0 ∧ D.1 101 = a1 ∧ D.1 102 = a2) ∧ (D.2 0 = i0 ∧ D.2 1 = i1 ∧ D.2 2 = i2 ∧ D.2 3 = i3 ∧ D.2 4 = i4 ∧ D.2 5 = i5) ∧ D.2 200 0 = de ∧ D.2 200 1 = mi :=
  ⟨(fun k => if k = 0 then k0 else if k = 1 then k1 else if k = 2 then k2 else if k = 3 then k3 else if k = 4 then k4 else if k = 5 then k5 else if k = 100 then a0 else if k = 101 then a1 else a2,
    fun k => if k = 0 then i0 else if k = 1 then i1 else if k = 2 then i2 else if k = 3 then i3 else if k = 4 then i4 else if k = 5 then i5 else fun j => if j = 0 then de else mi), ⟨rfl, rfl, rfl, rfl, rfl, rfl⟩, ⟨rfl, rfl, rfl⟩, ⟨rfl, rfl, rfl, rfl, rfl, rfl⟩, rfl, rfl⟩
set_option maxHeartbeats 4000000 in
set_option maxRecDepth 100000 in
theorem lw_env {p : Program} {s : State} {m : MethodId} {meth : Method} {c : Code} {b L : Nat} {xs : Nat → Int32} (C0 : lw_At p s m meth c b L xs) : ∃ D : va_G, mi_E D (fun q => s.heap.size ≤ q) s := by
  obtain ⟨hx, hb, hr, hml, hown, hts, hX, hbl, hlocks, hgv⟩ := C0
  have hG : ∀ w ∈ mi_G, w.before #[Value.ref b] s = true := fun w h => hts w (lw_inG h)
  have fl := flat_of_before _ hgv
  have hA : ∀ a : Nat, a < s.heap.size → ¬ (fun q : Nat => s.heap.size ≤ q) a := fun a h => Nat.not_le.mpr h
  obtain ⟨k0, i0, h0⟩ := u_known (C := RJx4a65c) (T := TJx4a65c) (N := 3) (n := 3) hG mh_Jx4a65c (hG _ mw_47)
  obtain ⟨k1, i1, h1⟩ := u_known (C := RX0) (T := TX0) (N := 3) (n := 3) hG mh_X0 (hG _ mw_527)
  obtain ⟨k2, i2, h2⟩ := u_known (C := RX1) (T := TX1) (N := 3) (n := 3) hG mh_X1 (hG _ mw_471)
  obtain ⟨k3, i3, h3⟩ := u_known (C := RX2) (T := TX2) (N := 3) (n := 3) hG mh_X2 (hG _ mw_73)
  obtain ⟨k4, i4, h4⟩ := u_known (C := RX3) (T := TX3) (N := 3) (n := 3) hG mh_X3 (hG _ mw_90)
  obtain ⟨k5, i5, h5⟩ := u_known (C := RX4) (T := TX4) (N := 5) (n := 5) hG mh_X4 (hG _ mw_39)
  obtain ⟨a0, hI⟩ := lw_arr (ty := .int) (hG _ mw_88) (fun C h => by cases h)
  obtain ⟨a2, hJ⟩ := lw_arr (ty := .long) (hG _ mw_691) (fun C h => by cases h)
  obtain ⟨a1, hO⟩ := lw_arrO (C := mi_ob) (hts _ (mt_t1 137 rfl))
  obtain ⟨mi, hmi⟩ := va_Mi.of (C := "[Ljava/lang/Object;") (fl _ (by decide +kernel))
  obtain ⟨de, hde, hT⟩ := va_Tof (tm := .static RJx4a65c "DEFAULTCAPACITY_EMPTY_ELEMENTDATA" "[Ljava/lang/Object;") (ty := .object mi_ob) (N := 0) (f := fun _ => .null) (by decide) (fl _ (by decide +kernel)) (va_eqt (z := 0) (fl _ (by decide +kernel))) (fun j h => absurd h (Nat.not_lt_zero j)) hA
  obtain ⟨D, ⟨d0, d1, d2, d3, d4, d5⟩, ⟨dI, dO, dJ⟩, ⟨e0, e1, e2, e3, e4, e5⟩, eD, eM⟩ := lw_D k0 k1 k2 k3 k4 k5 a0 a1 a2 i0 i1 i2 i3 i4 i5 de mi
  have hcur : ∃ cur, s.vm.findClass RX4 = some cur := ⟨k5, h5.2.1⟩
  refine ⟨D, ⟨fun c q hq => ?_, fun k q hq => ?_⟩, ?_, ?_, ?_, ?_, ?_, ?_, ?_, ?_, ?_, ⟨?_, ?_⟩, ?_⟩
  · match c, hq with
    | 0, hq => cases hq; show u_Kn s _ _ _ (D.1 0) (D.2 0); rw [d0, e0]; exact h0
    | 1, hq => cases hq; show u_Kn s _ _ _ (D.1 1) (D.2 1); rw [d1, e1]; exact h1
    | 2, hq => cases hq; show u_Kn s _ _ _ (D.1 2) (D.2 2); rw [d2, e2]; exact h2
    | 3, hq => cases hq; show u_Kn s _ _ _ (D.1 3) (D.2 3); rw [d3, e3]; exact h3
    | 4, hq => cases hq; show u_Kn s _ _ _ (D.1 4) (D.2 4); rw [d4, e4]; exact h4
    | 5, hq => cases hq; show u_Kn s _ _ _ (D.1 5) (D.2 5); rw [d5, e5]; exact h5
    | c + 6, hq => simp [vwCl] at hq
  · match k, hq with
    | 0, hq => cases hq; show ArrOfT s (D.1 100) _ ∧ va_RA s (D.1 100) _; rw [dI]; exact hI
    | 1, hq => cases hq; show ArrOfT s (D.1 101) _ ∧ va_RA s (D.1 101) _; rw [dO]; exact hO
    | 2, hq => cases hq; show ArrOfT s (D.1 102) _ ∧ va_RA s (D.1 102) _; rw [dJ]; exact hJ
    | k + 3, hq => simp [mi_tys] at hq
  · unfold mi_nests; exact List.forall_mem_cons.mpr ⟨va_Nw.of rfl (hts _ (mt_t2 82 rfl)), List.forall_mem_cons.mpr ⟨va_Nw.of rfl (hts _ (mt_t2 83 rfl)), List.forall_mem_cons.mpr ⟨va_Nw.of rfl (hts _ (mt_t2 198 rfl)), List.forall_mem_cons.mpr ⟨va_Nw.of rfl (hts _ (mt_t2 199 rfl)), fun _ h => absurd h List.not_mem_nil⟩⟩⟩⟩
  · unfold mi_casts; exact List.forall_mem_cons.mpr ⟨va_Nw.of rfl (hts _ (mt_t1 191 rfl)), List.forall_mem_cons.mpr ⟨va_Nw.of rfl (hts _ (mt_t2 29 rfl)), List.forall_mem_cons.mpr ⟨va_Nw.of rfl (hts _ (mt_t2 53 rfl)), List.forall_mem_cons.mpr ⟨va_Nw.of rfl (hts _ (mt_t3 204 rfl)), List.forall_mem_cons.mpr ⟨va_Nw.of rfl (hts _ (mt_t3 203 rfl)), List.forall_mem_cons.mpr ⟨va_Nw.of rfl (hts _ (mt_t3 199 rfl)), List.forall_mem_cons.mpr ⟨va_Nw.of rfl (hts _ (mt_t2 76 rfl)), fun _ h => absurd h List.not_mem_nil⟩⟩⟩⟩⟩⟩⟩
  · unfold mi_ncs; exact List.forall_mem_cons.mpr ⟨va_Nc.of (fl _ (by decide +kernel)), List.forall_mem_cons.mpr ⟨va_Nc.of (fl _ (by decide +kernel)), List.forall_mem_cons.mpr ⟨va_Nc.of (fl _ (by decide +kernel)), fun _ h => absurd h List.not_mem_nil⟩⟩⟩
  · unfold mi_strs; exact List.forall_mem_cons.mpr ⟨lw_str hcur (hts _ (mt_t1 230 rfl)), List.forall_mem_cons.mpr ⟨lw_str hcur (hts _ (mt_t2 23 rfl)), List.forall_mem_cons.mpr ⟨lw_str hcur (hts _ (mt_t2 36 rfl)), List.forall_mem_cons.mpr ⟨lw_str hcur (hts _ (mt_t2 60 rfl)), List.forall_mem_cons.mpr ⟨lw_str hcur (hts _ (mt_t2 109 rfl)), List.forall_mem_cons.mpr ⟨lw_str hcur (hts _ (mt_t3 107 rfl)), List.forall_mem_cons.mpr ⟨lw_str hcur (hts _ (mt_t2 131 rfl)), List.forall_mem_cons.mpr ⟨lw_str hcur (hts _ (mt_t2 153 rfl)), List.forall_mem_cons.mpr ⟨lw_str hcur (hts _ (mt_t2 169 rfl)), List.forall_mem_cons.mpr ⟨lw_str hcur (hts _ (mt_t2 186 rfl)), List.forall_mem_cons.mpr ⟨lw_str hcur (hts _ (mt_t2 212 rfl)), List.forall_mem_cons.mpr ⟨lw_str hcur (hts _ (mt_t3 19 rfl)), List.forall_mem_cons.mpr ⟨lw_str hcur (hts _ (mt_t3 24 rfl)), List.forall_mem_cons.mpr ⟨lw_str hcur (hts _ (mt_t3 76 rfl)), List.forall_mem_cons.mpr ⟨lw_str hcur (hts _ (mt_t3 77 rfl)), List.forall_mem_cons.mpr ⟨lw_str hcur (hts _ (mt_t3 78 rfl)), fun _ h => absurd h List.not_mem_nil⟩⟩⟩⟩⟩⟩⟩⟩⟩⟩⟩⟩⟩⟩⟩⟩
  · exact vx_Zqof (hts _ (mt_t1 216 rfl)) (hG _ mw_28) (fl _ (by decide +kernel)) hA
  · exact vx_Zqof (hts _ (mt_t1 218 rfl)) (hG _ mw_28) (fl _ (by decide +kernel)) hA
  · show va_Z _ _ _ (.ref (D.2 200 0)) _ _ _; rw [eD]; exact va_Zof (hts _ (mt_t1 42 rfl)) (hG _ mw_21) hde hA
  · show va_T _ (D.2 200 0) _ _ _ _ _; rw [eD]; exact hT
  · show va_Mi _ (D.2 200 1) _; rw [eM]; exact hmi
  · exact va_Dc.of (hts _ (mt_t3 209 rfl))
  · unfold mi_dns; exact List.forall_mem_cons.mpr ⟨va_Nw.of rfl (hts _ (mt_t1 193 rfl)), List.forall_mem_cons.mpr ⟨va_Nw.of rfl (hts _ (mt_t1 195 rfl)), List.forall_mem_cons.mpr ⟨va_Nw.of rfl (hts _ (mt_t1 197 rfl)), fun _ h => absurd h List.not_mem_nil⟩⟩⟩
  · exact va_AO.of (hts _ (mt_t1 137 rfl))
