/-! the reference's world: f, its numbers by their places; g, its rows by their places. Roles: the object 1000020, the row of the field k: 1000000 + k -/
def mo_len (k : Nat) : Nat := match k with
  | 3 => 61
  | 4 => 976
  | 5 => 128
  | 7 => 128
  | 8 => 128
  | 9 => 8
  | 11 => 960
  | 12 => 60
  | 13 => 60
  | _ => 16
def mo_ar (k : Nat) : Bool := k == 3 || k == 4 || k == 5 || k == 7 || k == 8 || k == 9 || k == 11 || k == 12 || k == 13 || k == 14
def mo_fs (ad : Nat → Nat) (f : Nat → Int32) : List Value := [.int (f 0), .int (f 1), .int (f 2), .ref (ad 1000003), .ref (ad 1000004), .ref (ad 1000005), .int (f 6), .ref (ad 1000007), .ref (ad 1000008), .ref (ad 1000009), .int (f 10), .ref (ad 1000011), .ref (ad 1000012), .ref (ad 1000013), .ref (ad 1000014)]
def mo_at (D : va_G) (ad : Nat → Nat) (cf : Nat → Option va_E) (f : Nat → Int32) (g : Nat → Nat → Int32) : Prop := cf 1000020 = some (.inr (6, mo_fs ad f)) ∧ ∀ k, mo_ar k = true → cf (1000000 + k) = some (mi_ai D (mo_len k) (g k))
/-- the other roles are as they were -/
def mo_sm (cf0 cf : Nat → Option va_E) : Prop := ∀ r, (r < 1000000 ∨ 2000000 ≤ r) → cf r = cf0 r
def mo_W (D : va_G) (A : Nat → Prop) (ad : Nat → Nat) (cf0 : Nat → Option va_E) (f : Nat → Int32) (g : Nat → Nat → Int32) (H : Heap) : Prop := ∃ cf, mi_W D A ad cf H ∧ mo_at D ad cf f g ∧ mo_sm cf0 cf
theorem mo_ar_lt {k : Nat} (h : mo_ar k = true) : k < 20 := by
  simp only [mo_ar, Bool.or_eq_true, beq_iff_eq] at h
  omega
theorem mo_sm_up {cf0 cf : Nat → Option va_E} {k : Nat} {x : Option va_E} (h : mo_sm cf0 cf) (h1 : 1000000 ≤ k) (h2 : k < 2000000) : mo_sm cf0 (va_up cf k x) := fun r hr => (mi_up_n (by omega)).trans (h r hr)
theorem mo_set {D : va_G} {ad : Nat → Nat} {cf : Nat → Option va_E} {f f' : Nat → Int32} {g : Nat → Nat → Int32} {fs : List Value} (h : mo_at D ad cf f g) (hf : fs = mo_fs ad f') : mo_at D ad (va_up cf 1000020 (some (.inr (6, fs)))) f' g :=
  ⟨by rw [mi_up_s, hf], fun k hk => (mi_up_n (by have := mo_ar_lt hk; omega)).trans (h.2 k hk)⟩
theorem mo_setA {D : va_G} {ad : Nat → Nat} {cf : Nat → Option va_E} {f : Nat → Int32} {g : Nat → Nat → Int32} {k : Nat} {x : Nat → Int32} (h : mo_at D ad cf f g) (hk : mo_ar k = true) : mo_at D ad (va_up cf (1000000 + k) (some (mi_ai D (mo_len k) x))) f (va_up g k x) := by
  refine ⟨(mi_up_n (by have := mo_ar_lt hk; omega)).trans h.1, fun j hj => ?_⟩
  by_cases hjk : j = k
  · subst hjk
    rw [mi_up_s, mi_up_s]
  · rw [mi_up_n (show 1000000 + j ≠ 1000000 + k by omega), mi_up_n hjk]
    exact h.2 j hj
section MOR
variable {p : Program} {l : Launch} {e : Env} {R : Room} {s : State} {m : MethodId} {args : Array Value} {below : List Frame} {meth : Method} {c : Code} {H : Heap} {locs : List Loc} {cells slots : Nat} {Q : State → Prop}
variable {cc : ByteArray} {pc nL : Nat} {ls : Array Slot} {rest : List Value} {D : va_G} {A : Nat → Prop} {ad : Nat → Nat} {cf0 : Nat → Option va_E} {f : Nat → Int32} {g : Nat → Nat → Int32} {w0 : Cond}
theorem mo_W.recv (h : mo_W D A ad cf0 f g H) (hE : mi_E D A s) : ∃ cell : Cell, H[ad 1000020]? = some cell ∧ cell.vm.isStatics = false ∧ s.vm.findClass RX5 = some cell.cls := by
  obtain ⟨cf, h1, h2, -⟩ := h
  exact h1.recv hE h2.1 rfl
theorem mo_ald (k : Nat) (S : CallFix p m c cc nL s args (w0 :: mi_G) RX5) (E : mi_E D A s) (hM : mo_W D A ad cf0 f g H) (hk : mo_ar k = true) {i : Nat} (hi : i < mo_len k) (hdg : decode cc pc = .ok (.iaload, 1))
    (kk : W p l e R s m args below meth c H locs cells slots Q (F0 m (pc + 1) ls (.int (g k i) :: rest))) : W p l e R s m args below meth c H locs cells slots Q (F0 m pc ls (.int (nI i) :: .ref (ad (1000000 + k)) :: rest)) := by
  obtain ⟨cf, h1, h2, -⟩ := hM
  have hl : mo_len k < 2 ^ 31 := by unfold mo_len; split <;> decide
  exact mi_iald S E h1 (1000000 + k) rfl (h2.2 k hk) hi hl hdg kk
theorem mo_ast (k : Nat) (S : CallFix p m c cc nL s args (w0 :: mi_G) RX5) (E : mi_E D A s) (hS : va_S A s.heap H locs) (hM : mo_W D A ad cf0 f g H) (hk : mo_ar k = true) {i : Nat} {x : Int32} (hi : i < mo_len k) (hdg : decode cc pc = .ok (.iastore, 1))
    (kk : ∀ (H1 : Heap) (locs1 : List Loc), mo_W D A ad cf0 f (va_up g k (upd (g k) i x)) H1 → va_S A s.heap H1 locs1 → W p l e R s m args below meth c H1 locs1 cells slots Q (F0 m (pc + 1) ls rest)) : W p l e R s m args below meth c H locs cells slots Q (F0 m pc ls (.int x :: .int (nI i) :: .ref (ad (1000000 + k)) :: rest)) := by
  obtain ⟨cf, h1, h2, h3⟩ := hM
  have hl : mo_len k < 2 ^ 31 := by unfold mo_len; split <;> decide
  have hk2 := mo_ar_lt hk
  exact mi_iast S E hS h1 (1000000 + k) rfl (h2.2 k hk) hi hl hdg (fun H1 locs1 g1 g2 _ => kk H1 locs1 ⟨_, g1, mo_setA h2 hk, mo_sm_up h3 (by omega) (by omega)⟩ g2)
theorem mo_g_44 (S : CallFix p m c cc nL s args (w0 :: mi_G) RX5) (E : mi_E D A s) (hM : mo_W D A ad cf0 f g H) (hdg : decode cc pc = .ok (.getfield 44, 3)) (kk : W p l e R s m args below meth c H locs cells slots Q (F0 m (pc + 3) ls (.int (f 0) :: rest))) : W p l e R s m args below meth c H locs cells slots Q (F0 m pc ls (.ref (ad 1000020) :: rest)) := by
  obtain ⟨cf, h1, h2, -⟩ := hM
  exact fg_X5_44 S E h1 1000020 rfl h2.1 rfl hdg kk
theorem mo_p_44 (S : CallFix p m c cc nL s args (w0 :: mi_G) RX5) (E : mi_E D A s) (hS : va_S A s.heap H locs) (hM : mo_W D A ad cf0 f g H) {x : Int32} (hdg : decode cc pc = .ok (.putfield 44, 3)) (kk : ∀ (H1 : Heap) (locs1 : List Loc), mo_W D A ad cf0 (upd f 0 x) g H1 → va_S A s.heap H1 locs1 → W p l e R s m args below meth c H1 locs1 cells slots Q (F0 m (pc + 3) ls rest)) : W p l e R s m args below meth c H locs cells slots Q (F0 m pc ls (.int x :: .ref (ad 1000020) :: rest)) := by
  obtain ⟨cf, h1, h2, h3⟩ := hM
  exact fp_X5_44 S E hS h1 1000020 rfl h2.1 (Nat.le_of_ble_eq_true rfl) hdg (fun H1 locs1 g1 g2 _ => kk H1 locs1 ⟨_, g1, mo_set h2 rfl, mo_sm_up h3 (by decide) (by decide)⟩ g2)
theorem mo_g_7 (S : CallFix p m c cc nL s args (w0 :: mi_G) RX5) (E : mi_E D A s) (hM : mo_W D A ad cf0 f g H) (hdg : decode cc pc = .ok (.getfield 7, 3)) (kk : W p l e R s m args below meth c H locs cells slots Q (F0 m (pc + 3) ls (.int (f 1) :: rest))) : W p l e R s m args below meth c H locs cells slots Q (F0 m pc ls (.ref (ad 1000020) :: rest)) := by
  obtain ⟨cf, h1, h2, -⟩ := hM
  exact fg_X5_7 S E h1 1000020 rfl h2.1 rfl hdg kk
theorem mo_p_7 (S : CallFix p m c cc nL s args (w0 :: mi_G) RX5) (E : mi_E D A s) (hS : va_S A s.heap H locs) (hM : mo_W D A ad cf0 f g H) {x : Int32} (hdg : decode cc pc = .ok (.putfield 7, 3)) (kk : ∀ (H1 : Heap) (locs1 : List Loc), mo_W D A ad cf0 (upd f 1 x) g H1 → va_S A s.heap H1 locs1 → W p l e R s m args below meth c H1 locs1 cells slots Q (F0 m (pc + 3) ls rest)) : W p l e R s m args below meth c H locs cells slots Q (F0 m pc ls (.int x :: .ref (ad 1000020) :: rest)) := by
  obtain ⟨cf, h1, h2, h3⟩ := hM
  exact fp_X5_7 S E hS h1 1000020 rfl h2.1 (Nat.le_of_ble_eq_true rfl) hdg (fun H1 locs1 g1 g2 _ => kk H1 locs1 ⟨_, g1, mo_set h2 rfl, mo_sm_up h3 (by decide) (by decide)⟩ g2)
theorem mo_g_51 (S : CallFix p m c cc nL s args (w0 :: mi_G) RX5) (E : mi_E D A s) (hM : mo_W D A ad cf0 f g H) (hdg : decode cc pc = .ok (.getfield 51, 3)) (kk : W p l e R s m args below meth c H locs cells slots Q (F0 m (pc + 3) ls (.int (f 2) :: rest))) : W p l e R s m args below meth c H locs cells slots Q (F0 m pc ls (.ref (ad 1000020) :: rest)) := by
  obtain ⟨cf, h1, h2, -⟩ := hM
  exact fg_X5_51 S E h1 1000020 rfl h2.1 rfl hdg kk
theorem mo_p_51 (S : CallFix p m c cc nL s args (w0 :: mi_G) RX5) (E : mi_E D A s) (hS : va_S A s.heap H locs) (hM : mo_W D A ad cf0 f g H) {x : Int32} (hdg : decode cc pc = .ok (.putfield 51, 3)) (kk : ∀ (H1 : Heap) (locs1 : List Loc), mo_W D A ad cf0 (upd f 2 x) g H1 → va_S A s.heap H1 locs1 → W p l e R s m args below meth c H1 locs1 cells slots Q (F0 m (pc + 3) ls rest)) : W p l e R s m args below meth c H locs cells slots Q (F0 m pc ls (.int x :: .ref (ad 1000020) :: rest)) := by
  obtain ⟨cf, h1, h2, h3⟩ := hM
  exact fp_X5_51 S E hS h1 1000020 rfl h2.1 (Nat.le_of_ble_eq_true rfl) hdg (fun H1 locs1 g1 g2 _ => kk H1 locs1 ⟨_, g1, mo_set h2 rfl, mo_sm_up h3 (by decide) (by decide)⟩ g2)
theorem mo_g_13 (S : CallFix p m c cc nL s args (w0 :: mi_G) RX5) (E : mi_E D A s) (hM : mo_W D A ad cf0 f g H) (hdg : decode cc pc = .ok (.getfield 13, 3)) (kk : W p l e R s m args below meth c H locs cells slots Q (F0 m (pc + 3) ls (.ref (ad (1000000 + 3)) :: rest))) : W p l e R s m args below meth c H locs cells slots Q (F0 m pc ls (.ref (ad 1000020) :: rest)) := by
  obtain ⟨cf, h1, h2, -⟩ := hM
  exact fg_X5_13 S E h1 1000020 rfl h2.1 rfl hdg kk
theorem mo_g_17 (S : CallFix p m c cc nL s args (w0 :: mi_G) RX5) (E : mi_E D A s) (hM : mo_W D A ad cf0 f g H) (hdg : decode cc pc = .ok (.getfield 17, 3)) (kk : W p l e R s m args below meth c H locs cells slots Q (F0 m (pc + 3) ls (.ref (ad (1000000 + 4)) :: rest))) : W p l e R s m args below meth c H locs cells slots Q (F0 m pc ls (.ref (ad 1000020) :: rest)) := by
  obtain ⟨cf, h1, h2, -⟩ := hM
  exact fg_X5_17 S E h1 1000020 rfl h2.1 rfl hdg kk
theorem mo_g_20 (S : CallFix p m c cc nL s args (w0 :: mi_G) RX5) (E : mi_E D A s) (hM : mo_W D A ad cf0 f g H) (hdg : decode cc pc = .ok (.getfield 20, 3)) (kk : W p l e R s m args below meth c H locs cells slots Q (F0 m (pc + 3) ls (.ref (ad (1000000 + 5)) :: rest))) : W p l e R s m args below meth c H locs cells slots Q (F0 m pc ls (.ref (ad 1000020) :: rest)) := by
  obtain ⟨cf, h1, h2, -⟩ := hM
  exact fg_X5_20 S E h1 1000020 rfl h2.1 rfl hdg kk
theorem mo_g_104 (S : CallFix p m c cc nL s args (w0 :: mi_G) RX5) (E : mi_E D A s) (hM : mo_W D A ad cf0 f g H) (hdg : decode cc pc = .ok (.getfield 104, 3)) (kk : W p l e R s m args below meth c H locs cells slots Q (F0 m (pc + 3) ls (.int (f 6) :: rest))) : W p l e R s m args below meth c H locs cells slots Q (F0 m pc ls (.ref (ad 1000020) :: rest)) := by
  obtain ⟨cf, h1, h2, -⟩ := hM
  exact fg_X5_104 S E h1 1000020 rfl h2.1 rfl hdg kk
theorem mo_p_104 (S : CallFix p m c cc nL s args (w0 :: mi_G) RX5) (E : mi_E D A s) (hS : va_S A s.heap H locs) (hM : mo_W D A ad cf0 f g H) {x : Int32} (hdg : decode cc pc = .ok (.putfield 104, 3)) (kk : ∀ (H1 : Heap) (locs1 : List Loc), mo_W D A ad cf0 (upd f 6 x) g H1 → va_S A s.heap H1 locs1 → W p l e R s m args below meth c H1 locs1 cells slots Q (F0 m (pc + 3) ls rest)) : W p l e R s m args below meth c H locs cells slots Q (F0 m pc ls (.int x :: .ref (ad 1000020) :: rest)) := by
  obtain ⟨cf, h1, h2, h3⟩ := hM
  exact fp_X5_104 S E hS h1 1000020 rfl h2.1 (Nat.le_of_ble_eq_true rfl) hdg (fun H1 locs1 g1 g2 _ => kk H1 locs1 ⟨_, g1, mo_set h2 rfl, mo_sm_up h3 (by decide) (by decide)⟩ g2)
theorem mo_g_23 (S : CallFix p m c cc nL s args (w0 :: mi_G) RX5) (E : mi_E D A s) (hM : mo_W D A ad cf0 f g H) (hdg : decode cc pc = .ok (.getfield 23, 3)) (kk : W p l e R s m args below meth c H locs cells slots Q (F0 m (pc + 3) ls (.ref (ad (1000000 + 7)) :: rest))) : W p l e R s m args below meth c H locs cells slots Q (F0 m pc ls (.ref (ad 1000020) :: rest)) := by
  obtain ⟨cf, h1, h2, -⟩ := hM
  exact fg_X5_23 S E h1 1000020 rfl h2.1 rfl hdg kk
theorem mo_g_26 (S : CallFix p m c cc nL s args (w0 :: mi_G) RX5) (E : mi_E D A s) (hM : mo_W D A ad cf0 f g H) (hdg : decode cc pc = .ok (.getfield 26, 3)) (kk : W p l e R s m args below meth c H locs cells slots Q (F0 m (pc + 3) ls (.ref (ad (1000000 + 8)) :: rest))) : W p l e R s m args below meth c H locs cells slots Q (F0 m pc ls (.ref (ad 1000020) :: rest)) := by
  obtain ⟨cf, h1, h2, -⟩ := hM
  exact fg_X5_26 S E h1 1000020 rfl h2.1 rfl hdg kk
theorem mo_g_29 (S : CallFix p m c cc nL s args (w0 :: mi_G) RX5) (E : mi_E D A s) (hM : mo_W D A ad cf0 f g H) (hdg : decode cc pc = .ok (.getfield 29, 3)) (kk : W p l e R s m args below meth c H locs cells slots Q (F0 m (pc + 3) ls (.ref (ad (1000000 + 9)) :: rest))) : W p l e R s m args below meth c H locs cells slots Q (F0 m pc ls (.ref (ad 1000020) :: rest)) := by
  obtain ⟨cf, h1, h2, -⟩ := hM
  exact fg_X5_29 S E h1 1000020 rfl h2.1 rfl hdg kk
theorem mo_g_107 (S : CallFix p m c cc nL s args (w0 :: mi_G) RX5) (E : mi_E D A s) (hM : mo_W D A ad cf0 f g H) (hdg : decode cc pc = .ok (.getfield 107, 3)) (kk : W p l e R s m args below meth c H locs cells slots Q (F0 m (pc + 3) ls (.int (f 10) :: rest))) : W p l e R s m args below meth c H locs cells slots Q (F0 m pc ls (.ref (ad 1000020) :: rest)) := by
  obtain ⟨cf, h1, h2, -⟩ := hM
  exact fg_X5_107 S E h1 1000020 rfl h2.1 rfl hdg kk
theorem mo_p_107 (S : CallFix p m c cc nL s args (w0 :: mi_G) RX5) (E : mi_E D A s) (hS : va_S A s.heap H locs) (hM : mo_W D A ad cf0 f g H) {x : Int32} (hdg : decode cc pc = .ok (.putfield 107, 3)) (kk : ∀ (H1 : Heap) (locs1 : List Loc), mo_W D A ad cf0 (upd f 10 x) g H1 → va_S A s.heap H1 locs1 → W p l e R s m args below meth c H1 locs1 cells slots Q (F0 m (pc + 3) ls rest)) : W p l e R s m args below meth c H locs cells slots Q (F0 m pc ls (.int x :: .ref (ad 1000020) :: rest)) := by
  obtain ⟨cf, h1, h2, h3⟩ := hM
  exact fp_X5_107 S E hS h1 1000020 rfl h2.1 (Nat.le_of_ble_eq_true rfl) hdg (fun H1 locs1 g1 g2 _ => kk H1 locs1 ⟨_, g1, mo_set h2 rfl, mo_sm_up h3 (by decide) (by decide)⟩ g2)
theorem mo_g_32 (S : CallFix p m c cc nL s args (w0 :: mi_G) RX5) (E : mi_E D A s) (hM : mo_W D A ad cf0 f g H) (hdg : decode cc pc = .ok (.getfield 32, 3)) (kk : W p l e R s m args below meth c H locs cells slots Q (F0 m (pc + 3) ls (.ref (ad (1000000 + 11)) :: rest))) : W p l e R s m args below meth c H locs cells slots Q (F0 m pc ls (.ref (ad 1000020) :: rest)) := by
  obtain ⟨cf, h1, h2, -⟩ := hM
  exact fg_X5_32 S E h1 1000020 rfl h2.1 rfl hdg kk
theorem mo_g_35 (S : CallFix p m c cc nL s args (w0 :: mi_G) RX5) (E : mi_E D A s) (hM : mo_W D A ad cf0 f g H) (hdg : decode cc pc = .ok (.getfield 35, 3)) (kk : W p l e R s m args below meth c H locs cells slots Q (F0 m (pc + 3) ls (.ref (ad (1000000 + 12)) :: rest))) : W p l e R s m args below meth c H locs cells slots Q (F0 m pc ls (.ref (ad 1000020) :: rest)) := by
  obtain ⟨cf, h1, h2, -⟩ := hM
  exact fg_X5_35 S E h1 1000020 rfl h2.1 rfl hdg kk
theorem mo_g_38 (S : CallFix p m c cc nL s args (w0 :: mi_G) RX5) (E : mi_E D A s) (hM : mo_W D A ad cf0 f g H) (hdg : decode cc pc = .ok (.getfield 38, 3)) (kk : W p l e R s m args below meth c H locs cells slots Q (F0 m (pc + 3) ls (.ref (ad (1000000 + 13)) :: rest))) : W p l e R s m args below meth c H locs cells slots Q (F0 m pc ls (.ref (ad 1000020) :: rest)) := by
  obtain ⟨cf, h1, h2, -⟩ := hM
  exact fg_X5_38 S E h1 1000020 rfl h2.1 rfl hdg kk
theorem mo_g_41 (S : CallFix p m c cc nL s args (w0 :: mi_G) RX5) (E : mi_E D A s) (hM : mo_W D A ad cf0 f g H) (hdg : decode cc pc = .ok (.getfield 41, 3)) (kk : W p l e R s m args below meth c H locs cells slots Q (F0 m (pc + 3) ls (.ref (ad (1000000 + 14)) :: rest))) : W p l e R s m args below meth c H locs cells slots Q (F0 m pc ls (.ref (ad 1000020) :: rest)) := by
  obtain ⟨cf, h1, h2, -⟩ := hM
  exact fg_X5_41 S E h1 1000020 rfl h2.1 rfl hdg kk
end MOR
