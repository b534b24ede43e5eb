/-! rows over the world of roles: fields, arrays, new cells -/
section MIH
variable {p : Program} {l : Launch} {e : Env} {R : Room} {s : State} {m : MethodId} {args : Array Value} {below : List Frame} {meth : Method} {c : Code} {H : Heap} {locs : List Loc} {cells slots : Nat} {Q : State → Prop}
variable {cc : ByteArray} {pc nL : Nat} {ls : Array Slot} {rest : List Value} {D : va_G} {A : Nat → Prop} {ad : Nat → Nat} {cf : Nat → Option va_E} {Ts : List Cond} {own : String}
theorem mi_get (S : CallFix p m c cc nL s args Ts own) (E : mi_E D A s) (hW : mi_W D A ad cf H) (r : Nat) {a : Nat} (ha : ad r = a) {ci N k idx : Nat} {C ref : String} {T : u_T} {fs : List Value} {v : Value} (he : cf r = some (.inr (ci, fs))) (hv : fs[k]? = some v) (hc : vwCl[ci]? = some (C, T, N)) (hin : ∀ w ∈ u_ws C T N, w ∈ Ts) (hk : k < N) (hlink : Cond.fieldLink own idx ref (T k).2.1 (T k).2.2.1 ∈ Ts) (hsame : ∀ x, s.fieldFound? (T k).1 (T k).2.1 (T k).2.2.1 = some x → s.fieldFound? ref (T k).2.1 (T k).2.2.1 = some x) (hdg : decode cc pc = .ok (.getfield idx, 3))
    (kk : W p l e R s m args below meth c H locs cells slots Q (F0 m (pc + 3) ls (v :: rest))) : W p l e R s m args below meth c H locs cells slots Q (F0 m pc ls (.ref a :: rest)) := by
  subst ha
  exact va_get S.1 S.2.1 S.2.2.2.2 hin S.2.2.2.1 E.K (hW.P he) 0 rfl hc k hk (S.2.2.2.2 _ hlink) hsame hv hdg kk
theorem mi_put (S : CallFix p m c cc nL s args Ts own) (E : mi_E D A s) (hS0 : va_S A s.heap H locs) (hW : mi_W D A ad cf H) (r : Nat) {a : Nat} (ha : ad r = a) {ci N k idx : Nat} {C ref : String} {T : u_T} {fs : List Value} {v : Value} {ty : FieldType} (he : cf r = some (.inr (ci, fs))) (hl : k < fs.length) (hc : vwCl[ci]? = some (C, T, N)) (hin : ∀ w ∈ u_ws C T N, w ∈ Ts) (ty0 : Nat → FieldType) (hty : ∀ k, k < N → parseFieldDescriptor (T k).2.2.1 = some (ty0 k)) (hnm : ∀ a, a < N → ∀ b, b < N → a ≠ b → (T a).2.1 ≠ (T b).2.1) (hk : k < N) (hfin : (T k).2.2.2 = false) (hd : parseFieldDescriptor (T k).2.2.1 = some ty) (hlink : Cond.fieldLink own idx ref (T k).2.1 (T k).2.2.1 ∈ Ts) (hsame : ∀ x, s.fieldFound? (T k).1 (T k).2.1 (T k).2.2.1 = some x → s.fieldFound? ref (T k).2.1 (T k).2.2.1 = some x) (hn : narrow ty v = v) (hfit : fits ty v = true) (hdg : decode cc pc = .ok (.putfield idx, 3))
    (kk : ∀ (H1 : Heap) (locs1 : List Loc), mi_W D A ad (va_up cf r (some (.inr (ci, fs.set k v)))) H1 → va_S A s.heap H1 locs1 → H1.size = H.size → W p l e R s m args below meth c H1 locs1 cells slots Q (F0 m (pc + 3) ls rest)) : W p l e R s m args below meth c H locs cells slots Q (F0 m pc ls (v :: .ref a :: rest)) := by
  subst ha
  have hts := S.2.2.2.2
  have hown := S.2.2.2.1
  have hap := va_apart (own := own) hts hin ty0 hty hnm E.K hc
  obtain ⟨q, h1, cell, q1, q2, q3, q4⟩ := hW.at he
  have hq : q = (C, T, N) := Option.some.inj (h1.symm.trans hc)
  subst hq
  obtain ⟨hS, hfc, kC, hkC, hkind⟩ := E.K.1 ci _ hc
  obtain ⟨cf', kf, fi, f, hi, hsl⟩ := hS k hk
  have hlay := hts _ (hin _ (u_in_lay hk))
  unfold u_lay at hlay
  rw [if_neg (by rw [hfin]; decide)] at hlay
  have hst := (u_facts hfc hkC (u_lays hts hin hk) hi).1
  have h6 := u_store hfc hkC hkind hlay hi hd hn hfit
  refine W.putK S.1 S.2.1 (f := f) ⟨hown, hts _ hlink, ⟨_, _, _, hsame _ hi⟩, hst⟩ (by rw [q2]; exact h6) q1 q3 (by rw [hsl]; exact k2_hasslot (q4 k hk)) rfl rfl hdg fun H' e1 e2 e3 => ?_
  rw [hsl] at e1 ⊢
  exact kk H' _ (hW.set he ⟨_, hc, t_OB.to (V := updV (vp_V fs) k v) ⟨_, e1, q2, q3, t_set q4 hap hk v⟩ (fun j _ => vp_updV_set hl v j)⟩ e3) (hS0.put e2 e3 (hW.1 r _ he).1) e2
theorem mi_putF (S : CallFix p m c cc nL s args Ts own) (E : mi_E D A s) (hS0 : va_S A s.heap H locs) (hW : mi_W D A ad cf H) (r : Nat) {a : Nat} (ha : ad r = a) {ci N k idx : Nat} {C ref : String} {T : u_T} {fs : List Value} {v : Value} {ty : FieldType} (he : cf r = some (.inr (ci, fs))) (hl : k < fs.length) (hc : vwCl[ci]? = some (C, T, N)) (hin : ∀ w ∈ u_ws C T N, w ∈ Ts) (ty0 : Nat → FieldType) (hty : ∀ k, k < N → parseFieldDescriptor (T k).2.2.1 = some (ty0 k)) (hnm : ∀ a, a < N → ∀ b, b < N → a ≠ b → (T a).2.1 ≠ (T b).2.1) (hk : k < N) (hfin : (T k).2.2.2 = true) (hin2 : meth.name = "<init>") (hdecl : (T k).1 = own) (hd : parseFieldDescriptor (T k).2.2.1 = some ty) (hlink : Cond.fieldLink own idx ref (T k).2.1 (T k).2.2.1 ∈ Ts) (hsame : ∀ x, s.fieldFound? (T k).1 (T k).2.1 (T k).2.2.1 = some x → s.fieldFound? ref (T k).2.1 (T k).2.2.1 = some x) (hn : narrow ty v = v) (hfit : fits ty v = true) (hdg : decode cc pc = .ok (.putfield idx, 3))
    (kk : ∀ (H1 : Heap) (locs1 : List Loc), mi_W D A ad (va_up cf r (some (.inr (ci, fs.set k v)))) H1 → va_S A s.heap H1 locs1 → H1.size = H.size → W p l e R s m args below meth c H1 locs1 cells slots Q (F0 m (pc + 3) ls rest)) : W p l e R s m args below meth c H locs cells slots Q (F0 m pc ls (v :: .ref a :: rest)) := by
  subst ha
  have hts := S.2.2.2.2
  have hown := S.2.2.2.1
  have hap := va_apart (own := own) hts hin ty0 hty hnm E.K hc
  obtain ⟨q, h1, cell, q1, q2, q3, q4⟩ := hW.at he
  have hq : q = (C, T, N) := Option.some.inj (h1.symm.trans hc)
  subst hq
  obtain ⟨hS, hfc, kC, hkC, hkind⟩ := E.K.1 ci _ hc
  obtain ⟨cf', kf, fi, f, hi, hsl⟩ := hS k hk
  have hlay := hts _ (hin _ (u_in_lay hk))
  unfold u_lay at hlay
  rw [if_pos hfin] at hlay
  have hst := (u_facts hfc hkC (u_lays hts hin hk) hi).1
  have hcf : m.cls = cf' := by
    obtain ⟨_, _, c', _, _, _, -, -, hf', -, -, -, hown2, -⟩ := Cond.laysFinal_spec hlay
    have e1 : c' = cf' := by have := hi.symm.trans hf'; simp at this; exact this.1.symm
    rw [hdecl] at hown2
    rw [← e1]; exact Option.some.inj (hown.symm.trans hown2)
  have h6 := u_fits hfc hkC hkind (Or.inr hlay) hi hd hn hfit
  refine W.putFinK S.1 S.2.1 hown (hts _ hlink) (hsame _ hi) hst hcf hin2 (by rw [q2]; exact h6) q1 q3 (by rw [hsl]; exact k2_hasslot (q4 k hk)) rfl rfl hdg fun H' e1 e2 e3 => ?_
  rw [hsl] at e1 ⊢
  exact kk H' _ (hW.set he ⟨_, hc, t_OB.to (V := updV (vp_V fs) k v) ⟨_, e1, q2, q3, t_set q4 hap hk v⟩ (fun j _ => vp_updV_set hl v j)⟩ e3) (hS0.put e2 e3 (hW.1 r _ he).1) e2
theorem mi_iald (S : CallFix p m c cc nL s args Ts own) (E : mi_E D A s) (hW : mi_W D A ad cf H) (r : Nat) {a : Nat} (ha : ad r = a) {n i : Nat} {f : Nat → Int32} (he : cf r = some (mi_ai D n f)) (hi : i < n) (hn : n < 2 ^ 31) (hdg : decode cc pc = .ok (.iaload, 1))
    (kk : W p l e R s m args below meth c H locs cells slots Q (F0 m (pc + 1) ls (.int (f i) :: rest))) : W p l e R s m args below meth c H locs cells slots Q (F0 m pc ls (.int (nI i) :: .ref a :: rest)) := by
  subst ha
  exact va_iald S.1 S.2.1 E.K (hW.P he) 0 0 rfl rfl (vp_in_nI hi hn) hdg (by rw [nI_clamp (by omega)]; exact kk)
theorem mi_lald (S : CallFix p m c cc nL s args Ts own) (E : mi_E D A s) (hW : mi_W D A ad cf H) (r : Nat) {a : Nat} (ha : ad r = a) {n i : Nat} {f : Nat → Int64} (he : cf r = some (mi_al D n f)) (hi : i < n) (hn : n < 2 ^ 31) (hdg : decode cc pc = .ok (.laload, 1))
    (kk : W p l e R s m args below meth c H locs cells slots Q (F0 m (pc + 1) ls (.long (f i) :: rest))) : W p l e R s m args below meth c H locs cells slots Q (F0 m pc ls (.int (nI i) :: .ref a :: rest)) := by
  subst ha
  exact va_lald S.1 S.2.1 E.K (hW.P he) 0 2 rfl rfl (vp_in_nI hi hn) hdg (by rw [nI_clamp (by omega)]; exact kk)
theorem mi_aald (S : CallFix p m c cc nL s args Ts own) (E : mi_E D A s) (hW : mi_W D A ad cf H) (r : Nat) {a : Nat} (ha : ad r = a) {n i : Nat} {f : Nat → Option Nat} (he : cf r = some (mi_aq D n f)) (hi : i < n) (hn : n < 2 ^ 31) (hdg : decode cc pc = .ok (.aaload, 1))
    (kk : W p l e R s m args below meth c H locs cells slots Q (F0 m (pc + 1) ls (va_rf (f i) :: rest))) : W p l e R s m args below meth c H locs cells slots Q (F0 m pc ls (.int (nI i) :: .ref a :: rest)) := by
  subst ha
  exact va_aldq S.1 S.2.1 E.K (hW.P he) 0 1 rfl rfl (vp_in_nI hi hn) hdg (by rw [nI_clamp (by omega)]; exact kk)
theorem mi_alen (S : CallFix p m c cc nL s args Ts own) (E : mi_E D A s) (hW : mi_W D A ad cf H) (r t0 : Nat) {a : Nat} (ha : ad r = a) {cA : ClassId} {x : vp_A} {ty : FieldType} (he : cf r = some (.inl (cA, x))) (ht : (mi_tys D)[t0]? = some (cA, ty)) (hdg : decode cc pc = .ok (.arraylength, 1))
    (kk : W p l e R s m args below meth c H locs cells slots Q (F0 m (pc + 1) ls (.int (nI x.1) :: rest))) : W p l e R s m args below meth c H locs cells slots Q (F0 m pc ls (.ref a :: rest)) := by
  subst ha
  exact va_alen S.1 S.2.1 E.K (hW.P he) 0 t0 rfl ht rfl hdg kk
theorem mi_iast (S : CallFix p m c cc nL s args Ts own) (E : mi_E D A s) (hS : va_S A s.heap H locs) (hW : mi_W D A ad cf H) (r : Nat) {a : Nat} (ha : ad r = a) {n i : Nat} {x : Int32} {f : Nat → Int32} (he : cf r = some (mi_ai D n f)) (hi : i < n) (hn : n < 2 ^ 31) (hdg : decode cc pc = .ok (.iastore, 1))
    (kk : ∀ (H1 : Heap) (locs1 : List Loc), mi_W D A ad (va_up cf r (some (mi_ai D n (upd f i x)))) H1 → va_S A s.heap H1 locs1 → H1.size = H.size → W p l e R s m args below meth c H1 locs1 cells slots Q (F0 m (pc + 1) ls rest)) : W p l e R s m args below meth c H locs cells slots Q (F0 m pc ls (.int x :: .int (nI i) :: .ref a :: rest)) := by
  subst ha
  have hc := nI_clamp (n := i) (by omega)
  refine W.iast S.1 S.2.1 (hW.at he) ((E.K.2 0 _ rfl).1 n (fun j => .int (f j))) (fun q => by cases q) (by show ¬ (nI i < 0 ∨ (arrV _ _ _).slots.size ≤ _); rw [arrV_size]; exact vp_in_nI hi hn) rfl rfl hdg fun H1 e z oq => ?_
  refine kk H1 _ (hW.set he ?_ oq) (hS.put z oq (hW.1 r _ he).1) z
  show H1[ad r]? = some (vp_cell _ _)
  rw [e]
  rw [vp_cell_i, vp_cell_i, arrV_store, hc]
  congr 2
  funext q
  by_cases hq : q = i
  · subst hq
    simp [updV, upd]
  · simp [updV, upd, hq]
theorem mi_last (S : CallFix p m c cc nL s args Ts own) (E : mi_E D A s) (hS : va_S A s.heap H locs) (hW : mi_W D A ad cf H) (r : Nat) {a : Nat} (ha : ad r = a) {n i : Nat} {x : Int64} {f : Nat → Int64} (he : cf r = some (mi_al D n f)) (hi : i < n) (hn : n < 2 ^ 31) (hdg : decode cc pc = .ok (.lastore, 1))
    (kk : ∀ (H1 : Heap) (locs1 : List Loc), mi_W D A ad (va_up cf r (some (mi_al D n (vp_updL f i x)))) H1 → va_S A s.heap H1 locs1 → H1.size = H.size → W p l e R s m args below meth c H1 locs1 cells slots Q (F0 m (pc + 1) ls rest)) : W p l e R s m args below meth c H locs cells slots Q (F0 m pc ls (.long x :: .int (nI i) :: .ref a :: rest)) := by
  subst ha
  have hc := nI_clamp (n := i) (by omega)
  refine W.last S.1 S.2.1 (hW.at he) ((E.K.2 2 _ rfl).1 n (fun j => .long (f j))) (fun q => by cases q) (by show ¬ (nI i < 0 ∨ (arrV _ _ _).slots.size ≤ _); rw [arrV_size]; exact vp_in_nI hi hn) rfl rfl hdg fun H1 e z oq => ?_
  refine kk H1 _ (hW.set he ?_ oq) (hS.put z oq (hW.1 r _ he).1) z
  show H1[ad r]? = some (vp_cell _ _)
  rw [e]
  rw [vp_cell_l, vp_cell_l, arrV_store, hc]
  congr 2
  funext q
  by_cases hq : q = i
  · subst hq
    simp [updV, vp_updL]
  · simp [updV, vp_updL, hq]
/-- storing an object of role rv into an array of Object -/
theorem mi_aast (S : CallFix p m c cc nL s args Ts own) (E : mi_E D A s) (hS : va_S A s.heap H locs) (hW : mi_W D A ad cf H) (r rv : Nat) {a av : Nat} (ha : ad r = a) (hav : ad rv = av) {n i ci : Nat} {f : Nat → Option Nat} {fs : List Value} {q : vw_C} (he : cf r = some (mi_aq D n f)) (hv : cf rv = some (.inr (ci, fs))) (hc : vwCl[ci]? = some q) (hcast : (q.1, mi_ob) ∈ mi_casts) (hi : i < n) (hn : n < 2 ^ 31) (hdg : decode cc pc = .ok (.aastore, 1))
    (kk : ∀ (H1 : Heap) (locs1 : List Loc), mi_W D A ad (va_up cf r (some (mi_aq D n (va_up f i (some (ad rv)))))) H1 → va_S A s.heap H1 locs1 → H1.size = H.size → W p l e R s m args below meth c H1 locs1 cells slots Q (F0 m (pc + 1) ls rest)) : W p l e R s m args below meth c H locs cells slots Q (F0 m pc ls (.ref av :: .int (nI i) :: .ref a :: rest)) := by
  subst ha hav
  have hcl := nI_clamp (n := i) (by omega)
  have h0 : ¬ nI i < 0 := nI_pos (by omega)
  obtain ⟨cellV, g1, g2, g3⟩ := hW.recv E hv hc
  obtain ⟨kC, hkC, -⟩ := Vm.findClass_spec g3
  obtain ⟨kA, comp, k1, k2, k3, -⟩ := (E.K.2 1 _ rfl).2
  obtain ⟨kE, hkE, -⟩ := Vm.findClass_spec k3
  have hasg : s.vm.assignable cellV.cls comp = true := by
    obtain ⟨c0, t0, f1, f2, f3⟩ := Cond.castable_spec (va_Nw.use (A := args) rfl (E.2.2.1 _ hcast))
    have e1 : c0 = cellV.cls := Option.some.inj (f1.symm.trans g3)
    have e2 : t0 = comp := Option.some.inj (f2.symm.trans k3)
    rw [← e1, ← e2]
    exact f3
  refine W.aast S.1 S.2.1 (hW.at he) (fun q h => by cases h) (fun h => by cases h) k1 k2 rfl hkE ⟨h0, by show _ < (arrV _ _ _).slots.size; rw [arrV_size, hcl]; exact hi⟩ g1 (fun q h => by rw [h] at g2; cases g2) hkC hasg rfl rfl hdg fun H1 e z oq => ?_
  refine kk H1 _ (hW.set he ?_ oq) (hS.put z oq (hW.1 r _ he).1) z
  show H1[ad r]? = some (vp_cell _ _)
  rw [e]
  rw [vp_cell_q, vp_cell_q, arrV_store, hcl]
  congr 2
  funext q
  by_cases hq : q = i
  · subst hq
    simp [updV, va_up, va_rf]
  · simp [updV, va_up, hq]
theorem mi_S_new {H1 : Heap} (hS : va_S A s.heap H locs) (z : H1.size = H.size + 1) (oq : ∀ q : Nat, q < H.size → H1[q]? = H[q]?) : va_S A s.heap H1 locs := ⟨Nat.le_trans hS.1 (by omega), fun x h1 h2 => (oq x (Nat.lt_of_lt_of_le h1 hS.1)).trans (hS.2.1 x h1 h2), hS.2.2⟩
theorem mi_new (S : CallFix p m c cc nL s args Ts own) (E : mi_E D A s) (hS : va_S A s.heap H locs) (hA : ∀ q, s.heap.size ≤ q → A q) (hW : mi_W D A ad cf H) (r : Nat) {ci N idx : Nat} {C : String} {T : u_T} {fs : List Value} (hc : vwCl[ci]? = some (C, T, N)) (hin : ∀ w ∈ u_ws C T N, w ∈ Ts) (ty : Nat → FieldType) (hty : ∀ k, k < N → parseFieldDescriptor (T k).2.2.1 = some (ty k)) (hfs : ∀ j, j < N → defaultValue (ty j) = vp_V fs j) (hcl : Cond.classLink own idx C ∈ Ts) (hinst : Cond.instantiable C N ∈ Ts) (hini : Cond.initialized C ∈ Ts) (hcells : cells + 1 ≤ R.cells) (hslots : slots + N ≤ R.slots) (hdg : decode cc pc = .ok (.new idx, 3))
    (kk : ∀ (H1 : Heap), mi_W D A (va_up ad r H.size) (va_up cf r (some (.inr (ci, fs)))) H1 → va_S A s.heap H1 locs → H1.size = H.size + 1 → W p l e R s m args below meth c H1 locs (cells + 1) (slots + N) Q (F0 m (pc + 3) ls (.ref H.size :: rest))) : W p l e R s m args below meth c H locs cells slots Q (F0 m pc ls rest) := by
  have hts := S.2.2.2.2
  have hKn := E.K.1 ci _ hc
  refine W.newcK S.1 S.2.1 S.2.2.2.1 (hts _ hcl) (hts _ hinst) (hts _ hini) rfl hdg hcells hslots hKn.2.1 rfl fun H1 kC hkC e1 z1 o1 => ?_
  exact kk H1 (hW.new r (hA _ hS.1) ⟨_, hc, (u_born ty hts hin hKn hkC e1 hty).to hfs⟩ o1) (mi_S_new hS z1 o1) z1
theorem mi_newi (S : CallFix p m c cc nL s args Ts own) (E : mi_E D A s) (hS : va_S A s.heap H locs) (hA : ∀ q, s.heap.size ≤ q → A q) (hW : mi_W D A ad cf H) (r : Nat) {n : Nat} (harr : Cond.arrayClass .int ∈ Ts) (hn : n ≤ 100000000) (hcells : cells + 1 ≤ R.cells) (hslots : slots + n ≤ R.slots) (hdg : decode cc pc = .ok (.newarray .int, 2))
    (kk : ∀ (H1 : Heap), mi_W D A (va_up ad r H.size) (va_up cf r (some (mi_ai D n (fun _ => 0)))) H1 → va_S A s.heap H1 locs → H1.size = H.size + 1 → W p l e R s m args below meth c H1 locs (cells + 1) (slots + n) Q (F0 m (pc + 2) ls (.ref H.size :: rest))) : W p l e R s m args below meth c H locs cells slots Q (F0 m pc ls (.int (nI n) :: rest)) := by
  refine va_newaK (atype := .int) (N := n) S.1 S.2.1 (S.2.2.2.2 _ harr) rfl hdg rfl (nI_pos (by omega)) (nI_clamp (by omega)) (by show n * 4 ≤ _; omega) hcells hslots rfl fun H1 cA e1 z1 o1 hAr hNm => ?_
  have hca : cA = D.1 100 := Option.some.inj (hNm.symm.trans (E.K.2 0 _ rfl).2)
  subst hca
  refine kk H1 (hW.new r (hA _ hS.1) ?_ o1) (mi_S_new hS z1 o1) z1
  show H1[H.size]? = some (vp_cell _ _)
  rw [vp_cell_i]
  exact e1
theorem mi_newl (S : CallFix p m c cc nL s args Ts own) (E : mi_E D A s) (hS : va_S A s.heap H locs) (hA : ∀ q, s.heap.size ≤ q → A q) (hW : mi_W D A ad cf H) (r : Nat) {n : Nat} (harr : Cond.arrayClass .long ∈ Ts) (hn : n ≤ 10000000) (hcells : cells + 1 ≤ R.cells) (hslots : slots + n ≤ R.slots) (hdg : decode cc pc = .ok (.newarray .long, 2))
    (kk : ∀ (H1 : Heap), mi_W D A (va_up ad r H.size) (va_up cf r (some (mi_al D n (fun _ => 0)))) H1 → va_S A s.heap H1 locs → H1.size = H.size + 1 → W p l e R s m args below meth c H1 locs (cells + 1) (slots + n) Q (F0 m (pc + 2) ls (.ref H.size :: rest))) : W p l e R s m args below meth c H locs cells slots Q (F0 m pc ls (.int (nI n) :: rest)) := by
  refine va_newaK (atype := .long) (N := n) S.1 S.2.1 (S.2.2.2.2 _ harr) rfl hdg rfl (nI_pos (by omega)) (nI_clamp (by omega)) (by show n * 8 ≤ _; omega) hcells hslots rfl fun H1 cA e1 z1 o1 hAr hNm => ?_
  have hca : cA = D.1 102 := Option.some.inj (hNm.symm.trans (E.K.2 2 _ rfl).2)
  subst hca
  refine kk H1 (hW.new r (hA _ hS.1) ?_ o1) (mi_S_new hS z1 o1) z1
  show H1[H.size]? = some (vp_cell _ _)
  rw [vp_cell_l]
  exact e1
theorem mi_newq (S : CallFix p m c cc nL s args Ts own) (E : mi_E D A s) (hS : va_S A s.heap H locs) (hA : ∀ q, s.heap.size ≤ q → A q) (hW : mi_W D A ad cf H) (r : Nat) {n idx : Nat} (hcl : Cond.classLink own idx mi_ob ∈ Ts) (hn : n ≤ 100000000) (hcells : cells + 1 ≤ R.cells) (hslots : slots + n ≤ R.slots) (hdg : decode cc pc = .ok (.anewarray idx, 3))
    (kk : ∀ (H1 : Heap), mi_W D A (va_up ad r H.size) (va_up cf r (some (mi_aq D n (fun _ => none)))) H1 → va_S A s.heap H1 locs → H1.size = H.size + 1 → W p l e R s m args below meth c H1 locs (cells + 1) (slots + n) Q (F0 m (pc + 3) ls (.ref H.size :: rest))) : W p l e R s m args below meth c H locs cells slots Q (F0 m pc ls (.int (nI n) :: rest)) := by
  have hcn : (nI n).toNatClampNeg = n := nI_clamp (by omega)
  refine W.anew S.1 S.2.1 S.2.2.2.1 (S.2.2.2.2 _ hcl) (va_AO.use E.2.2.2.2.2.2.2.2.2.2.2) rfl hdg rfl (nI_pos (by omega)) (by rw [hcn]; omega) hcells (by rw [hcn]; exact hslots) fun cA kA comp f1 f2 f3 f4 => ?_
  generalize hH1 : H.push ({ cls := cA, slots := Array.replicate (nI n).toNatClampNeg .null, vm := .none } : Cell) = H1
  have z1 : H1.size = H.size + 1 := by rw [← hH1, Array.size_push]
  have e1 : H1[H.size]? = some (arrV cA n (fun _ => .null)) := by rw [← hH1, Array.getElem?_push_size, hcn, ← arrV_new]
  have o1 : ∀ q : Nat, q < H.size → H1[q]? = H[q]? := fun q hq => by rw [← hH1, Array.getElem?_push, if_neg (Nat.ne_of_lt hq)]
  rw [hcn]
  have hca : cA = D.1 101 := by
    obtain ⟨-, -, -, -, -, h4⟩ := (E.K.2 1 _ rfl).2
    exact Option.some.inj (f1.symm.trans h4)
  subst hca
  refine kk H1 (hW.new r (hA _ hS.1) ?_ o1) (mi_S_new hS z1 o1) z1
  show H1[H.size]? = some (vp_cell _ _)
  rw [vp_cell_q]
  exact e1
end MIH
