/-! more rows over the world: copies, casts, statics, classes; roles moved -/
theorem mi_W.move {D : va_G} {A : Nat → Prop} {ad : Nat → Nat} {cf : Nat → Option va_E} {H : Heap} (h : mi_W D A ad cf H) (q t : Nat) (hn : t ≠ q) {e : va_E} (he : cf t = some e) : mi_W D A (va_up ad q (ad t)) (va_up (va_up cf q (some e)) t none) H := by
  have key : ∀ (k : Nat) (x : va_E), va_up (va_up cf q (some e)) t none k = some x → k ≠ t ∧ ((k = q ∧ x = e) ∨ (k ≠ q ∧ cf k = some x)) := by
    intro k x hx
    by_cases hk : k = t
    · subst hk
      rw [mi_up_s] at hx
      cases hx
    · rw [mi_up_n hk] at hx
      refine ⟨hk, ?_⟩
      by_cases hq : k = q
      · subst hq
        rw [mi_up_s] at hx
        cases hx
        exact Or.inl ⟨rfl, rfl⟩
      · rw [mi_up_n hq] at hx
        exact Or.inr ⟨hq, hx⟩
  have adk : ∀ k, k ≠ q → va_up ad q (ad t) k = ad k := fun k hk => mi_up_n hk
  refine ⟨fun k x hx => ?_, fun k k' x x' hx hx' ha => ?_⟩
  · rcases (key k x hx).2 with ⟨rfl, rfl⟩ | ⟨h1, h2⟩
    · rw [mi_up_s]
      exact h.1 t _ he
    · rw [adk k h1]
      exact h.1 k x h2
  · obtain ⟨n1, g1⟩ := key k x hx
    obtain ⟨n2, g2⟩ := key k' x' hx'
    rcases g1 with ⟨e1, e2⟩ | ⟨e1, e2⟩ <;> rcases g2 with ⟨f1, f2⟩ | ⟨f1, f2⟩
    · rw [e1, f1]
    · rw [e1, mi_up_s, adk k' f1] at ha
      exact absurd (h.2 t k' _ _ he f2 ha).symm n2
    · rw [f1, mi_up_s, adk k e1] at ha
      exact absurd (h.2 k t _ _ e2 he ha) n1
    · rw [adk k e1, adk k' f1] at ha
      exact h.2 k k' _ _ e2 f2 ha
section MIJ
variable {p : Program} {l : Launch} {e : Env} {R : Room} {s : State} {m : MethodId} {args : Array Value} {below : List Frame} {meth : Method} {c : Code} {H : Heap} {locs : List Loc} {cells slots : Nat} {Q : State → Prop}
variable {cc : ByteArray} {pc nL : Nat} {ls : Array Slot} {rest : List Value} {D : va_G} {A : Nat → Prop} {ad : Nat → Nat} {cf : Nat → Option va_E} {Ts : List Cond} {own : String}
theorem mi_castX (S : CallFix p m c cc nL s args Ts own) (E : mi_E D A s) (hW : mi_W D A ad cf H) (r : Nat) {a : Nat} (ha : ad r = a) {ci idx : Nat} {fs : List Value} {q : vw_C} (he : cf r = some (.inr (ci, fs))) (hc : vwCl[ci]? = some q) (hlink : Cond.classLink own idx q.1 ∈ Ts) (hdg : decode cc pc = .ok (.checkcast idx, 3))
    (k : W p l e R s m args below meth c H locs cells slots Q (F0 m (pc + 3) ls (.ref a :: rest))) : W p l e R s m args below meth c H locs cells slots Q (F0 m pc ls (.ref a :: rest)) := by
  subst ha
  exact va_castS S.1 S.2.1 S.2.2.2.1 (S.2.2.2.2 _ hlink) (E.K.1 ci q hc).2 (hW.recv E he hc) hdg k
theorem mi_castI (S : CallFix p m c cc nL s args Ts own) (E : mi_E D A s) (hW : mi_W D A ad cf H) (r : Nat) {a : Nat} (ha : ad r = a) {idx n : Nat} {f : Nat → Int32} (he : cf r = some (mi_ai D n f)) (hlink : Cond.classLink own idx "[I" ∈ Ts) (hdg : decode cc pc = .ok (.checkcast idx, 3))
    (k : W p l e R s m args below meth c H locs cells slots Q (F0 m (pc + 3) ls (.ref a :: rest))) : W p l e R s m args below meth c H locs cells slots Q (F0 m pc ls (.ref a :: rest)) := by
  subst ha
  exact va_castA S.1 S.2.1 S.2.2.2.1 (S.2.2.2.2 _ hlink) (hW.P he) 0 rfl (E.K.2 0 _ rfl).2 hdg k
theorem mi_clone (S : CallFix p m c cc nL s args Ts own) (E : mi_E D A s) (hS : va_S A s.heap H locs) (hA : ∀ q, s.heap.size ≤ q → A q) (hW : mi_W D A ad cf H) (r t : Nat) {a : Nat} (ha : ad r = a) {idx n : Nat} {f : Nat → Int32} (he : cf r = some (mi_ai D n f)) (hsize : ls.size = nL)
    (hlink : Cond.methodLink own idx ⟨"[I", "clone", "()Ljava/lang/Object;"⟩ ∈ Ts) (hsame : Cond.sameMethod "[I" "java/lang/Object" "clone" "()Ljava/lang/Object;" ∈ Ts) (hnat : Cond.native ⟨"java/lang/Object", "clone", "()Ljava/lang/Object;"⟩ ∈ Ts) (hinst : Cond.instanceMethod ⟨"java/lang/Object", "clone", "()Ljava/lang/Object;"⟩ ∈ Ts) (hsel : Cond.selects "[I" ⟨"[I", "clone", "()Ljava/lang/Object;"⟩ ⟨"java/lang/Object", "clone", "()Ljava/lang/Object;"⟩ ∈ Ts)
    (hframes : 1 ≤ R.frames) (hlocals : (rest.map fun v => v.category).sum + 14 ≤ R.locals) (hcells : cells + 1 ≤ R.cells) (hslots : slots + n ≤ R.slots) (hdg : decode cc pc = .ok (.invokevirtual idx, 3))
    (kk : ∀ (H1 : Heap), mi_W D A (va_up ad t H.size) (va_up cf t (some (mi_ai D n f))) H1 → va_S A s.heap H1 locs → H1.size = H.size + 1 → W p l e R s m args below meth c H1 locs (cells + 1) (slots + n) Q (F0 m (pc + 3) ls (.ref H.size :: rest))) : W p l e R s m args below meth c H locs cells slots Q (F0 m pc ls (.ref a :: rest)) := by
  subst ha
  have hts := S.2.2.2.2
  obtain ⟨c0, t0', f1, f2, f3⟩ := Cond.castable_spec (va_Nw.use (A := args) rfl (E.2.2.1 ("[I", "java/lang/Cloneable") (by decide +kernel)))
  have hnm : s.vm.findClass "[I" = some (D.1 100) := (E.K.2 0 _ rfl).2
  cases hnm.symm.trans f1
  intro T hT X
  have hcell : H[ad r]? = some (vp_cell (D.1 100) (n, .inl f)) := hW.at he
  have hcellT : T.heap[ad r]? = some (vp_cell (D.1 100) (n, .inl f)) := by rw [hT]; exact hcell
  obtain ⟨-, kA, hkA, comp, hkind⟩ := State.isArrayOf_alike X.warmed.alike ((E.K.2 0 _ rfl).1 0 (fun _ => .null))
  obtain ⟨-, kS, hkS, compS, hkindS⟩ := (E.K.2 0 _ rfl).1 0 (fun _ => .null)
  obtain ⟨vm', X', st⟩ := X.cloneArray S.1 S.2.2.2.1 (hts _ hlink) (hts _ hsame) (hts _ hnat) (hts _ hinst) (hts _ hsel) (a := ad r) (cell := vp_cell (D.1 100) (n, .inl f)) hcellT (fun k h => by cases h) (fun h => by cases h) hnm f2 f3
    (fun i v hv => by
      have hk' : T.vm.classes[D.1 100]? = some kA := hkA
      have hfit : fits .int v = true := va_fit (fun i _ => rfl) i v (by rw [vp_cell_i] at hv; exact hv)
      simpa [State.fitsSlot, State.slotType?, vp_cell, arrV, hk', hkind] using hfit)
    (g := F0 m pc ls (.ref (ad r) :: rest)) rfl (by rw [S.2.2.1]; exact hsize) rfl (by rw [S.2.1]; exact hdg) hframes (by show 2 * 0 + _ + 14 ≤ _; omega) hcells (by rw [vp_cell_i, arrV_size]; exact hslots) (hloader := Vm.clonesLoader_of_array hkS hkindS)
  have hcellE : ({ cls := (vp_cell (D.1 100) (n, .inl f)).cls, slots := (vp_cell (D.1 100) (n, .inl f)).slots } : Cell) = vp_cell (D.1 100) (n, .inl f) := rfl
  have hsz : (vp_cell (D.1 100) (n, .inl f)).slots.size = n := by rw [vp_cell_i, arrV_size]
  rw [hcellE, hsz] at X'
  generalize hH1 : H.push (vp_cell (D.1 100) (n, .inl f)) = H1
  have z1 : H1.size = H.size + 1 := by rw [← hH1, Array.size_push]
  have e1 : H1[H.size]? = some (vp_cell (D.1 100) (n, .inl f)) := by rw [← hH1, Array.getElem?_push_size]
  have o1 : ∀ q : Nat, q < H.size → H1[q]? = H[q]? := fun q hq => by rw [← hH1, Array.getElem?_push, if_neg (Nat.ne_of_lt hq)]
  obtain ⟨t1, b1, b2⟩ := kk H1 (hW.new t (hA _ hS.1) e1 o1) (mi_S_new hS z1 o1) z1 ((T.setVm vm').pushCell (vp_cell (D.1 100) (n, .inl f))) (by rw [← hH1, ← hT]; rfl) X'
  refine ⟨t1, st t1 ?_, b2⟩
  rw [hcellE, hT]
  exact b1
/-- the elements of a row: objects that may stand in an array of Object -/
def mi_els (ad : Nat → Nat) (cf : Nat → Option va_E) (n : Nat) (f : Nat → Option Nat) : Prop := ∀ i, i < n → ∀ y, f i = some y → ∃ (ro ci : Nat) (fs : List Value) (q : vw_C), y = ad ro ∧ cf ro = some (.inr (ci, fs)) ∧ vwCl[ci]? = some q ∧ (q.1, mi_ob) ∈ mi_casts
theorem mi_any (E : mi_E D A s) (hW : mi_W D A ad cf H) {ro ci : Nat} {fs : List Value} {q : vw_C} (he : cf ro = some (.inr (ci, fs))) (hc : vwCl[ci]? = some q) (hcast : (q.1, mi_ob) ∈ mi_casts) : va_Any mi_ob s H (ad ro) := by
  obtain ⟨cellV, g1, g2, g3⟩ := hW.recv E he hc
  obtain ⟨kC, hkC, -⟩ := Vm.findClass_spec g3
  refine ⟨cellV, g1, g2, ⟨kC, hkC⟩, fun comp h => ?_⟩
  obtain ⟨c0, t0, f1, f2, f3⟩ := Cond.castable_spec (va_Nw.use (A := #[]) rfl (E.2.2.1 _ hcast))
  have e1 : c0 = cellV.cls := Option.some.inj (f1.symm.trans g3)
  have e2 : t0 = comp := Option.some.inj (f2.symm.trans h)
  rw [← e1, ← e2]
  exact f3
/-- arraycopy of the first n references of role r into role t -/
theorem mi_copy (S : CallFix p m c cc nL s args Ts own) (E : mi_E D A s) (hS : va_S A s.heap H locs) (hW : mi_W D A ad cf H) (r t : Nat) {a a2 : Nat} (ha : ad r = a) (hat : ad t = a2) (hrt : r ≠ t) {idx n0 n1 n : Nat} {f g : Nat → Option Nat} (he : cf r = some (mi_aq D n0 f)) (ht : cf t = some (mi_aq D n1 g)) (h4 : n ≤ n0) (h5 : n ≤ n1) (hb : n0 < 2 ^ 31) (hb1 : n1 < 2 ^ 31) (hel : mi_els ad cf n f) (hsize : ls.size = nL)
    (hlink : Cond.methodLink own idx arraycopyName ∈ Ts) (hnat : Cond.native arraycopyName ∈ Ts) (hstat : Cond.static arraycopyName ∈ Ts) (hini : Cond.initialized "java/lang/System" ∈ Ts)
    (hframes : 1 ≤ R.frames) (hlocals : (rest.map fun v => v.category).sum + (nativeFrameWords "java/lang/System" "arraycopy" 5 + 11) ≤ R.locals) (hdg : decode cc pc = .ok (.invokestatic idx, 3))
    (kk : ∀ (H1 : Heap) (locs1 : List Loc), mi_W D A ad (va_up cf t (some (mi_aq D n1 (va_cpy f g 0 0 n)))) H1 → va_S A s.heap H1 locs1 → H1.size = H.size → W p l e R s m args below meth c H1 locs1 cells slots Q (F0 m (pc + 3) ls rest)) : W p l e R s m args below meth c H locs cells slots Q (F0 m pc ls (.int (nI n) :: .int (nI 0) :: .ref a2 :: .int (nI 0) :: .ref a :: rest)) := by
  subst ha hat
  have hts := S.2.2.2.2
  have hn := nI_clamp (n := n) (by omega)
  have hz := nI_clamp (n := 0) (by omega)
  have hni := nI_toInt (n := n) (by omega)
  have hzi := nI_toInt (n := 0) (by omega)
  intro T hT X
  have hc0 : H[ad r]? = some (vp_cell (D.1 101) (n0, .inr (.inr (.inr (.inr f))))) := hW.at he
  have hc1 : H[ad t]? = some (vp_cell (D.1 101) (n1, .inr (.inr (.inr (.inr g))))) := hW.at ht
  obtain ⟨-, k0, hk0, cm0, hkk0⟩ := (E.K.2 1 _ rfl).1 n0 (fun j => va_rf (f j))
  obtain ⟨vm', X', step⟩ := X.arraycopy S.1 S.2.2.2.1 (hts _ hlink) (hts _ hnat) (hts _ hstat) (hts _ hini) (src := ad r) (dst := ad t) (cs := vp_cell (D.1 101) (n0, .inr (.inr (.inr (.inr f))))) (cd := vp_cell (D.1 101) (n1, .inr (.inr (.inr (.inr g))))) (srcPos := nI 0) (destPos := nI 0) (n := nI n) (by rw [hT]; exact hc0) (by rw [hT]; exact hc1)
    (fun _ h => by cases h) (fun _ h => by cases h) (fun h => by cases h) (fun h => by cases h) hk0 hk0 hkk0 hkk0 rfl (nI_pos (by omega)) (nI_pos (by omega)) (nI_pos (by omega))
    (by rw [hzi, hni]; show ¬ _ > ((arrV (D.1 101) n0 (fun j => va_rf (f j))).slots.size : Int); rw [arrV_size]; omega)
    (by rw [hzi, hni]; show ¬ _ > ((arrV (D.1 101) n1 (fun j => va_rf (g j))).slots.size : Int); rw [arrV_size]; omega)
    (fun vm₁ hal i hi => by
      rw [hn] at hi
      have e : (vp_cell (D.1 101) (n0, .inr (.inr (.inr (.inr f))))).slots.getD ((nI 0).toNatClampNeg + i) .null = va_rf (f i) := by
        show (arrV (D.1 101) n0 (fun j => va_rf (f j))).slots.getD _ _ = _
        rw [hz, Nat.zero_add, Array.getD_eq_getD_getElem?, arrV_read _ _ (by omega)]
        rfl
      rw [e]
      cases hy : f i with
      | none => exact ⟨rfl, trivial⟩
      | some y =>
        obtain ⟨ro, ci, fs, q, rfl, h1, h2, h3⟩ := hel i hi y hy
        obtain ⟨cellV, g1, g2, ⟨kC, hkC⟩, hasg⟩ := mi_any E hW h1 h2 h3
        obtain ⟨kA, comp, r1, r2, r3, -⟩ := (E.K.2 1 _ rfl).2
        cases hk0.symm.trans r1
        cases hkk0.symm.trans r2
        obtain ⟨kE, hkE, -⟩ := Vm.findClass_spec r3
        obtain ⟨kC', hkC', -⟩ := hal.2.2 _ _ hkC
        obtain ⟨kE', hkE', -⟩ := hal.2.2 _ _ hkE
        refine ⟨rfl, cellV, (show T.heap[ad ro]? = some cellV by rw [hT]; exact g1), (fun q h => by rw [h] at g2; cases g2), ⟨kC', hkC'⟩, ?_, ?_⟩
        · exact ⟨kE', hkE'⟩
        · show vm₁.assignable _ _ = true
          rw [hal.assignable]
          exact hasg _ r3)
    (g := F0 m pc ls (.int (nI n) :: .int (nI 0) :: .ref (ad t) :: .int (nI 0) :: .ref (ad r) :: rest)) rfl (by rw [S.2.2.1]; exact hsize) (rest := rest) rfl (by rw [S.2.1]; exact hdg) hframes (by show 2 * 0 + _ + _ ≤ _; omega)
  have e1 : copied (vp_cell (D.1 101) (n0, .inr (.inr (.inr (.inr f))))) (vp_cell (D.1 101) (n1, .inr (.inr (.inr (.inr g))))) (nI 0) (nI 0) (nI n) = vp_cell (D.1 101) (n1, .inr (.inr (.inr (.inr (va_cpy f g 0 0 n))))) := by
    have h0 := va_copied (fun z => va_rf z) (D.1 101) (D.1 101) (n0 := n0) (n1 := n1) (sp := 0) (dp := 0) (n := n) f g (by omega)
    rw [vp_cell_q, vp_cell_q, vp_cell_q, ← h0]
    unfold copied
    rw [hz, hn]
  rw [e1] at X' step
  have hl : ad t < H.size := hW.lt ht
  have hheap : ((T.setVm vm').setCell (ad t) (vp_cell (D.1 101) (n1, .inr (.inr (.inr (.inr (va_cpy f g 0 0 n))))))).heap = H.setIfInBounds (ad t) (vp_cell (D.1 101) (n1, .inr (.inr (.inr (.inr (va_cpy f g 0 0 n)))))) := by rw [← hT]; rfl
  have oq : ∀ q : Nat, q ≠ ad t → (H.setIfInBounds (ad t) (vp_cell (D.1 101) (n1, .inr (.inr (.inr (.inr (va_cpy f g 0 0 n)))))))[q]? = H[q]? := fun q hq => by simp [Array.getElem?_setIfInBounds, Ne.symm hq]
  obtain ⟨t1, a1, b1⟩ := kk _ _ (hW.set ht (show (H.setIfInBounds (ad t) _)[ad t]? = some _ by simp [Array.getElem?_setIfInBounds, hl]) oq) ⟨by simp; exact hS.1, fun q g1 g2 => by
      rw [oq q (fun e => g2 (by rw [e]; exact (hW.1 t _ ht).1))]
      exact hS.2.1 q g1 g2, fun q hq => by
      rcases List.mem_append.mp hq with h | h
      · exact hS.2.2 q h
      · obtain ⟨z, -, hz⟩ := List.mem_map.mp h
        rw [← hz]
        exact (hW.1 t _ ht).1⟩ (by simp) _ hheap X'
  exact ⟨t1, step t1 a1, b1⟩
theorem mi_gets (S : CallFix p m c cc nL s args Ts own) (E : mi_E D A s) (hS : va_S A s.heap H locs) {idx : Nat} (hlink : Cond.fieldLink own idx RJx4a65c "DEFAULTCAPACITY_EMPTY_ELEMENTDATA" "[Ljava/lang/Object;" ∈ Ts) (hdg : decode cc pc = .ok (.getstatic idx, 3))
    (kk : W p l e R s m args below meth c H locs cells slots Q (F0 m (pc + 3) ls (.ref (mi_de D) :: rest))) : W p l e R s m args below meth c H locs cells slots Q (F0 m pc ls rest) :=
  va_gets S.1 S.2.1 E.2.2.2.2.2.2.2.1 hS S.2.2.2.1 (S.2.2.2.2 _ hlink) (fun _ h => h) hdg kk
theorem mi_delen (S : CallFix p m c cc nL s args Ts own) (E : mi_E D A s) (hS : va_S A s.heap H locs) (hdg : decode cc pc = .ok (.arraylength, 1))
    (kk : W p l e R s m args below meth c H locs cells slots Q (F0 m (pc + 1) ls (.int (nI 0) :: rest))) : W p l e R s m args below meth c H locs cells slots Q (F0 m pc ls (.ref (mi_de D) :: rest)) :=
  va_tlen S.1 S.2.1 E.2.2.2.2.2.2.2.2.1 hS rfl hdg kk
/-- the empty default array is no cell of the world -/
theorem mi_de_ne (E : mi_E D A s) (hW : mi_W D A ad cf H) {r : Nat} {x : va_E} (he : cf r = some x) : mi_de D ≠ ad r := fun h => E.2.2.2.2.2.2.2.2.1.out (by rw [h]; exact (hW.1 r x he).1)
theorem mi_getC (S : CallFix p m c cc nL s args Ts own) (E : mi_E D A s) (hW : mi_W D A ad cf H) (r : Nat) {a : Nat} (ha : ad r = a) {idx n : Nat} {f : Nat → Option Nat} (he : cf r = some (mi_aq D n f)) (hsize : ls.size = nL) (hlink : Cond.methodLink own idx ⟨"java/lang/Object", "getClass", "()Ljava/lang/Class;"⟩ ∈ Ts) (hsel : Cond.selects "[Ljava/lang/Object;" ⟨"java/lang/Object", "getClass", "()Ljava/lang/Class;"⟩ ⟨"java/lang/Object", "getClass", "()Ljava/lang/Class;"⟩ ∈ Ts) (hinst : Cond.instanceMethod ⟨"java/lang/Object", "getClass", "()Ljava/lang/Class;"⟩ ∈ Ts) (hnat : Cond.native ⟨"java/lang/Object", "getClass", "()Ljava/lang/Class;"⟩ ∈ Ts) (hframes : 1 ≤ R.frames) (hlocals : (rest.map fun v => v.category).sum + 14 ≤ R.locals) (hdg : decode cc pc = .ok (.invokevirtual idx, 3))
    (kk : W p l e R s m args below meth c H locs cells slots Q (F0 m (pc + 3) ls (.ref (mi_mi D) :: rest))) : W p l e R s m args below meth c H locs cells slots Q (F0 m pc ls (.ref a :: rest)) := by
  subst ha
  have hcl : s.vm.findClass "[Ljava/lang/Object;" = some (D.1 101) := by
    obtain ⟨-, -, -, -, -, h4⟩ := (E.K.2 1 _ rfl).2
    exact h4
  exact va_getC (C := "[Ljava/lang/Object;") (mi := mi_mi D) S.1 S.2.1 (by rw [S.2.2.1]; exact hsize.symm) S.2.2.2.1 (S.2.2.2.2 _ hlink) (va_Dc.use E.2.2.2.2.2.2.2.2.2.2.1.1) (S.2.2.2.2 _ hsel) (S.2.2.2.2 _ hinst) (S.2.2.2.2 _ hnat) E.2.2.2.2.2.2.2.2.2.1 ⟨_, hW.at he, rfl, hcl⟩ hframes hlocals hdg kk
theorem mi_ldcM (S : CallFix p m c cc nL s args Ts own) (E : mi_E D A s) {idx : Nat} (hlink : Cond.classLink own idx "[Ljava/lang/Object;" ∈ Ts) (hdg : decode cc pc = .ok (.ldc idx, 2))
    (k : W p l e R s m args below meth c H locs cells slots Q (F0 m (pc + 2) ls (.ref (mi_mi D) :: rest))) : W p l e R s m args below meth c H locs cells slots Q (F0 m pc ls rest) :=
  va_ldcM S.1 S.2.1 S.2.2.2.1 (S.2.2.2.2 _ hlink) E.2.2.2.2.2.2.2.2.2.1 hdg k
theorem mi_acmp_ne (S : CallFix p m c cc nL s args Ts own) {a b tgt : Nat} {off : Int} (hdg : decode cc pc = .ok (.if_acmp .ne off, 3)) (ht : (pc : Int) + off = (tgt : Int)) (kt : a ≠ b → W p l e R s m args below meth c H locs cells slots Q (F0 m tgt ls rest)) (kf : a = b → W p l e R s m args below meth c H locs cells slots Q (F0 m (pc + 3) ls rest)) : W p l e R s m args below meth c H locs cells slots Q (F0 m pc ls (.ref b :: .ref a :: rest)) :=
  lv_acmp_ne (rx := some a) (ry := some b) S.1 S.2.1 hdg ht (fun h => kt (fun z => h (congrArg some z))) (fun h => kf (Option.some.inj h))
theorem mi_acmp_eq (S : CallFix p m c cc nL s args Ts own) {a b tgt : Nat} {off : Int} (hdg : decode cc pc = .ok (.if_acmp .eq off, 3)) (ht : (pc : Int) + off = (tgt : Int)) (kt : a = b → W p l e R s m args below meth c H locs cells slots Q (F0 m tgt ls rest)) (kf : a ≠ b → W p l e R s m args below meth c H locs cells slots Q (F0 m (pc + 3) ls rest)) : W p l e R s m args below meth c H locs cells slots Q (F0 m pc ls (.ref b :: .ref a :: rest)) :=
  lv_acmp_eq (rx := some a) (ry := some b) S.1 S.2.1 hdg ht (fun h => kt (Option.some.inj h)) (fun h => kf (fun z => h (congrArg some z)))
end MIJ
section MIM
variable {p : Program} {l : Launch} {e : Env} {R : Room} {s : State} {m : MethodId} {args : Array Value} {below : List Frame} {meth : Method} {c : Code} {H : Heap} {locs : List Loc} {cells slots : Nat} {Q : State → Prop}
variable {cc : ByteArray} {pc nL : Nat} {ls : Array Slot} {rest : List Value} {Ts : List Cond} {own : String}
theorem mi_mmax (S : CallFix p m c cc nL s args Ts own) {a b idx : Nat} (ha : a < 2 ^ 31) (hb : b < 2 ^ 31) (hl : Cond.methodLink own idx Lib.Math.max.name ∈ Ts) (hst : Cond.static Lib.Math.max.name ∈ Ts) (hini : Cond.initialized "java/lang/Math" ∈ Ts) (hcode : Cond.code Lib.Math.max.name Lib.Math.max.code 2 (some .int) ∈ Ts) (hsize : ls.size = nL) (hf : 1 ≤ R.frames) (hlo : (rest.map fun v => v.category).sum + 13 ≤ R.locals) (hc : cells ≤ R.cells) (hs : slots ≤ R.slots) (hdg : decode cc pc = .ok (.invokestatic idx, 3))
    (kk : W p l e R s m args below meth c H locs cells slots Q (F0 m (pc + 3) ls (.int (nI (if a < b then b else a)) :: rest))) : W p l e R s m args below meth c H locs cells slots Q (F0 m pc ls (.int (nI b) :: .int (nI a) :: rest)) := by
  refine va_mmax S.1 S.2.1 (by rw [S.2.2.1]; exact hsize.symm) S.2.2.2.1 (S.2.2.2.2 _ hl) (S.2.2.2.2 _ hst) (S.2.2.2.2 _ hini) (S.2.2.2.2 _ hcode) hf hlo hc hs hdg ?_
  refine mi_top (congrArg Value.int ?_) kk
  by_cases h : a < b
  · rw [if_pos h, if_pos (nI_lt h hb)]
  · rw [if_neg h, if_neg (nI_nlt (by omega) ha)]
theorem mi_mmin (S : CallFix p m c cc nL s args Ts own) {a b idx : Nat} (ha : a < 2 ^ 31) (hb : b < 2 ^ 31) (hl : Cond.methodLink own idx Lib.Math.min.name ∈ Ts) (hst : Cond.static Lib.Math.min.name ∈ Ts) (hini : Cond.initialized "java/lang/Math" ∈ Ts) (hcode : Cond.code Lib.Math.min.name Lib.Math.min.code 2 (some .int) ∈ Ts) (hsize : ls.size = nL) (hf : 1 ≤ R.frames) (hlo : (rest.map fun v => v.category).sum + 13 ≤ R.locals) (hc : cells ≤ R.cells) (hs : slots ≤ R.slots) (hdg : decode cc pc = .ok (.invokestatic idx, 3))
    (kk : W p l e R s m args below meth c H locs cells slots Q (F0 m (pc + 3) ls (.int (nI (if b < a then b else a)) :: rest))) : W p l e R s m args below meth c H locs cells slots Q (F0 m pc ls (.int (nI b) :: .int (nI a) :: rest)) := by
  refine va_mmin S.1 S.2.1 (by rw [S.2.2.1]; exact hsize.symm) S.2.2.2.1 (S.2.2.2.2 _ hl) (S.2.2.2.2 _ hst) (S.2.2.2.2 _ hini) (S.2.2.2.2 _ hcode) hf hlo hc hs hdg ?_
  refine mi_top (congrArg Value.int ?_) kk
  by_cases h : b < a
  · rw [if_pos h, if_pos (nI_lt h ha)]
  · rw [if_neg h, if_neg (nI_nlt (by omega) hb)]
theorem mi_mabs (S : CallFix p m c cc nL s args Ts own) {a b idx : Nat} (ha : a < 2 ^ 30) (hb : b < 2 ^ 30) (hl : Cond.methodLink own idx Lib.Math.abs.name ∈ Ts) (hst : Cond.static Lib.Math.abs.name ∈ Ts) (hini : Cond.initialized "java/lang/Math" ∈ Ts) (hcode : Cond.code Lib.Math.abs.name Lib.Math.abs.code 1 (some .int) ∈ Ts) (hsize : ls.size = nL) (hf : 1 ≤ R.frames) (hlo : (rest.map fun v => v.category).sum + 13 ≤ R.locals) (hc : cells ≤ R.cells) (hs : slots ≤ R.slots) (hdg : decode cc pc = .ok (.invokestatic idx, 3))
    (kk : W p l e R s m args below meth c H locs cells slots Q (F0 m (pc + 3) ls (.int (nI (if a < b then b - a else a - b)) :: rest))) : W p l e R s m args below meth c H locs cells slots Q (F0 m pc ls (.int (nI a - nI b) :: rest)) := by
  refine va_mabs S.1 S.2.1 (by rw [S.2.2.1]; exact hsize.symm) S.2.2.2.1 (S.2.2.2.2 _ hl) (S.2.2.2.2 _ hst) (S.2.2.2.2 _ hini) (S.2.2.2.2 _ hcode) hf hlo hc hs hdg ?_
  refine mi_top (congrArg Value.int ?_) kk
  have ht := pk_sub_toInt ha hb
  by_cases h : a < b
  · rw [if_pos h, if_neg (by rw [Int32.le_iff_toInt_le, ht]; show ¬ (0 : Int) ≤ _; omega), Int32.zero_sub, Int32.neg_sub, pk_sub (by omega)]
  · rw [if_neg h, if_pos (by rw [Int32.le_iff_toInt_le, ht]; show (0 : Int) ≤ _; omega), pk_sub (by omega)]
end MIM
theorem mi_W.up {D : va_G} {A : Nat → Prop} {ad : Nat → Nat} {cf : Nat → Option va_E} {H : Heap} (h : mi_W D A ad cf H) (hAu : ∀ a b, A a → a ≤ b → A b) {r : Nat} {x : va_E} (he : cf r = some x) : ∀ q, H.size ≤ q → A q := fun q hq => hAu _ q (h.1 r x he).1 (Nat.le_trans (Nat.le_of_lt (h.lt he)) hq)
theorem mi_W.mono {D : va_G} {A : Nat → Prop} {ad ad' : Nat → Nat} {cf cg : Nat → Option va_E} {H : Heap} (h : mi_W D A ad cf H) (hs : ∀ k e, cg k = some e → cf k = some e ∧ ad' k = ad k) : mi_W D A ad' cg H := by
  refine ⟨fun k x hx => ?_, fun k k' x x' hx hx' ha => ?_⟩
  · obtain ⟨h1, h2⟩ := hs k x hx
    rw [h2]
    exact h.1 k x h1
  · obtain ⟨h1, h2⟩ := hs k x hx
    obtain ⟨h3, h4⟩ := hs k' x' hx'
    rw [h2, h4] at ha
    exact h.2 k k' x x' h1 h3 ha
/-- the longer row takes the old one's role -/
theorem mi_grown {D : va_G} {A : Nat → Prop} {ad : Nat → Nat} {cf : Nat → Option va_E} {H : Heap} {q r a : Nat} {e1 e2 : va_E} (hq9 : q ≠ 999) (hr9 : r ≠ 999) (hrq : r ≠ q) (h9 : cf 999 = none) (h : mi_W D A (va_up ad 999 a) (va_up (va_up cf 999 (some e1)) r (some e2)) H) : mi_W D A (va_up ad q a) (va_up (va_up cf q (some e1)) r (some e2)) H := by
  have h1 := h.move q 999 (Ne.symm hq9) (e := e1) (by rw [mi_up_n (Ne.symm hr9), mi_up_s])
  refine h1.mono (fun k x hk => ?_)
  by_cases hk9 : k = 999
  · subst hk9
    rw [mi_up_n (Ne.symm hr9), mi_up_n (Ne.symm hq9), h9] at hk
    cases hk
  · rw [mi_up_n hk9]
    by_cases hkq : k = q
    · subst hkq
      rw [mi_up_n (Ne.symm hrq), mi_up_s] at hk
      rw [mi_up_s, mi_up_s, mi_up_s, mi_up_s]
      exact ⟨hk, rfl⟩
    · rw [mi_up_n hkq, mi_up_n hkq, mi_up_n hkq, mi_up_n hk9]
      by_cases hkr : k = r
      · subst hkr
        rw [mi_up_s] at hk ⊢
        exact ⟨hk, rfl⟩
      · rw [mi_up_n hkr, mi_up_n hkq] at hk
        rw [mi_up_n hkr, mi_up_n hk9]
        exact ⟨hk, rfl⟩
