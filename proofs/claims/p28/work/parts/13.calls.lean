/-! contracts of four kinds (a reader; a maker; one that throws), their starts, ends and calls -/
abbrev mi_Rd (l : Launch) (y : MethodName) (w : Cond) (rm : Room) (D : va_G) (A : Nat → Prop) (P : Heap → Prop) (av : List Value) (post : Int32 → Prop) : Prop := Met l y (w :: mi_G) rm (mi_Pc D A P av) (vp_Si post) 0 0 (fun _ => False)
abbrev mi_Rv (l : Launch) (y : MethodName) (w : Cond) (rm : Room) (D : va_G) (A : Nat → Prop) (P : Heap → Prop) (av : List Value) : Prop := Met l y (w :: mi_G) rm (mi_Pc D A P av) (va_Sv (fun _ => True)) 0 0 (fun _ => False)
abbrev mi_Rq (l : Launch) (y : MethodName) (w : Cond) (rm : Room) (D : va_G) (A : Nat → Prop) (P : Heap → Prop) (av : List Value) (post : Option Nat → Prop) : Prop := Met l y (w :: mi_G) rm (mi_Pc D A P av) (va_Sq post) 0 0 (fun _ => False)
def mi_Qi (A : Nat → Prop) (post : Int32 → Heap → Prop) : Array Value → State → Outcome → State → Prop := fun _ st o t => (∃ r : Int32, o = .returned (some (.int r)) ∧ post r t.heap) ∧ va_F A st t
def mi_Qv (A : Nat → Prop) (post : Heap → Prop) : Array Value → State → Outcome → State → Prop := fun _ st o t => (o = .returned none ∧ post t.heap) ∧ va_F A st t
def mi_Qr (A : Nat → Prop) (post : Nat → Heap → Prop) : Array Value → State → Outcome → State → Prop := fun _ st o t => (∃ r : Nat, o = .returned (some (.ref r)) ∧ post r t.heap) ∧ va_F A st t
abbrev mi_Mi (l : Launch) (y : MethodName) (w : Cond) (rm : Room) (D : va_G) (A : Nat → Prop) (P : Heap → Prop) (av : List Value) (mc ms : Nat) (post : Int32 → Heap → Prop) : Prop := Met l y (w :: mi_G) rm (mi_Pc D A P av) (mi_Qi A post) mc ms A
abbrev mi_Mv (l : Launch) (y : MethodName) (w : Cond) (rm : Room) (D : va_G) (A : Nat → Prop) (P : Heap → Prop) (av : List Value) (mc ms : Nat) (post : Heap → Prop) : Prop := Met l y (w :: mi_G) rm (mi_Pc D A P av) (mi_Qv A post) mc ms A
abbrev mi_Mr (l : Launch) (y : MethodName) (w : Cond) (rm : Room) (D : va_G) (A : Nat → Prop) (P : Heap → Prop) (av : List Value) (mc ms : Nat) (post : Nat → Heap → Prop) : Prop := Met l y (w :: mi_G) rm (mi_Pc D A P av) (mi_Qr A post) mc ms A
abbrev mi_QX (A : Nat → Prop) : Array Value → State → Outcome → State → Prop := va_Qv (fun _ : Unit => False) (fun _ _ => True) A
abbrev mi_XX (A : Nat → Prop) (P : Heap → Prop) (Ex : String) : String → State → State → Prop := vx_X (fun _ : Unit => True) (fun E' _ t => E' = Ex ∧ P t.heap) A
abbrev mi_Th (l : Launch) (y : MethodName) (w : Cond) (rm : Room) (D : va_G) (A : Nat → Prop) (P : Heap → Prop) (av : List Value) (Ex : String) (mc ms : Nat) : Prop := vx_Met l y (w :: mi_G) rm (mi_Pc D A P av) (mi_QX A) (mi_XX A P Ex) mc ms A
theorem mi_start {l : Launch} {y : MethodName} {w : Cond} {cc : ByteArray} {nL : Nat} {ret : Option FieldType} {rm : Room} {D : va_G} {A : Nat → Prop} {P : Heap → Prop} {av : List Value} {Qc : Array Value → State → Outcome → State → Prop} {mc ms : Nat} {free : Nat → Prop} (hw : w = Cond.code y cc nL ret) (hy : plainName y.cls = true) (hlen : (lg_sl av).length ≤ nL)
    (body : ∀ (p : Program) (e : Env) (s : State) (m : MethodId) (below : List Frame) (meth : Method) (c : Code) (ls : Array Slot), CallFix p m c cc nL s av.toArray (w :: mi_G) y.cls → mi_E D A s → P s.heap → va_S A s.heap s.heap [] → meth.sig.returnType = ret → meth.locks = false → meth.name = y.name → lv_has ls nL (lv_args 0 av) →
      W p l e rm s m av.toArray below meth c s.heap [] 0 0 (MQ below Qc av.toArray s mc ms free) (F0 m 0 ls [])) : Met l y (w :: mi_G) rm (mi_Pc D A P av) Qc mc ms free := by
  subst hw
  refine Met.ofW (cc := cc) (maxL := nL) (ret := ret) hy rfl ?_
  intro p e s m args below meth c s₁ B hml hv
  obtain ⟨rfl, hE, hW⟩ := hv
  have hts := atoms_spec (ws := Cond.code y cc nL ret :: mi_G) B.pre
  have hl := lv_entry av (n := nL) hlen
  rw [lg_entry_eq]
  exact body p e s m below meth c _ ⟨B.exec, B.bytes, hml, findClass_of_methodNamed B.named, hts⟩ hE hW va_S.rf B.returns B.notSynchronized (name_of_methodNamed B.named B.method).1 hl
theorem mi_startX {l : Launch} {y : MethodName} {w : Cond} {cc : ByteArray} {nL : Nat} {ret : Option FieldType} {rm : Room} {D : va_G} {A : Nat → Prop} {P : Heap → Prop} {av : List Value} {Qc : Array Value → State → Outcome → State → Prop} {XC : String → State → State → Prop} {mc ms : Nat} {free : Nat → Prop} (hw : w = Cond.code y cc nL ret) (hy : plainName y.cls = true) (hlen : (lg_sl av).length ≤ nL)
    (body : ∀ (p : Program) (e : Env) (s : State) (m : MethodId) (below : List Frame) (meth : Method) (c : Code) (ls : Array Slot), CallFix p m c cc nL s av.toArray (w :: mi_G) y.cls → mi_E D A s → P s.heap → va_S A s.heap s.heap [] → meth.sig.returnType = ret → meth.locks = false → (∀ x ∈ c.exceptionTable.toList, False) → lv_has ls nL (lv_args 0 av) →
      W p l e rm s m av.toArray below meth c s.heap [] 0 0 (vx_MQ below Qc XC av.toArray s mc ms free) (F0 m 0 ls [])) : vx_Met l y (w :: mi_G) rm (mi_Pc D A P av) Qc XC mc ms free := by
  subst hw
  refine vx_ofW (cc := cc) (maxL := nL) (ret := ret) hy rfl ?_
  intro p e s m args below meth c s₁ B hml hno hv
  obtain ⟨rfl, hE, hW⟩ := hv
  have hts := atoms_spec (ws := Cond.code y cc nL ret :: mi_G) B.pre
  have hl := lv_entry av (n := nL) hlen
  rw [lg_entry_eq]
  exact body p e s m below meth c _ ⟨B.exec, B.bytes, hml, findClass_of_methodNamed B.named, hts⟩ hE hW va_S.rf B.returns B.notSynchronized hno hl
section MIC
variable {p : Program} {l : Launch} {e : Env} {R : Room} {s : State} {m : MethodId} {args : Array Value} {below : List Frame} {meth : Method} {c : Code} {H : Heap} {locs : List Loc} {cells slots : Nat} {Q : State → Prop}
variable {cc : ByteArray} {pc nL : Nat} {ls : Array Slot} {rest st0 : List Value} {D : va_G} {A : Nat → Prop} {P : Heap → Prop} {w0 : Cond} {own : String} {a : Array Value}
/-- ends -/
theorem mi_retR (S : CallFix p m c cc nL s args (w0 :: mi_G) own) (hr : meth.sig.returnType = some .int) (hk : meth.locks = false) {post : Int32 → Prop} {v : Int32} (hdg : decode cc pc = .ok (.ireturn, 1)) (hp : post v) : W p l e R s m args below meth c s.heap [] 0 0 (MQ below (vp_Si post) args s 0 0 (fun _ => False)) (F0 m pc ls [.int v]) :=
  W.iret S.1 S.2.1 hr (fun t ht _ => ⟨v, rfl, hp, ht⟩) (fun _ h => by cases h) hdg hk
theorem mi_retZ (S : CallFix p m c cc nL s args (w0 :: mi_G) own) (hr : meth.sig.returnType = some .boolean) (hk : meth.locks = false) {post : Int32 → Prop} {v : Int32} (hdg : decode cc pc = .ok (.ireturn, 1)) (hn : narrow .boolean (.int v) = .int v) (hp : post v) : W p l e R s m args below meth c s.heap [] 0 0 (MQ below (vp_Si post) args s 0 0 (fun _ => False)) (F0 m pc ls [.int v]) :=
  W.zret S.1 S.2.1 hr hn (fun t ht _ => ⟨v, rfl, hp, ht⟩) (fun _ h => by cases h) hdg hk
theorem mi_retV (S : CallFix p m c cc nL s args (w0 :: mi_G) own) (hr : meth.sig.returnType = none) (hk : meth.locks = false) (hdg : decode cc pc = .ok (.return_, 1)) : W p l e R s m args below meth c s.heap [] 0 0 (MQ below (va_Sv (fun _ => True)) args s 0 0 (fun _ => False)) (F0 m pc ls []) :=
  W.vret S.1 S.2.1 hr (fun t ht _ => ⟨rfl, trivial, ht⟩) (fun _ h => by cases h) hdg hk
theorem mi_retQ (S : CallFix p m c cc nL s args (w0 :: mi_G) own) {rt : FieldType} (hr : meth.sig.returnType = some rt) (hrt : (∃ n, rt = .object n) ∨ ∃ t, rt = .array t) (hk : meth.locks = false) {post : Option Nat → Prop} {r : Option Nat} (hdg : decode cc pc = .ok (.areturn, 1)) (hp : post r) : W p l e R s m args below meth c s.heap [] 0 0 (MQ below (va_Sq post) args s 0 0 (fun _ => False)) (F0 m pc ls [va_rf r]) :=
  W.aret S.1 S.2.1 hr hrt (by cases r <;> simp [va_rf]) (fun t ht _ => ⟨r, rfl, hp, ht⟩) (fun _ h => by cases h) hdg hk
theorem mi_retMi (S : CallFix p m c cc nL s args (w0 :: mi_G) own) (hr : meth.sig.returnType = some .int) (hk : meth.locks = false) (hS : va_S A s.heap H locs) {mc ms : Nat} {post : Int32 → Heap → Prop} {v : Int32} (hdg : decode cc pc = .ok (.ireturn, 1)) (hc : cells ≤ mc) (hs : slots ≤ ms) (hp : post v H) : W p l e R s m args below meth c H locs cells slots (MQ below (mi_Qi A post) args s mc ms A) (F0 m pc ls [.int v]) :=
  W.widen hc hs (W.iret S.1 S.2.1 hr (fun t ht _ => ⟨⟨v, rfl, by rw [ht]; exact hp⟩, hS.F ht⟩) hS.2.2 hdg hk)
theorem mi_retMz (S : CallFix p m c cc nL s args (w0 :: mi_G) own) (hr : meth.sig.returnType = some .boolean) (hk : meth.locks = false) (hS : va_S A s.heap H locs) {mc ms : Nat} {post : Int32 → Heap → Prop} {v : Int32} (hdg : decode cc pc = .ok (.ireturn, 1)) (hn : narrow .boolean (.int v) = .int v) (hc : cells ≤ mc) (hs : slots ≤ ms) (hp : post v H) : W p l e R s m args below meth c H locs cells slots (MQ below (mi_Qi A post) args s mc ms A) (F0 m pc ls [.int v]) :=
  W.widen hc hs (W.zret S.1 S.2.1 hr hn (fun t ht _ => ⟨⟨v, rfl, by rw [ht]; exact hp⟩, hS.F ht⟩) hS.2.2 hdg hk)
theorem mi_retMv (S : CallFix p m c cc nL s args (w0 :: mi_G) own) (hr : meth.sig.returnType = none) (hk : meth.locks = false) (hS : va_S A s.heap H locs) {mc ms : Nat} {post : Heap → Prop} (hdg : decode cc pc = .ok (.return_, 1)) (hc : cells ≤ mc) (hs : slots ≤ ms) (hp : post H) : W p l e R s m args below meth c H locs cells slots (MQ below (mi_Qv A post) args s mc ms A) (F0 m pc ls []) :=
  W.widen hc hs (W.vret S.1 S.2.1 hr (fun t ht _ => ⟨⟨rfl, by rw [ht]; exact hp⟩, hS.F ht⟩) hS.2.2 hdg hk)
theorem mi_retMr (S : CallFix p m c cc nL s args (w0 :: mi_G) own) {rt : FieldType} (hr : meth.sig.returnType = some rt) (hrt : (∃ n, rt = .object n) ∨ ∃ t, rt = .array t) (hk : meth.locks = false) (hS : va_S A s.heap H locs) {mc ms : Nat} {post : Nat → Heap → Prop} {v : Nat} (hdg : decode cc pc = .ok (.areturn, 1)) (hc : cells ≤ mc) (hs : slots ≤ ms) (hp : post v H) : W p l e R s m args below meth c H locs cells slots (MQ below (mi_Qr A post) args s mc ms A) (F0 m pc ls [.ref v]) :=
  W.widen hc hs (W.aret S.1 S.2.1 hr hrt (Or.inr ⟨v, rfl⟩) (fun t ht _ => ⟨⟨v, rfl, by rw [ht]; exact hp⟩, hS.F ht⟩) hS.2.2 hdg hk)
/-- behind a call -/
theorem mi_cR {post : Int32 → Prop} (hr : va_Run p l e R s m args below meth c H locs cells slots 0 0 (F0 m pc ls st0) rest (vp_Si post a) (fun _ => False))
    (kk : ∀ r : Int32, post r → W p l e R s m args below meth c H locs cells slots Q (F0 m (pc + 3) ls (.int r :: rest))) : W p l e R s m args below meth c H locs cells slots Q (F0 m pc ls st0) := by
  intro T hT X
  obtain ⟨v, st₀, t, T', L, h0, X', hL, e1, e2, ⟨r, hv, hp, hb⟩, st⟩ := hr T hT X
  cases hv
  have hL0 : L = [] := by
    cases L with
    | nil => rfl
    | cons q L => exact absurd (hL q List.mem_cons_self) (fun h => h)
  subst hL0
  rw [List.append_nil] at X'
  obtain ⟨t2, a1, b1⟩ := kk r hp T' (by rw [e1, hb, h0]) X'
  exact ⟨t2, st t2 a1, b1⟩
theorem mi_cQ {post : Option Nat → Prop} (hr : va_Run p l e R s m args below meth c H locs cells slots 0 0 (F0 m pc ls st0) rest (va_Sq post a) (fun _ => False))
    (kk : ∀ r : Option Nat, post r → W p l e R s m args below meth c H locs cells slots Q (F0 m (pc + 3) ls (va_rf r :: rest))) : W p l e R s m args below meth c H locs cells slots Q (F0 m pc ls st0) := by
  intro T hT X
  obtain ⟨v, st₀, t, T', L, h0, X', hL, e1, e2, ⟨r, hv, hp, hb⟩, st⟩ := hr T hT X
  cases hv
  have hL0 : L = [] := by
    cases L with
    | nil => rfl
    | cons q L => exact absurd (hL q List.mem_cons_self) (fun h => h)
  subst hL0
  rw [List.append_nil] at X'
  obtain ⟨t2, a1, b1⟩ := kk r hp T' (by rw [e1, hb, h0]) X'
  exact ⟨t2, st t2 a1, b1⟩
theorem mi_cV (hr : va_Run p l e R s m args below meth c H locs cells slots 0 0 (F0 m pc ls st0) rest (va_Sv (fun _ => True) a) (fun _ => False))
    (kk : W p l e R s m args below meth c H locs cells slots Q (F0 m (pc + 3) ls rest)) : W p l e R s m args below meth c H locs cells slots Q (F0 m pc ls st0) := by
  intro T hT X
  obtain ⟨v, st₀, t, T', L, h0, X', hL, e1, e2, ⟨hv, hp, hb⟩, st⟩ := hr T hT X
  cases hv
  have hL0 : L = [] := by
    cases L with
    | nil => rfl
    | cons q L => exact absurd (hL q List.mem_cons_self) (fun h => h)
  subst hL0
  rw [List.append_nil] at X'
  obtain ⟨t2, a1, b1⟩ := kk T' (by rw [e1, hb, h0]) X'
  exact ⟨t2, st t2 a1, b1⟩
theorem mi_keepA {st₀ t T' : State} {L : List Loc} (h0 : st₀.heap = H) (e1 : T'.heap = t.heap) (hS : va_S A s.heap H locs) (hL : ∀ q ∈ L, A q.base) (hF : va_F A st₀ t) : H.size ≤ T'.heap.size ∧ va_S A s.heap T'.heap (locs ++ L) := by
  obtain ⟨k1, k2, k3⟩ := vx_keep h0 e1 hS (fun _ _ h => h) (fun _ h => h) hL hF
  exact ⟨k1, k3⟩
theorem mi_cMi {mc ms : Nat} {post : Int32 → Heap → Prop} (hr : va_Run p l e R s m args below meth c H locs cells slots mc ms (F0 m pc ls st0) rest (mi_Qi A post a) A) (hS : va_S A s.heap H locs)
    (kk : ∀ (r : Int32) (H1 : Heap) (locs1 : List Loc), post r H1 → va_S A s.heap H1 locs1 → H.size ≤ H1.size → W p l e R s m args below meth c H1 locs1 (cells + mc) (slots + ms) Q (F0 m (pc + 3) ls (.int r :: rest))) : W p l e R s m args below meth c H locs cells slots Q (F0 m pc ls st0) := by
  intro T hT X
  obtain ⟨v, st₀, t, T', L, h0, X', hL, e1, e2, ⟨⟨r, hv, hp⟩, hF⟩, st⟩ := hr T hT X
  cases hv
  obtain ⟨k1, k3⟩ := mi_keepA h0 e1 hS hL hF
  obtain ⟨t2, a1, b1⟩ := kk r T'.heap (locs ++ L) (by rw [e1]; exact hp) k3 k1 T' rfl X'
  exact ⟨t2, st t2 a1, b1⟩
theorem mi_cMv {mc ms : Nat} {post : Heap → Prop} (hr : va_Run p l e R s m args below meth c H locs cells slots mc ms (F0 m pc ls st0) rest (mi_Qv A post a) A) (hS : va_S A s.heap H locs)
    (kk : ∀ (H1 : Heap) (locs1 : List Loc), post H1 → va_S A s.heap H1 locs1 → H.size ≤ H1.size → W p l e R s m args below meth c H1 locs1 (cells + mc) (slots + ms) Q (F0 m (pc + 3) ls rest)) : W p l e R s m args below meth c H locs cells slots Q (F0 m pc ls st0) := by
  intro T hT X
  obtain ⟨v, st₀, t, T', L, h0, X', hL, e1, e2, ⟨⟨hv, hp⟩, hF⟩, st⟩ := hr T hT X
  cases hv
  obtain ⟨k1, k3⟩ := mi_keepA h0 e1 hS hL hF
  obtain ⟨t2, a1, b1⟩ := kk T'.heap (locs ++ L) (by rw [e1]; exact hp) k3 k1 T' rfl X'
  exact ⟨t2, st t2 a1, b1⟩
theorem mi_cMr {mc ms : Nat} {post : Nat → Heap → Prop} (hr : va_Run p l e R s m args below meth c H locs cells slots mc ms (F0 m pc ls st0) rest (mi_Qr A post a) A) (hS : va_S A s.heap H locs)
    (kk : ∀ (r : Nat) (H1 : Heap) (locs1 : List Loc), post r H1 → va_S A s.heap H1 locs1 → H.size ≤ H1.size → W p l e R s m args below meth c H1 locs1 (cells + mc) (slots + ms) Q (F0 m (pc + 3) ls (.ref r :: rest))) : W p l e R s m args below meth c H locs cells slots Q (F0 m pc ls st0) := by
  intro T hT X
  obtain ⟨v, st₀, t, T', L, h0, X', hL, e1, e2, ⟨⟨r, hv, hp⟩, hF⟩, st⟩ := hr T hT X
  cases hv
  obtain ⟨k1, k3⟩ := mi_keepA h0 e1 hS hL hF
  obtain ⟨t2, a1, b1⟩ := kk r T'.heap (locs ++ L) (by rw [e1]; exact hp) k3 k1 T' rfl X'
  exact ⟨t2, st t2 a1, b1⟩
theorem mi_cTh {mc ms : Nat} {Ex : String} (hr : vx_Run p l e R s m args below meth c H locs cells slots mc ms (F0 m pc ls st0) rest (mi_QX A a) (mi_XX A P Ex) A) (hS : va_S A s.heap H locs)
    (kx : ∀ (ce : Cell) (q9 : Addr) (H1 : Heap) (locs1 : List Loc), P H1 → va_S A s.heap H1 locs1 → H1[q9]? = some ce → ce.vm = .none → s.vm.findClass Ex = some ce.cls → vx_W p l e R s m args below meth c H1 locs1 (cells + mc) (slots + ms) Q (F0 m pc ls rest) q9) : W p l e R s m args below meth c H locs cells slots Q (F0 m pc ls st0) :=
  vx_callv hr hS (fun _ _ h => h) (fun _ h => h) (fun _ _ h => h)
    (fun E ce q9 _ t H1 locs1 ht _ _ hB _ _ hS1 h1 h2 h3 => by
      obtain ⟨rfl, hB⟩ := hB
      exact kx ce q9 H1 locs1 (by rw [← ht]; exact hB) hS1 h1 h2 h3)
    (fun _ _ _ _ _ _ hp => absurd hp (fun h => h))
/-- the exception goes on to the caller -/
theorem mi_out {mc ms : Nat} {Ex : String} {ce : Cell} {q9 : Addr} (hno : ∀ x ∈ c.exceptionTable.toList, False) (hk : meth.locks = false) (hW : P H) (hS : va_S A s.heap H locs) (h1 : H[q9]? = some ce) (h2 : ce.vm = .none) (h3 : s.vm.findClass Ex = some ce.cls) (hc : cells ≤ mc) (hs : slots ≤ ms) : vx_W p l e R s m args below meth c H locs cells slots (vx_MQ below (mi_QX A) (mi_XX A P Ex) args s mc ms A) (F0 m pc ls rest) q9 :=
  vx_out (fun x hx => absurd (hno x hx) (fun h => h)) hk h1 h2 h3 (fun t ht _ => ⟨(), trivial, ⟨rfl, by rw [ht]; exact hW⟩, hS.F ht⟩) hS.2.2 hc hs
variable {y : MethodName} {bytes : ByteArray} {maxL mc ms n idx : Nat} {ret : Option FieldType} {rm : Room} {Qc : Array Value → State → Outcome → State → Prop} {XC : String → State → State → Prop} {free : Addr → Prop} {As : List Value} {C : String} {Pc : Array Value → State → Prop}
theorem mi_callB (S : CallFix p m c cc nL s args (w0 :: mi_G) own) (hc : Cond.code y bytes maxL ret ∈ mi_G) (hl : Cond.methodLink own idx y ∈ mi_G) (hi : Cond.initialized y.cls ∈ mi_G) (hd : y.cls ≠ "java/lang/invoke/MethodHandle" ∧ y.cls ≠ "java/lang/invoke/VarHandle" ∧ (parseMethodDescriptor y.desc).map (fun d => d.parameters.length) = some n) (hR : rm.cells = mc ∧ rm.slots = ms ∧ rm.frames + 1 ≤ R.frames ∧ 8 + (maxL + 11) + rm.locals ≤ R.locals) : CallB R s args own idx y bytes maxL ret (Cond.code y bytes maxL ret :: mi_G) rm mc ms n :=
  callB_of n S.2.2.2.2 (mi_goodC hc) rfl hR.1 hR.2.1 (S.2.2.2.2 _ (List.mem_cons_of_mem _ hi)) (S.2.2.2.2 _ (List.mem_cons_of_mem _ hl)) hd hR.2.2
theorem mi_preS (E : mi_E D A s) (hS : va_S A s.heap H locs) (hW : P H) {av : List Value} : PreS s H (mi_Pc D A P av) av := ⟨mi_blind, fun U hU hWU => ⟨rfl, E.at hS hU hWU, by rw [hU]; exact hW⟩⟩
theorem mi_runV (S : CallFix p m c cc nL s args (w0 :: mi_G) own) (E : mi_E D A s) (hS : va_S A s.heap H locs) (hW : P H) (b : Nat) (hM : Met l y (Cond.code y bytes maxL ret :: mi_G) rm (mi_Pc D A P (.ref b :: As)) Qc mc ms free) (hrecv : ∃ cell : Cell, H[b]? = some cell ∧ cell.vm.isStatics = false ∧ s.vm.findClass y.cls = some cell.cls) (hc : Cond.code y bytes maxL ret ∈ mi_G) (hl : Cond.methodLink own idx y ∈ mi_G) (hin : Cond.instanceMethod y ∈ mi_G) (hse : Cond.selects y.cls y y ∈ mi_G) (hi : Cond.initialized y.cls ∈ mi_G)
    (hd : y.cls ≠ "java/lang/invoke/MethodHandle" ∧ y.cls ≠ "java/lang/invoke/VarHandle" ∧ (parseMethodDescriptor y.desc).map (fun d => d.parameters.length) = some n) (hR : rm.cells = mc ∧ rm.slots = ms ∧ rm.frames + 1 ≤ R.frames ∧ 8 + (maxL + 11) + rm.locals ≤ R.locals) (hn : As.length = n) (hsize : ls.size = nL) (hstack : st0 = As.reverse ++ (.ref b) :: rest) (hrest : (rest.map fun v => v.category).sum ≤ 8) (hdg : decode cc pc = .ok (.invokevirtual idx, 3)) (hf : cells + mc ≤ R.cells ∧ slots + ms ≤ R.slots) :
    va_Run p l e R s m args below meth c H locs cells slots mc ms (F0 m pc ls st0) rest (Qc (Value.ref b :: As).toArray) free :=
  va_runV (n := n) (C := y.cls) S hM ⟨mi_callB S hc hl hi hd hR, S.2.2.2.2 _ (List.mem_cons_of_mem _ hin), S.2.2.2.2 _ (List.mem_cons_of_mem _ hse)⟩ ⟨mi_blind, hrecv, (mi_preS E hS hW).2⟩ rfl hn hsize hstack (lv_room hrest) hdg hf
theorem mi_runI (S : CallFix p m c cc nL s args (w0 :: mi_G) own) (E : mi_E D A s) (hS : va_S A s.heap H locs) (hW : P H) (b : Nat) (hM : Met l y (Cond.code y bytes maxL none :: mi_G) rm (mi_Pc D A P (.ref b :: As)) Qc mc ms free) (hc : Cond.code y bytes maxL none ∈ mi_G) (hl : Cond.methodLink own idx y ∈ mi_G) (hin : Cond.instanceMethod y ∈ mi_G) (hi : Cond.initialized y.cls ∈ mi_G) (hy : y.name = "<init>")
    (hd : y.cls ≠ "java/lang/invoke/MethodHandle" ∧ y.cls ≠ "java/lang/invoke/VarHandle" ∧ (parseMethodDescriptor y.desc).map (fun d => d.parameters.length) = some n) (hR : rm.cells = mc ∧ rm.slots = ms ∧ rm.frames + 1 ≤ R.frames ∧ 8 + (maxL + 11) + rm.locals ≤ R.locals) (hn : As.length = n) (hsize : ls.size = nL) (hstack : st0 = As.reverse ++ .ref b :: rest) (hrest : (rest.map fun v => v.category).sum ≤ 8) (hdg : decode cc pc = .ok (.invokespecial idx, 3)) (hf : cells + mc ≤ R.cells ∧ slots + ms ≤ R.slots) :
    va_Run p l e R s m args below meth c H locs cells slots mc ms (F0 m pc ls st0) rest (Qc (Value.ref b :: As).toArray) free :=
  va_runI (n := n) S hM ⟨mi_callB S hc hl hi hd hR, hy, S.2.2.2.2 _ (List.mem_cons_of_mem _ hin)⟩ (mi_preS E hS hW) rfl hn hsize hstack (lv_room hrest) hdg hf
theorem mi_runS (S : CallFix p m c cc nL s args (w0 :: mi_G) own) (E : mi_E D A s) (hS : va_S A s.heap H locs) (hW : P H) (hM : Met l y (Cond.code y bytes maxL ret :: mi_G) rm (mi_Pc D A P As) Qc mc ms free) (hc : Cond.code y bytes maxL ret ∈ mi_G) (hl : Cond.methodLink own idx y ∈ mi_G) (hst : Cond.static y ∈ mi_G) (hi : Cond.initialized y.cls ∈ mi_G)
    (hd : y.cls ≠ "java/lang/invoke/MethodHandle" ∧ y.cls ≠ "java/lang/invoke/VarHandle" ∧ (parseMethodDescriptor y.desc).map (fun d => d.parameters.length) = some n) (hR : rm.cells = mc ∧ rm.slots = ms ∧ rm.frames + 1 ≤ R.frames ∧ 8 + (maxL + 11) + rm.locals ≤ R.locals) (hn : As.length = n) (hsize : ls.size = nL) (hstack : st0 = As.reverse ++ rest) (hrest : (rest.map fun v => v.category).sum ≤ 8) (hdg : decode cc pc = .ok (.invokestatic idx, 3)) (hf : cells + mc ≤ R.cells ∧ slots + ms ≤ R.slots) :
    va_Run p l e R s m args below meth c H locs cells slots mc ms (F0 m pc ls st0) rest (Qc As.toArray) free :=
  va_runS (n := n) S hM ⟨mi_callB S hc hl hi hd hR, S.2.2.2.2 _ (List.mem_cons_of_mem _ hst)⟩ (mi_preS E hS hW) rfl hn hsize hstack (lv_room hrest) hdg hf
/-- a private static of the host's -/
theorem mi_runN (S : CallFix p m c cc nL s args (w0 :: mi_G) own) (E : mi_E D A s) (hS : va_S A s.heap H locs) (hW : P H) (hM : Met l y (Cond.code y bytes maxL ret :: mi_G) rm (mi_Pc D A P As) Qc mc ms free) (hne : (own, idx, y) ∈ mi_nests) (hc : Cond.code y bytes maxL ret ∈ mi_G) (hst : Cond.static y ∈ mi_G) (hi : Cond.initialized y.cls ∈ mi_G)
    (hd : y.cls ≠ "java/lang/invoke/MethodHandle" ∧ y.cls ≠ "java/lang/invoke/VarHandle" ∧ (parseMethodDescriptor y.desc).map (fun d => d.parameters.length) = some n) (hR : rm.cells = mc ∧ rm.slots = ms ∧ rm.frames + 1 ≤ R.frames ∧ 8 + (maxL + 11) + rm.locals ≤ R.locals) (hn : As.length = n) (hsize : ls.size = nL) (hstack : st0 = As.reverse ++ rest) (hrest : (rest.map fun v => v.category).sum ≤ 8) (hdg : decode cc pc = .ok (.invokestatic idx, 3)) (hf : cells + mc ≤ R.cells ∧ slots + ms ≤ R.slots) :
    va_Run p l e R s m args below meth c H locs cells slots mc ms (F0 m pc ls st0) rest (Qc As.toArray) free :=
  va_runSN (n := n) (host := RX4) S hM ⟨va_cnB n S.2.2.2.2 (mi_goodC hc) rfl hR.1 hR.2.1 (E.2.1 _ hne) (S.2.2.2.2 _ (List.mem_cons_of_mem _ hi)) hd hR.2.2, S.2.2.2.2 _ (List.mem_cons_of_mem _ hst), trivial⟩ (mi_preS E hS hW) rfl hn hsize hstack (lv_room hrest) hdg hf
theorem mi_runVX (S : CallFix p m c cc nL s args (w0 :: mi_G) own) (E : mi_E D A s) (hS : va_S A s.heap H locs) (hW : P H) (b : Nat) (hM : vx_Met l y (Cond.code y bytes maxL ret :: mi_G) rm (mi_Pc D A P (.ref b :: As)) Qc XC mc ms free) (hrecv : ∃ cell : Cell, H[b]? = some cell ∧ cell.vm.isStatics = false ∧ s.vm.findClass y.cls = some cell.cls) (hc : Cond.code y bytes maxL ret ∈ mi_G) (hl : Cond.methodLink own idx y ∈ mi_G) (hin : Cond.instanceMethod y ∈ mi_G) (hse : Cond.selects y.cls y y ∈ mi_G) (hi : Cond.initialized y.cls ∈ mi_G)
    (hd : y.cls ≠ "java/lang/invoke/MethodHandle" ∧ y.cls ≠ "java/lang/invoke/VarHandle" ∧ (parseMethodDescriptor y.desc).map (fun d => d.parameters.length) = some n) (hR : rm.cells = mc ∧ rm.slots = ms ∧ rm.frames + 1 ≤ R.frames ∧ 8 + (maxL + 11) + rm.locals ≤ R.locals) (hn : As.length = n) (hsize : ls.size = nL) (hstack : st0 = As.reverse ++ (.ref b) :: rest) (hrest : (rest.map fun v => v.category).sum ≤ 8) (hdg : decode cc pc = .ok (.invokevirtual idx, 3)) (hf : cells + mc ≤ R.cells ∧ slots + ms ≤ R.slots) :
    vx_Run p l e R s m args below meth c H locs cells slots mc ms (F0 m pc ls st0) rest (Qc (Value.ref b :: As).toArray) XC free :=
  vx_runV (n := n) (C := y.cls) S hM ⟨mi_callB S hc hl hi hd hR, S.2.2.2.2 _ (List.mem_cons_of_mem _ hin), S.2.2.2.2 _ (List.mem_cons_of_mem _ hse)⟩ ⟨mi_blind, hrecv, (mi_preS E hS hW).2⟩ rfl hn hsize hstack (lv_room hrest) hdg hf
theorem mi_runSX (S : CallFix p m c cc nL s args (w0 :: mi_G) own) (E : mi_E D A s) (hS : va_S A s.heap H locs) (hW : P H) (hM : vx_Met l y (Cond.code y bytes maxL ret :: mi_G) rm (mi_Pc D A P As) Qc XC mc ms free) (hc : Cond.code y bytes maxL ret ∈ mi_G) (hl : Cond.methodLink own idx y ∈ mi_G) (hst : Cond.static y ∈ mi_G) (hi : Cond.initialized y.cls ∈ mi_G)
    (hd : y.cls ≠ "java/lang/invoke/MethodHandle" ∧ y.cls ≠ "java/lang/invoke/VarHandle" ∧ (parseMethodDescriptor y.desc).map (fun d => d.parameters.length) = some n) (hR : rm.cells = mc ∧ rm.slots = ms ∧ rm.frames + 1 ≤ R.frames ∧ 8 + (maxL + 11) + rm.locals ≤ R.locals) (hn : As.length = n) (hsize : ls.size = nL) (hstack : st0 = As.reverse ++ rest) (hrest : (rest.map fun v => v.category).sum ≤ 8) (hdg : decode cc pc = .ok (.invokestatic idx, 3)) (hf : cells + mc ≤ R.cells ∧ slots + ms ≤ R.slots) :
    vx_Run p l e R s m args below meth c H locs cells slots mc ms (F0 m pc ls st0) rest (Qc As.toArray) XC free :=
  vx_runS (n := n) S hM ⟨mi_callB S hc hl hi hd hR, S.2.2.2.2 _ (List.mem_cons_of_mem _ hst)⟩ (mi_preS E hS hW) rfl hn hsize hstack (lv_room hrest) hdg hf
end MIC
/-- a contract says less -/
theorem mi_lessI {l : Launch} {y : MethodName} {w : Cond} {rm : Room} {D : va_G} {A : Nat → Prop} {P : Heap → Prop} {av : List Value} {mc ms : Nat} {post post' : Int32 → Heap → Prop} (h : mi_Mi l y w rm D A P av mc ms post) (hp : ∀ r H, post r H → post' r H) : mi_Mi l y w rm D A P av mc ms post' := by
  intro p e h1 h2 h3 s m args below h4 h5 h6 h7
  obtain ⟨n, o, g1, g2, g3, ⟨⟨r, e1, e2⟩, e3⟩, g4⟩ := h p e h1 h2 h3 s m args below h4 h5 h6 h7
  exact ⟨n, o, g1, g2, g3, ⟨⟨r, e1, hp _ _ e2⟩, e3⟩, g4⟩
theorem mi_lessV {l : Launch} {y : MethodName} {w : Cond} {rm : Room} {D : va_G} {A : Nat → Prop} {P : Heap → Prop} {av : List Value} {mc ms : Nat} {post post' : Heap → Prop} (h : mi_Mv l y w rm D A P av mc ms post) (hp : ∀ H, post H → post' H) : mi_Mv l y w rm D A P av mc ms post' := by
  intro p e h1 h2 h3 s m args below h4 h5 h6 h7
  obtain ⟨n, o, g1, g2, g3, ⟨⟨e1, e2⟩, e3⟩, g4⟩ := h p e h1 h2 h3 s m args below h4 h5 h6 h7
  exact ⟨n, o, g1, g2, g3, ⟨⟨e1, hp _ e2⟩, e3⟩, g4⟩
