/-! a call of the class; methods with a table of exceptions; the law's numbers -/
theorem mi_RM {l : Launch} {y : MethodName} {w : Cond} {rm : Room} {D : va_G} {A : Nat → Prop} {P : Heap → Prop} {av : List Value} {post : Int32 → Prop} (h : mi_Rd l y w rm D A P av post) : mi_Mi l y w rm D A P av 0 0 (fun r H => post r ∧ P H) := by
  intro p e h1 h2 h3 s m args below h4 h5 h6 h7
  obtain ⟨n, o, g1, g2, g3, ⟨r, e1, e2, e3⟩, L, g4, g5⟩ := h p e h1 h2 h3 s m args below h4 h5 h6 h7
  exact ⟨n, o, g1, g2, g3, ⟨⟨r, e1, e2, by rw [e3]; exact h6.2.2⟩, by rw [e3]; exact Nat.le_refl _, fun q _ _ => by rw [e3]⟩, L, g4, fun q hq => absurd (g5 q hq) (fun z => z)⟩
theorem mi_thX {l : Launch} {y : MethodName} {ws : List Cond} {rm : Room} {Pc : Array Value → State → Prop} {A : Nat → Prop} {P P' : Heap → Prop} {Ex : String} {mc ms : Nat} (h : vx_Met l y ws rm Pc (mi_QX A) (mi_XX A P Ex) mc ms A) (hp : ∀ H, P H → P' H) : vx_Met l y ws rm Pc (mi_QX A) (mi_XX A P' Ex) mc ms A := by
  intro p e h1 h2 h3 s m args below h4 h5 h6 h7
  obtain ⟨n, o, g1, g2, g3, g4⟩ := h p e h1 h2 h3 s m args below h4 h5 h6 h7
  refine ⟨n, o, g1, g2, g3, ?_⟩
  rcases g4 with g4 | ⟨q, e1, E, ce, L, ⟨u, p1, ⟨p2, p3⟩, p4⟩, g5⟩
  · exact Or.inl g4
  · exact Or.inr ⟨q, e1, E, ce, L, ⟨u, p1, ⟨p2, hp _ p3⟩, p4⟩, g5⟩
/-- the class's: it answers a (k = 0), or throws the exception of the k-th row; S' holds then -/
def lw_Cl (l : Launch) (D : va_G) (A : Nat → Prop) (ad : Nat → Nat) (cf : Nat → Option va_E) (y : MethodName) (w : Cond) (av : List Value) (ex : Nat → String) (k : Nat) (a : Int32) (S' : sT) : Prop :=
  (k = 0 ∧ ∃ d mc ms, d ≤ 8 ∧ mc ≤ 6 ∧ ms ≤ 2019 ∧ mi_Mi l y w (mi_rq d mc ms) D A (mi_W D A ad cf) av mc ms (fun r H => r = a ∧ rx_P D A S' ad cf H)) ∨
  (k ≠ 0 ∧ ∃ d, d ≤ 8 ∧ vx_Met l y (w :: mi_G) (mi_rq d 1 6) (mi_Pc D A (mi_W D A ad cf) av) (mi_QX A) (mi_XX A (rx_P D A S' ad cf) (ex k)) 1 6 A)
section LWC
variable {l : Launch} {D : va_G} {A : Nat → Prop} {ad : Nat → Nat} {cf : Nat → Option va_E} {y : MethodName} {w : Cond} {av : List Value} {ex : Nat → String} {k : Nat} {a : Int32} {S S' : sT} {Ex : String}
theorem lw_clM {d mc ms : Nat} (hd : d ≤ 8 ∧ mc ≤ 6 ∧ ms ≤ 2019) (h : mi_Mi l y w (mi_rq d mc ms) D A (mi_W D A ad cf) av mc ms (fun r H => r = a ∧ rx_P D A S' ad cf H)) : lw_Cl l D A ad cf y w av ex 0 a S' := Or.inl ⟨rfl, d, mc, ms, hd.1, hd.2.1, hd.2.2, h⟩
theorem lw_clR {d : Nat} (hd : d ≤ 8) (hX : RepX D S ad cf) (h : mi_Rd l y w (mi_rm d) D A (mi_W D A ad cf) av (fun r => r = a)) : lw_Cl l D A ad cf y w av ex 0 a S :=
  lw_clM (d := d) (mc := 0) (ms := 0) ⟨hd, Nat.zero_le _, Nat.zero_le _⟩ (mi_lessI (mi_RM h) (fun r H h => ⟨h.1, ad, cf, h.2, hX, rx_fr.rf, rfl⟩))
theorem lw_clX {d : Nat} (hd : d ≤ 8) (hk : k ≠ 0) (he : ex k = Ex) (h : vx_Met l y (w :: mi_G) (mi_rq d 1 6) (mi_Pc D A (mi_W D A ad cf) av) (mi_QX A) (mi_XX A (rx_P D A S' ad cf) Ex) 1 6 A) : lw_Cl l D A ad cf y w av ex k a S' := by
  subst he
  exact Or.inr ⟨hk, d, hd, h⟩
theorem lw_clT {d : Nat} (hd : d ≤ 8) (hk : k ≠ 0) (he : ex k = Ex) (hX : RepX D S ad cf) (h : mi_Th l y w (mi_rq d 1 6) D A (mi_W D A ad cf) av Ex 1 6) : lw_Cl l D A ad cf y w av ex k a S :=
  lw_clX hd hk he (mi_thX h (fun H h => ⟨ad, cf, h, hX, rx_fr.rf, rfl⟩))
end LWC
/-- which exception the k-th row takes -/
def lw_ex3 (k : Nat) : String := if k = 1 then mi_IO else if k = 2 then mi_IA else mi_IS
def lw_ex2 (k : Nat) : String := if k = 1 then mi_IO else mi_IS
def lw_exO (_ : Nat) : String := mi_IO
def lw_exS (_ : Nat) : String := mi_IS
theorem lw_nat {x : Int32} {n : Nat} (h : 0 ≤ x.toInt ∧ x.toInt < n) (hn : n ≤ 1000) : ∃ a : Nat, (a : Int) = x.toInt ∧ x = nI a := by
  refine ⟨x.toInt.toNat, by omega, Int32.toInt_inj.mp ?_⟩
  rw [nI_toInt (by omega)]
  omega
theorem lw_31 (x : Int32) : ∃ n : Nat, n < 32 ∧ x &&& nI 31 = nI n := by
  refine ⟨(x.toBitVec &&& 31#32).toNat, ?_, Int32.toBitVec_inj.mp ?_⟩
  · rw [BitVec.toNat_and]
    exact Nat.lt_of_le_of_lt Nat.and_le_right (by decide)
  · rw [Int32.toBitVec_and]
    show x.toBitVec &&& 31#32 = BitVec.ofNat 32 (x.toBitVec &&& 31#32).toNat
    rw [BitVec.ofNat_toNat, BitVec.setWidth_eq]
theorem RepX.o0 {D : va_G} {S : sT} {ad : Nat → Nat} {cf : Nat → Option va_E} (h : RepX D S ad cf) : ∃ fs, cf 0 = some (.inr (5, fs)) := ⟨_, h.1⟩
/-- a method with a table of its own -/
theorem mi_startH {l : Launch} {y : MethodName} {w : Cond} {cc : ByteArray} {nL : Nat} {ret : Option FieldType} {hh : List (Nat × Nat × Nat × Nat)} {rm : Room} {D : va_G} {A : Nat → Prop} {P : Heap → Prop} {av : List Value} {Qc : Array Value → State → Outcome → State → Prop} {mc ms : Nat} {free : Nat → Prop} (hw : w = Cond.codeWith y cc nL ret hh) (hy : plainName y.cls = true) (hlen : (lg_sl av).length ≤ nL)
    (body : ∀ (p : Program) (e : Env) (s : State) (m : MethodId) (below : List Frame) (meth : Method) (c : Code) (ls : Array Slot), CallFix p m c cc nL s av.toArray (w :: mi_G) y.cls → mi_E D A s → P s.heap → va_S A s.heap s.heap [] → meth.sig.returnType = ret → meth.locks = false → c.exceptionTable.toList = tableOf hh → lv_has ls nL (lv_args 0 av) →
      W p l e rm s m av.toArray below meth c s.heap [] 0 0 (MQ below Qc av.toArray s mc ms free) (F0 m 0 ls [])) : Met l y (w :: mi_G) rm (mi_Pc D A P av) Qc mc ms free := by
  subst hw
  refine MetFree.of_bodyS (code := cc) (maxLocals := nL) (ret := ret) hy ?_ ?_
  · intro args s m h hn
    obtain ⟨m9, meth, c, hn9, h1, h2, h3, h4, -, h5, h6, -⟩ := Cond.codeWith_spec (atoms_spec (ws := Cond.codeWith y cc nL ret hh :: mi_G) h _ List.mem_cons_self)
    cases hn.symm.trans hn9
    exact ⟨meth, c, h1, h2, h3, h4, h5, h6⟩
  · intro p e s m args below meth c s₁ B hml hv _
    obtain ⟨rfl, hE, hW⟩ := hv
    have hh0 : s₁.heap = s.heap := by rw [B.state]; rfl
    have hts := atoms_spec (ws := Cond.codeWith y cc nL ret hh :: mi_G) B.pre
    have hl := lv_entry av (n := nL) hlen
    have k := body p e s m below meth c _ ⟨B.exec, B.bytes, hml, findClass_of_methodNamed B.named, hts⟩ hE hW va_S.rf B.returns B.notSynchronized (vx_table (x := y) B (hts _ List.mem_cons_self)) hl
    rw [← lg_entry_eq] at k
    obtain ⟨t, a1, o, b1, b2, b3⟩ := k s₁ hh0 (Stand.of_body B)
    exact ⟨t, o, a1, b1, b2, ⟨b3.1, b3.2⟩⟩
section MIH2
variable {p : Program} {l : Launch} {e : Env} {R : Room} {s : State} {m : MethodId} {args : Array Value} {below : List Frame} {meth : Method} {c : Code} {H : Heap} {locs : List Loc} {cells slots : Nat} {Q : State → Prop}
variable {cc : ByteArray} {pc nL : Nat} {ls : Array Slot} {rest st0 : List Value} {D : va_G} {A : Nat → Prop} {P : Heap → Prop} {w0 : Cond} {own : String}
variable {y : MethodName} {bytes : ByteArray} {maxL mc ms n idx : Nat} {ret : Option FieldType} {rm : Room} {Qc : Array Value → State → Outcome → State → Prop} {free : Addr → Prop} {As : List Value}
theorem mi_runSH {hh : List (Nat × Nat × Nat × Nat)} (S : CallFix p m c cc nL s args (w0 :: mi_G) own) (E : mi_E D A s) (hS : va_S A s.heap H locs) (hW : P H) (hM : Met l y (Cond.codeWith y bytes maxL ret hh :: mi_G) rm (mi_Pc D A P As) Qc mc ms free) (hc : Cond.codeWith y bytes maxL ret hh ∈ mi_G) (hl : Cond.methodLink own idx y ∈ mi_G) (hst : Cond.static y ∈ mi_G) (hi : Cond.initialized y.cls ∈ mi_G)
    (hd : y.cls ≠ "java/lang/invoke/MethodHandle" ∧ y.cls ≠ "java/lang/invoke/VarHandle" ∧ (parseMethodDescriptor y.desc).map (fun d => d.parameters.length) = some n) (hR : rm.cells = mc ∧ rm.slots = ms ∧ rm.frames + 1 ≤ R.frames ∧ 8 + (maxL + 11) + rm.locals ≤ R.locals) (hn : As.length = n) (hsize : ls.size = nL) (hstack : st0 = As.reverse ++ rest) (hrest : (rest.map fun v => v.category).sum ≤ 8) (hdg : decode cc pc = .ok (.invokestatic idx, 3)) (hf : cells + mc ≤ R.cells ∧ slots + ms ≤ R.slots) :
    va_Run p l e R s m args below meth c H locs cells slots mc ms (F0 m pc ls st0) rest (Qc As.toArray) free :=
  vx_runSW (n := n) (hh := hh) S hM (vx_cwSW n S.2.2.2.2 (mi_good (mi_cons hl (mi_cons hst (mi_cons hi (mi_cons hc (fun _ h => h)))))) rfl hR.1 hR.2.1 hd hR.2.2) (mi_preS E hS hW) rfl hn hsize hstack (lv_room hrest) hdg hf
/-- the script's i-th int -/
theorem lw_sld {b L i : Nat} {xs : Nat → Int32} (S : CallFix p m c cc nL s args (w0 :: mi_G) own) (hX : va_X b L xs s s.heap) (hbl : b < s.heap.size) (hS : va_S (fun q => s.heap.size ≤ q) s.heap H locs) (hi : i < L) (hL : L ≤ 260) (hdg : decode cc pc = .ok (.iaload, 1)) (kk : W p l e R s m args below meth c H locs cells slots Q (F0 m (pc + 1) ls (.int (xs i) :: rest))) : W p l e R s m args below meth c H locs cells slots Q (F0 m pc ls (.int (nI i) :: .ref b :: rest)) :=
  va_sld S.1 S.2.1 hX hbl (fun h => absurd hbl (Nat.not_lt.mpr h)) hS (vp_in_nI hi (by omega)) hdg (by rw [nI_clamp (by omega)]; exact kk)
end MIH2
