/-! the law's world: the class's objects hold T; its nine rows (1 b, 2 p, 3 d, 4 h, 5 w, 6 c, 7 v, 8 f, 9 g) hold gl (longs) and gi (ints); q the addresses (q 0 the object) -/
def mj_n (k : Nat) : Nat := if k = 1 then 64 else if k = 2 then 16 else if k = 3 then 8 else if k = 4 then 60 else if k = 5 then 8 else if k = 6 then 60 else if k = 9 then 4 else 16
theorem mj_n_lt (k : Nat) : mj_n k < 2 ^ 31 := by
  unfold mj_n
  repeat' split
  all_goals omega
abbrev mj_ik (k : Nat) : Prop := k = 2 ∨ k = 5 ∨ k = 6 ∨ k = 7 ∨ k = 8 ∨ k = 9
abbrev mj_lk (k : Nat) : Prop := k = 1 ∨ k = 3 ∨ k = 4
def mj_at (D : va_G) (ad : Nat → Nat) (cf : Nat → Option va_E) (q : Nat → Nat) (gl : Nat → Nat → Int64) (gi : Nat → Nat → Int32) : Prop :=
  (∀ k, 1 ≤ k → k ≤ 9 → ad (1000 + k) = q k) ∧ (∀ k, mj_ik k → cf (1000 + k) = some (mi_ai D (mj_n k) (gi k))) ∧ ∀ k, mj_lk k → cf (1000 + k) = some (mi_al D (mj_n k) (gl k))
theorem mj_at_keep {D : va_G} {ad ad1 : Nat → Nat} {cf cf1 : Nat → Option va_E} {q : Nat → Nat} {gl : Nat → Nat → Int64} {gi : Nat → Nat → Int32} (h : mj_at D ad cf q gl gi) (e : rx_fr ad cf ad1 cf1) : mj_at D ad1 cf1 q gl gi :=
  ⟨fun k h1 h2 => ((e _ (by omega)).2).trans (h.1 k h1 h2), fun k h1 => ((e _ (by omega)).1).trans (h.2.1 k h1), fun k h1 => ((e _ (by omega)).1).trans (h.2.2 k h1)⟩
def mj_W (D : va_G) (A : Nat → Prop) (q : Nat → Nat) (T : sT) (gl : Nat → Nat → Int64) (gi : Nat → Nat → Int32) (H : Heap) : Prop :=
  st_ok T ∧ ∃ ad cf, mi_W D A ad cf H ∧ RepX D T ad cf ∧ ad 0 = q 0 ∧ mj_at D ad cf q gl gi
theorem mj_W.recv {D : va_G} {A B : Nat → Prop} {q : Nat → Nat} {T : sT} {gl : Nat → Nat → Int64} {gi : Nat → Nat → Int32} {s : State} {H : Heap} (h : mj_W D A q T gl gi H) (E : mi_E D B s) : ∃ cell : Cell, H[q 0]? = some cell ∧ cell.vm.isStatics = false ∧ s.vm.findClass "Voxelmint" = some cell.cls := by
  obtain ⟨-, ad, cf, hW, hX, h0, -⟩ := h
  exact hW.recvA E h0 hX.1 rfl
section MJM
variable {l : Launch} {y : MethodName} {w : Cond} {ws : List Cond} {rm : Room} {D : va_G} {A : Nat → Prop} {q : Nat → Nat} {T T1 : sT} {gl : Nat → Nat → Int64} {gi : Nat → Nat → Int32} {av : List Value} {mc ms : Nat} {free : Nat → Prop} {a : Int32} {Ex : String}
theorem mj_Met {Qc : Array Value → State → Outcome → State → Prop} (h : st_ok T → ∀ ad cf, RepX D T ad cf → ad 0 = q 0 → mj_at D ad cf q gl gi → Met l y ws rm (mi_Pc D A (mi_W D A ad cf) av) Qc mc ms free) : Met l y ws rm (mi_Pc D A (mj_W D A q T gl gi) av) Qc mc ms free := by
  intro p e h1 h2 h3 s m args below h4 h5 h6 h7
  obtain ⟨ha, hE, hO, ad, cf, hW, hX, h0, hm⟩ := h6
  exact h hO ad cf hX h0 hm p e h1 h2 h3 s m args below h4 h5 ⟨ha, hE, hW⟩ h7
theorem mj_MetX {Qc : Array Value → State → Outcome → State → Prop} {XC : String → State → State → Prop} (h : st_ok T → ∀ ad cf, RepX D T ad cf → ad 0 = q 0 → mj_at D ad cf q gl gi → vx_Met l y ws rm (mi_Pc D A (mi_W D A ad cf) av) Qc XC mc ms free) : vx_Met l y ws rm (mi_Pc D A (mj_W D A q T gl gi) av) Qc XC mc ms free := by
  intro p e h1 h2 h3 s m args below h4 h5 h6 h7
  obtain ⟨ha, hE, hO, ad, cf, hW, hX, h0, hm⟩ := h6
  exact h hO ad cf hX h0 hm p e h1 h2 h3 s m args below h4 h5 ⟨ha, hE, hW⟩ h7
/-- a call that answers -/
theorem mj_cR {post : Int32 → Prop} (h : st_ok T → ∀ ad cf, RepX D T ad cf → mi_Rd l y w rm D A (mi_W D A ad cf) (.ref (ad 0) :: av) post) : mi_Rd l y w rm D A (mj_W D A q T gl gi) (.ref (q 0) :: av) post :=
  mj_Met (fun hO ad cf hX h0 _ => by rw [← h0]; exact h hO ad cf hX)
/-- a call that changes -/
theorem mj_cM (hO1 : st_ok T → st_ok T1) (h : st_ok T → ∀ ad cf, RepX D T ad cf → mi_Mi l y w rm D A (mi_W D A ad cf) (.ref (ad 0) :: av) mc ms (fun r H => r = a ∧ rx_P D A T1 ad cf H)) : mi_Mi l y w rm D A (mj_W D A q T gl gi) (.ref (q 0) :: av) mc ms (fun r H => r = a ∧ mj_W D A q T1 gl gi H) :=
  mj_Met (fun hO ad cf hX h0 hm => by
    rw [← h0]
    refine mi_lessI (h hO ad cf hX) (fun r H hp => ⟨hp.1, hO1 hO, ?_⟩)
    obtain ⟨-, ad1, cf1, hW1, hX1, hf1, a1⟩ := hp
    exact ⟨ad1, cf1, hW1, hX1, a1.trans h0, mj_at_keep hm hf1⟩)
/-- a call that throws -/
theorem mj_cT (h : st_ok T → ∀ ad cf, RepX D T ad cf → mi_Th l y w rm D A (mi_W D A ad cf) (.ref (ad 0) :: av) Ex mc ms) : mi_Th l y w rm D A (mj_W D A q T gl gi) (.ref (q 0) :: av) Ex mc ms :=
  mj_MetX (fun hO ad cf hX h0 hm => by
    rw [← h0]
    exact mi_thX (h hO ad cf hX) (fun H hW => ⟨hO, ad, cf, hW, hX, h0, hm⟩))
theorem mj_cP (h : st_ok T → ∀ ad cf, RepX D T ad cf → vx_Met l y (w :: mi_G) rm (mi_Pc D A (mi_W D A ad cf) (.ref (ad 0) :: av)) (mi_QX A) (mi_XX A (rx_P D A T ad cf) Ex) mc ms A) : mi_Th l y w rm D A (mj_W D A q T gl gi) (.ref (q 0) :: av) Ex mc ms :=
  mj_MetX (fun hO ad cf hX h0 hm => by
    rw [← h0]
    refine mi_thX (h hO ad cf hX) (fun H hp => ?_)
    obtain ⟨ad1, cf1, hW1, hX1, hf1, a1⟩ := hp
    exact ⟨hO, ad1, cf1, hW1, hX1, a1.trans h0, mj_at_keep hm hf1⟩)
end MJM
section MJR
variable {p : Program} {l : Launch} {e : Env} {R : Room} {s : State} {m : MethodId} {args : Array Value} {below : List Frame} {meth : Method} {c : Code} {H : Heap} {locs : List Loc} {cells slots : Nat} {Q : State → Prop}
variable {cc : ByteArray} {pc nL : Nat} {ls : Array Slot} {rest : List Value} {D : va_G} {A : Nat → Prop} {Ts : List Cond} {own : String} {q : Nat → Nat} {T : sT} {gl : Nat → Nat → Int64} {gi : Nat → Nat → Int32}
theorem mj_ild (S : CallFix p m c cc nL s args Ts own) (E : mi_E D A s) (hM : mj_W D A q T gl gi H) (k : Nat) (hk : mj_ik k) {i : Nat} (hi : i < mj_n k) (hdg : decode cc pc = .ok (.iaload, 1))
    (kk : W p l e R s m args below meth c H locs cells slots Q (F0 m (pc + 1) ls (.int (gi k i) :: rest))) : W p l e R s m args below meth c H locs cells slots Q (F0 m pc ls (.int (nI i) :: .ref (q k) :: rest)) := by
  obtain ⟨hO, ad, cf, hW, hX, h0, h1, h2, h3⟩ := hM
  exact mi_iald S E hW (1000 + k) (h1 k (by omega) (by omega)) (h2 k hk) hi (mj_n_lt k) hdg kk
theorem mj_lld (S : CallFix p m c cc nL s args Ts own) (E : mi_E D A s) (hM : mj_W D A q T gl gi H) (k : Nat) (hk : mj_lk k) {i : Nat} (hi : i < mj_n k) (hdg : decode cc pc = .ok (.laload, 1))
    (kk : W p l e R s m args below meth c H locs cells slots Q (F0 m (pc + 1) ls (.long (gl k i) :: rest))) : W p l e R s m args below meth c H locs cells slots Q (F0 m pc ls (.int (nI i) :: .ref (q k) :: rest)) := by
  obtain ⟨hO, ad, cf, hW, hX, h0, h1, h2, h3⟩ := hM
  exact mi_lald S E hW (1000 + k) (h1 k (by omega) (by omega)) (h3 k hk) hi (mj_n_lt k) hdg kk
theorem mj_ist (S : CallFix p m c cc nL s args Ts own) (E : mi_E D A s) (hS : va_S A s.heap H locs) (hM : mj_W D A q T gl gi H) (k : Nat) (hk : mj_ik k) {i : Nat} {x : Int32} (hi : i < mj_n k) (hdg : decode cc pc = .ok (.iastore, 1))
    (kk : ∀ (H1 : Heap) (locs1 : List Loc), mj_W D A q T gl (va_up gi k (upd (gi k) i x)) H1 → va_S A s.heap H1 locs1 → W p l e R s m args below meth c H1 locs1 cells slots Q (F0 m (pc + 1) ls rest)) : W p l e R s m args below meth c H locs cells slots Q (F0 m pc ls (.int x :: .int (nI i) :: .ref (q k) :: rest)) := by
  obtain ⟨hO, ad, cf, hW, hX, h0, h1, h2, h3⟩ := hM
  refine mi_iast S E hS hW (1000 + k) (h1 k (by omega) (by omega)) (h2 k hk) hi (mj_n_lt k) hdg (fun H1 locs1 hW1 hS1 _ => kk H1 locs1 ⟨hO, ad, _, hW1, hX.same hO (fun r hr => ⟨mi_up_n (by omega), rfl⟩), h0, h1, fun j hj => ?_, fun j hj => ?_⟩ hS1)
  · by_cases z : j = k
    · subst z
      rw [mi_up_s, mi_up_s]
    · rw [mi_up_n (by omega), mi_up_n z]
      exact h2 j hj
  · rw [mi_up_n (by omega)]
    exact h3 j hj
theorem mj_lst (S : CallFix p m c cc nL s args Ts own) (E : mi_E D A s) (hS : va_S A s.heap H locs) (hM : mj_W D A q T gl gi H) (k : Nat) (hk : mj_lk k) {i : Nat} {x : Int64} (hi : i < mj_n k) (hdg : decode cc pc = .ok (.lastore, 1))
    (kk : ∀ (H1 : Heap) (locs1 : List Loc), mj_W D A q T (va_up gl k (vp_updL (gl k) i x)) gi H1 → va_S A s.heap H1 locs1 → W p l e R s m args below meth c H1 locs1 cells slots Q (F0 m (pc + 1) ls rest)) : W p l e R s m args below meth c H locs cells slots Q (F0 m pc ls (.long x :: .int (nI i) :: .ref (q k) :: rest)) := by
  obtain ⟨hO, ad, cf, hW, hX, h0, h1, h2, h3⟩ := hM
  refine mi_last S E hS hW (1000 + k) (h1 k (by omega) (by omega)) (h3 k hk) hi (mj_n_lt k) hdg (fun H1 locs1 hW1 hS1 _ => kk H1 locs1 ⟨hO, ad, _, hW1, hX.same hO (fun r hr => ⟨mi_up_n (by omega), rfl⟩), h0, h1, fun j hj => ?_, fun j hj => ?_⟩ hS1)
  · rw [mi_up_n (by omega)]
    exact h2 j hj
  · by_cases z : j = k
    · subst z
      rw [mi_up_s, mi_up_s]
    · rw [mi_up_n (by omega), mi_up_n z]
      exact h3 j hj
end MJR
theorem mj_W.ok {D : va_G} {A : Nat → Prop} {q : Nat → Nat} {T : sT} {gl : Nat → Nat → Int64} {gi : Nat → Nat → Int32} {H : Heap} (h : mj_W D A q T gl gi H) : st_ok T := h.1
/-- between two calls of the law -/
def mj_I (D : va_G) (A : Nat → Prop) (q : Nat → Nat) (H : Heap) : Prop := ∃ T gl gi, lr T gl gi ∧ mj_W D A q T gl gi H
/-! ends -/
section MJE
variable {p : Program} {l : Launch} {e : Env} {R : Room} {s : State} {m : MethodId} {args : Array Value} {below : List Frame} {meth : Method} {c : Code} {H : Heap} {locs : List Loc} {cells slots : Nat} {Q : State → Prop}
variable {cc : ByteArray} {pc nL : Nat} {ls : Array Slot} {rest : List Value} {w0 : Cond} {own : String}
theorem mi_retL (S : CallFix p m c cc nL s args (w0 :: mi_G) own) (hr : meth.sig.returnType = some .long) (hk : meth.locks = false) {post : Int64 → Prop} {v : Int64} (hdg : decode cc pc = .ok (.lreturn, 1)) (hp : post v) : W p l e R s m args below meth c s.heap [] 0 0 (MQ below (vp_Sl post) args s 0 0 (fun _ => False)) (F0 m pc ls [.long v]) :=
  W.lret S.1 S.2.1 hr (fun t ht _ => ⟨v, rfl, hp, ht⟩) (fun _ h => by cases h) hdg hk
end MJE
