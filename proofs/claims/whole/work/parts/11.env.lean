/-! what a method's start gives of the tables and of the old heap, beside the good words -/
abbrev mi_IO : String := "java/lang/IndexOutOfBoundsException"
abbrev mi_IA : String := "java/lang/IllegalArgumentException"
abbrev mi_IS : String := "java/lang/IllegalStateException"
abbrev mi_ns : List String := ["java/lang/RuntimeException", "java/lang/Exception"]
abbrev mi_ob : String := "java/lang/Object"
/-- the address of ArrayList's empty default array; of Object[].class -/
abbrev mi_de (D : va_G) : Nat := D.2 200 0
abbrev mi_mi (D : va_G) : Nat := D.2 200 1
def mi_strs : List (Nat × String) := [(213, "no such column"), (218, "no such level"), (222, "kind is out of range"), (230, "no room for another state"), (220, "height is out of range"), (82, "no such run"), (224, "no such state"), (116, "the state 0 has no parent"), (123, "no such branch"), (129, "no room for another die"), (131, "there is not just one piece"), (226, "no such die"), (232, "no room for another coin"), (228, "no such coin"), (161, "number is out of range"), (167, "the die has made fewer strikes")]
def mi_casts : List (String × String) := [(mi_IO, mi_IO), (mi_IA, mi_IA), (mi_IS, mi_IS), (RX0, mi_ob), (RX1, mi_ob), (RX3, mi_ob), ("[I", "java/lang/Cloneable")]
def mi_nests : List (String × Nat × MethodName) := [(RX3, 23, yX4_isColumn), (RX3, 27, yX4_isLevel), (RX2, 39, yX4_isColumn), (RX2, 43, yX4_isLevel)]
def mi_ncs : List (String × String) := [(mi_IA, mi_IO), (mi_IS, mi_IO), (mi_IS, mi_IA)]
def mi_E (D : va_G) (A : Nat → Prop) (U : State) : Prop :=
  va_K D vwCl (mi_tys D) U ∧ (∀ q ∈ mi_nests, va_Nw (.methodLinkNest q.1 q.2.1 q.2.2 RX4) U) ∧ (∀ q ∈ mi_casts, va_Nw (.castable q.1 q.2) U) ∧ (∀ q ∈ mi_ncs, va_Nc q.1 q.2 U) ∧
  (∀ q ∈ mi_strs, ∃ a, vk_R RX4 q.1 q.2 a U) ∧
  vx_Zq Bundle.tN "UNASSIGNED_STACK" Bundle.steD A U U.heap ∧ vx_Zq Bundle.tN "SUPPRESSED_SENTINEL" Bundle.listD A U U.heap ∧
  va_Z RJx4a65c "DEFAULTCAPACITY_EMPTY_ELEMENTDATA" "[Ljava/lang/Object;" (.ref (mi_de D)) A U U.heap ∧ va_T (.object mi_ob) (mi_de D) 0 (fun _ => .null) A U U.heap ∧
  va_Mi "[Ljava/lang/Object;" (mi_mi D) U ∧ va_Dc U ∧ va_AO mi_ob U
theorem mi_E.at {D : va_G} {A : Nat → Prop} {s U : State} {H : Heap} {locs : List Loc} (h : mi_E D A s) (hS : va_S A s.heap H locs) (hU : U.heap = H) (hW : s.WarmedH U.vm) : mi_E D A U := by
  obtain ⟨h1, h2, h3, h4, h5, h6, h7, h8, h9, h10, h11, h12⟩ := h
  subst hU
  have hal := hW.alike
  refine ⟨va_K.moved hal h1, fun q hq => va_Nw.warmM hW (h2 q hq), fun q hq => va_Nw.warmC hW (h3 q hq), fun q hq => va_Nc.moved hal (h4 q hq), fun q hq => ?_, vx_Zq.moved hal (h6.kept hS.2.1), vx_Zq.moved hal (h7.kept hS.2.1), va_Z.moved hal (h8.kept hS.2.1), va_T.moved hal (h9.kept hS.2.1), va_Mi.moved hal h10, va_Dc.moved hal h11, va_AO.moved hal h12⟩
  obtain ⟨a, ha⟩ := h5 q hq
  exact ⟨a, vk_R.warm hW ha⟩
theorem mi_E.narrow {D : va_G} {A B : Nat → Prop} {s : State} (h : mi_E D A s) (hAB : ∀ q, B q → A q) : mi_E D B s := by
  obtain ⟨h1, h2, h3, h4, h5, h6, h7, h8, h9, h10, h11, h12⟩ := h
  exact ⟨h1, h2, h3, h4, h5, h6.narrow hAB, h7.narrow hAB, h8.narrow hAB, h9.narrow hAB, h10, h11, h12⟩
theorem mi_E.calling {D : va_G} {A : Nat → Prop} {U : State} {g : JFrame} {mk : MethodId} {a : Array Value} (h : mi_E D A U) : mi_E D A (U.calling g mk a) := h.at (locs := []) (H := U.heap) ⟨Nat.le_refl _, fun _ _ _ => rfl, fun _ h => by cases h⟩ rfl (State.WarmedH.refl U)
theorem mi_E.K {D : va_G} {A : Nat → Prop} {U : State} (h : mi_E D A U) : va_K D vwCl (mi_tys D) U := h.1
/-- a method's start: its arguments, the old facts, the world (P) -/
abbrev mi_Pc (D : va_G) (A : Nat → Prop) (P : Heap → Prop) (av : List Value) : Array Value → State → Prop := va_Pc av (fun U => mi_E D A U ∧ P U.heap)
theorem mi_blind {D : va_G} {A : Nat → Prop} {P : Heap → Prop} {av : List Value} : FrameBlind (mi_Pc D A P av) := fun a U g mk h => ⟨h.1, h.2.1.calling, h.2.2⟩
theorem mi_W.recv {D : va_G} {A B : Nat → Prop} {ad : Nat → Nat} {cf : Nat → Option va_E} {s : State} {H : Heap} (h : mi_W D A ad cf H) (hE : mi_E D B s) {r ci : Nat} {fs : List Value} {q : vw_C} (he : cf r = some (.inr (ci, fs))) (hc : vwCl[ci]? = some q) : ∃ cell : Cell, H[ad r]? = some cell ∧ cell.vm.isStatics = false ∧ s.vm.findClass q.1 = some cell.cls :=
  va_recv (q0 := 0) hE.K (h.P he) hc rfl
section MIR
variable {p : Program} {l : Launch} {e : Env} {R : Room} {s : State} {m : MethodId} {args : Array Value} {below : List Frame} {meth : Method} {c : Code} {H : Heap} {locs : List Loc} {cells slots : Nat} {Q : State → Prop}
variable {cc : ByteArray} {pc nL : Nat} {ls : Array Slot} {rest : List Value} {D : va_G} {A : Nat → Prop} {ad : Nat → Nat} {cf : Nat → Option va_E} {Ts : List Cond} {own : String}
/-- the value on top, told otherwise -/
theorem mi_top {v v' : Value} (h : v = v') (k : W p l e R s m args below meth c H locs cells slots Q (F0 m pc ls (v' :: rest))) : W p l e R s m args below meth c H locs cells slots Q (F0 m pc ls (v :: rest)) := by rw [h]; exact k
theorem mi_iadd (S : CallFix p m c cc nL s args Ts own) {a b : Nat} (hdg : decode cc pc = .ok (.iadd, 1)) (k : W p l e R s m args below meth c H locs cells slots Q (F0 m (pc + 1) ls (.int (nI (a + b)) :: rest))) : W p l e R s m args below meth c H locs cells slots Q (F0 m pc ls (.int (nI b) :: .int (nI a) :: rest)) := lv_iadd S.1 S.2.1 hdg (by rw [nI_add]; exact k)
theorem mi_isub (S : CallFix p m c cc nL s args Ts own) {a b : Nat} (h : b ≤ a) (hdg : decode cc pc = .ok (.isub, 1)) (k : W p l e R s m args below meth c H locs cells slots Q (F0 m (pc + 1) ls (.int (nI (a - b)) :: rest))) : W p l e R s m args below meth c H locs cells slots Q (F0 m pc ls (.int (nI b) :: .int (nI a) :: rest)) := lv_isub S.1 S.2.1 hdg (by rw [pk_sub h]; exact k)
theorem mi_imul (S : CallFix p m c cc nL s args Ts own) {a b : Nat} (hdg : decode cc pc = .ok (.imul, 1)) (k : W p l e R s m args below meth c H locs cells slots Q (F0 m (pc + 1) ls (.int (nI (a * b)) :: rest))) : W p l e R s m args below meth c H locs cells slots Q (F0 m pc ls (.int (nI b) :: .int (nI a) :: rest)) := lv_imul S.1 S.2.1 hdg (by rw [pk_mul]; exact k)
theorem mi_idiv (S : CallFix p m c cc nL s args Ts own) {a b : Nat} (ha : a < 2 ^ 31) (h0 : 0 < b) (hb : b < 2 ^ 31) (hdg : decode cc pc = .ok (.idiv, 1)) (k : W p l e R s m args below meth c H locs cells slots Q (F0 m (pc + 1) ls (.int (nI (a / b)) :: rest))) : W p l e R s m args below meth c H locs cells slots Q (F0 m pc ls (.int (nI b) :: .int (nI a) :: rest)) := lv_idiv S.1 S.2.1 hdg (nI_ne0 h0 hb) (by rw [pk_div ha h0 hb]; exact k)
theorem mi_irem (S : CallFix p m c cc nL s args Ts own) {a b : Nat} (ha : a < 2 ^ 31) (h0 : 0 < b) (hb : b < 2 ^ 31) (hdg : decode cc pc = .ok (.irem, 1)) (k : W p l e R s m args below meth c H locs cells slots Q (F0 m (pc + 1) ls (.int (nI (a % b)) :: rest))) : W p l e R s m args below meth c H locs cells slots Q (F0 m pc ls (.int (nI b) :: .int (nI a) :: rest)) := lv_irem S.1 S.2.1 hdg (nI_ne0 h0 hb) (by rw [pk_rem ha h0 hb]; exact k)
theorem mi_icmp_eq (S : CallFix p m c cc nL s args Ts own) {a b tgt : Nat} {off : Int} (ha : a < 2 ^ 31) (hb : b < 2 ^ 31) (hdg : decode cc pc = .ok (.if_icmp .eq off, 3)) (ht : (pc : Int) + off = (tgt : Int)) (kt : a = b → W p l e R s m args below meth c H locs cells slots Q (F0 m tgt ls rest)) (kf : a ≠ b → W p l e R s m args below meth c H locs cells slots Q (F0 m (pc + 3) ls rest)) : W p l e R s m args below meth c H locs cells slots Q (F0 m pc ls (.int (nI b) :: .int (nI a) :: rest)) := lv_icmp_eq S.1 S.2.1 hdg ht (fun h => kt ((nI_eq ha hb).mp h)) (fun h => kf (fun z => h ((nI_eq ha hb).mpr z)))
theorem mi_icmp_ne (S : CallFix p m c cc nL s args Ts own) {a b tgt : Nat} {off : Int} (ha : a < 2 ^ 31) (hb : b < 2 ^ 31) (hdg : decode cc pc = .ok (.if_icmp .ne off, 3)) (ht : (pc : Int) + off = (tgt : Int)) (kt : a ≠ b → W p l e R s m args below meth c H locs cells slots Q (F0 m tgt ls rest)) (kf : a = b → W p l e R s m args below meth c H locs cells slots Q (F0 m (pc + 3) ls rest)) : W p l e R s m args below meth c H locs cells slots Q (F0 m pc ls (.int (nI b) :: .int (nI a) :: rest)) := lv_icmp_ne S.1 S.2.1 hdg ht (fun h => kt (fun z => h ((nI_eq ha hb).mpr z))) (fun h => kf ((nI_eq ha hb).mp h))
theorem mi_icmp_lt (S : CallFix p m c cc nL s args Ts own) {a b tgt : Nat} {off : Int} (ha : a < 2 ^ 31) (hb : b < 2 ^ 31) (hdg : decode cc pc = .ok (.if_icmp .lt off, 3)) (ht : (pc : Int) + off = (tgt : Int)) (kt : a < b → W p l e R s m args below meth c H locs cells slots Q (F0 m tgt ls rest)) (kf : b ≤ a → W p l e R s m args below meth c H locs cells slots Q (F0 m (pc + 3) ls rest)) : W p l e R s m args below meth c H locs cells slots Q (F0 m pc ls (.int (nI b) :: .int (nI a) :: rest)) := lv_icmp_lt S.1 S.2.1 hdg ht (fun h => kt ((nI_ltI ha hb).mp h)) (fun h => kf (Nat.not_lt.mp fun z => h ((nI_ltI ha hb).mpr z)))
theorem mi_icmp_ge (S : CallFix p m c cc nL s args Ts own) {a b tgt : Nat} {off : Int} (ha : a < 2 ^ 31) (hb : b < 2 ^ 31) (hdg : decode cc pc = .ok (.if_icmp .ge off, 3)) (ht : (pc : Int) + off = (tgt : Int)) (kt : b ≤ a → W p l e R s m args below meth c H locs cells slots Q (F0 m tgt ls rest)) (kf : a < b → W p l e R s m args below meth c H locs cells slots Q (F0 m (pc + 3) ls rest)) : W p l e R s m args below meth c H locs cells slots Q (F0 m pc ls (.int (nI b) :: .int (nI a) :: rest)) := lv_icmp_ge S.1 S.2.1 hdg ht (fun h => kt ((nI_leI hb ha).mp h)) (fun h => kf (Nat.not_le.mp fun z => h ((nI_leI hb ha).mpr z)))
theorem mi_icmp_gt (S : CallFix p m c cc nL s args Ts own) {a b tgt : Nat} {off : Int} (ha : a < 2 ^ 31) (hb : b < 2 ^ 31) (hdg : decode cc pc = .ok (.if_icmp .gt off, 3)) (ht : (pc : Int) + off = (tgt : Int)) (kt : b < a → W p l e R s m args below meth c H locs cells slots Q (F0 m tgt ls rest)) (kf : a ≤ b → W p l e R s m args below meth c H locs cells slots Q (F0 m (pc + 3) ls rest)) : W p l e R s m args below meth c H locs cells slots Q (F0 m pc ls (.int (nI b) :: .int (nI a) :: rest)) := lv_icmp_gt S.1 S.2.1 hdg ht (fun h => kt ((nI_ltI hb ha).mp h)) (fun h => kf (Nat.not_lt.mp fun z => h ((nI_ltI hb ha).mpr z)))
theorem mi_icmp_le (S : CallFix p m c cc nL s args Ts own) {a b tgt : Nat} {off : Int} (ha : a < 2 ^ 31) (hb : b < 2 ^ 31) (hdg : decode cc pc = .ok (.if_icmp .le off, 3)) (ht : (pc : Int) + off = (tgt : Int)) (kt : a ≤ b → W p l e R s m args below meth c H locs cells slots Q (F0 m tgt ls rest)) (kf : b < a → W p l e R s m args below meth c H locs cells slots Q (F0 m (pc + 3) ls rest)) : W p l e R s m args below meth c H locs cells slots Q (F0 m pc ls (.int (nI b) :: .int (nI a) :: rest)) := lv_icmp_le S.1 S.2.1 hdg ht (fun h => kt ((nI_leI ha hb).mp h)) (fun h => kf (Nat.not_le.mp fun z => h ((nI_leI ha hb).mpr z)))
theorem mi_if_eq (S : CallFix p m c cc nL s args Ts own) {a tgt : Nat} {off : Int} (ha : a < 2 ^ 31) (hdg : decode cc pc = .ok (.ifCond .eq off, 3)) (ht : (pc : Int) + off = (tgt : Int)) (kt : a = 0 → W p l e R s m args below meth c H locs cells slots Q (F0 m tgt ls rest)) (kf : a ≠ 0 → W p l e R s m args below meth c H locs cells slots Q (F0 m (pc + 3) ls rest)) : W p l e R s m args below meth c H locs cells slots Q (F0 m pc ls (.int (nI a) :: rest)) := lv_if_eq S.1 S.2.1 hdg ht (fun h => kt (Decidable.byContradiction fun z => nI_ne0 (by omega) ha h)) (fun h => kf (fun z => h (by rw [z]; exact nI_0)))
theorem mi_if_ne (S : CallFix p m c cc nL s args Ts own) {a tgt : Nat} {off : Int} (ha : a < 2 ^ 31) (hdg : decode cc pc = .ok (.ifCond .ne off, 3)) (ht : (pc : Int) + off = (tgt : Int)) (kt : a ≠ 0 → W p l e R s m args below meth c H locs cells slots Q (F0 m tgt ls rest)) (kf : a = 0 → W p l e R s m args below meth c H locs cells slots Q (F0 m (pc + 3) ls rest)) : W p l e R s m args below meth c H locs cells slots Q (F0 m pc ls (.int (nI a) :: rest)) := lv_if_ne S.1 S.2.1 hdg ht (fun h => kt (fun z => h (by rw [z]; exact nI_0))) (fun h => kf (Decidable.byContradiction fun z => nI_ne0 (by omega) ha h))
theorem mi_if_lt (S : CallFix p m c cc nL s args Ts own) {a tgt : Nat} {off : Int} (ha : a < 2 ^ 31) (hdg : decode cc pc = .ok (.ifCond .lt off, 3)) (ht : (pc : Int) + off = (tgt : Int)) (kf : W p l e R s m args below meth c H locs cells slots Q (F0 m (pc + 3) ls rest)) : W p l e R s m args below meth c H locs cells slots Q (F0 m pc ls (.int (nI a) :: rest)) := lv_if_lt S.1 S.2.1 hdg ht (fun h => absurd h (nI_pos ha)) (fun _ => kf)
theorem mi_if_ge (S : CallFix p m c cc nL s args Ts own) {a tgt : Nat} {off : Int} (ha : a < 2 ^ 31) (hdg : decode cc pc = .ok (.ifCond .ge off, 3)) (ht : (pc : Int) + off = (tgt : Int)) (kt : W p l e R s m args below meth c H locs cells slots Q (F0 m tgt ls rest)) : W p l e R s m args below meth c H locs cells slots Q (F0 m pc ls (.int (nI a) :: rest)) := lv_if_ge S.1 S.2.1 hdg ht (fun _ => kt) (fun h => absurd (nI_pos' ha) h)
theorem mi_if_gt (S : CallFix p m c cc nL s args Ts own) {a tgt : Nat} {off : Int} (ha : a < 2 ^ 31) (hdg : decode cc pc = .ok (.ifCond .gt off, 3)) (ht : (pc : Int) + off = (tgt : Int)) (kt : 0 < a → W p l e R s m args below meth c H locs cells slots Q (F0 m tgt ls rest)) (kf : a = 0 → W p l e R s m args below meth c H locs cells slots Q (F0 m (pc + 3) ls rest)) : W p l e R s m args below meth c H locs cells slots Q (F0 m pc ls (.int (nI a) :: rest)) := by
  refine lv_if_gt S.1 S.2.1 hdg ht (fun h => kt ?_) (fun h => kf ?_)
  · rcases Nat.eq_zero_or_pos a with z | z
    · subst z
      exact absurd h (by decide)
    · exact z
  · rcases Nat.eq_zero_or_pos a with z | z
    · exact z
    · have h2 := nI_lt (a := 0) (b := a) z ha
      rw [nI_0] at h2
      exact absurd h2 h
theorem mi_if_le (S : CallFix p m c cc nL s args Ts own) {a tgt : Nat} {off : Int} (ha : a < 2 ^ 31) (hdg : decode cc pc = .ok (.ifCond .le off, 3)) (ht : (pc : Int) + off = (tgt : Int)) (kt : a = 0 → W p l e R s m args below meth c H locs cells slots Q (F0 m tgt ls rest)) (kf : 0 < a → W p l e R s m args below meth c H locs cells slots Q (F0 m (pc + 3) ls rest)) : W p l e R s m args below meth c H locs cells slots Q (F0 m pc ls (.int (nI a) :: rest)) := by
  refine lv_if_le S.1 S.2.1 hdg ht (fun h => kt ?_) (fun h => kf ?_)
  · rcases Nat.eq_zero_or_pos a with z | z
    · exact z
    · exact absurd h (nI_nle z ha)
  · rcases Nat.eq_zero_or_pos a with z | z
    · subst z
      exact absurd (by decide) h
    · exact z
end MIR
