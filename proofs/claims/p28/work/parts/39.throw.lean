/-! the three exceptions: new X(text), thrown out of the method -/
def mt_bad (cls : String) : List Cond := [Cond.castable cls cls, Cond.declares ⟨"java/lang/RuntimeException", "<init>", "(Ljava/lang/String;)V"⟩, Cond.declares ⟨"java/lang/Exception", "<init>", "(Ljava/lang/String;)V"⟩, Cond.declares ⟨"java/lang/Throwable", "<init>", "(Ljava/lang/String;)V"⟩]
theorem mt_g_IO : ∀ w ∈ (vx_atS RX4 84 mi_IO mi_ns).filter goodWord, w ∈ lw_tbl := by decide +kernel
theorem mt_g_IA : ∀ w ∈ (vx_atS RX4 163 mi_IA mi_ns).filter goodWord, w ∈ lw_tbl := by decide +kernel
theorem mt_g_IS : ∀ w ∈ (vx_atS RX4 118 mi_IS mi_ns).filter goodWord, w ∈ lw_tbl := by decide +kernel
theorem mt_b_IO : ∀ w ∈ (vx_atS RX4 84 mi_IO mi_ns).filter (fun w => !goodWord w), w ∈ mt_bad mi_IO := by decide +kernel
theorem mt_b_IA : ∀ w ∈ (vx_atS RX4 163 mi_IA mi_ns).filter (fun w => !goodWord w), w ∈ mt_bad mi_IA := by decide +kernel
theorem mt_b_IS : ∀ w ∈ (vx_atS RX4 118 mi_IS mi_ns).filter (fun w => !goodWord w), w ∈ mt_bad mi_IS := by decide +kernel
theorem mt_o_IO : ∀ w ∈ Cond.classLink RX4 80 mi_IO :: Cond.initialized mi_IO :: vx_atS RX4 84 mi_IO mi_ns, vx_ot w = true := by decide +kernel
theorem mt_o_IA : ∀ w ∈ Cond.classLink RX4 159 mi_IA :: Cond.initialized mi_IA :: vx_atS RX4 163 mi_IA mi_ns, vx_ot w = true := by decide +kernel
theorem mt_o_IS : ∀ w ∈ Cond.classLink RX4 114 mi_IS :: Cond.initialized mi_IS :: vx_atS RX4 118 mi_IS mi_ns, vx_ot w = true := by decide +kernel
section MIT
variable {p : Program} {l : Launch} {e : Env} {R : Room} {s : State} {m : MethodId} {args : Array Value} {below : List Frame} {meth : Method} {c : Code} {H : Heap} {locs : List Loc} {cells slots : Nat} {Q : State → Prop}
variable {cc : ByteArray} {pc nL : Nat} {ls : Array Slot} {rest : List Value} {D : va_G} {A : Nat → Prop} {ad : Nat → Nat} {cf : Nat → Option va_E} {w0 : Cond}
theorem mi_throw {cls text : String} {ik is ic mc ms : Nat} (S : CallFix p m c cc nL s args (w0 :: mi_G) RX4) (E : mi_E D A s) (hst : l.stackTraces = false) (hS : va_S A s.heap H locs) (hW : mi_W D A ad cf H) (hcls : Bundle.fit cls = true) (hk : Cond.classLink RX4 ik cls ∈ mi_G) (hini : Cond.initialized cls ∈ mi_G) (hstr : (is, text) ∈ mi_strs)
    (hg : ∀ w ∈ (vx_atS RX4 ic cls mi_ns).filter goodWord, w ∈ lw_tbl) (hb : ∀ w ∈ (vx_atS RX4 ic cls mi_ns).filter (fun w => !goodWord w), w ∈ mt_bad cls) (hcast : (cls, cls) ∈ mi_casts) (hgood : ∀ w ∈ Cond.classLink RX4 ik cls :: Cond.initialized cls :: vx_atS RX4 ic cls mi_ns, vx_ot w = true)
    (hsize : ls.size = nL) (d0 : decode cc pc = .ok (.new ik, 3)) (d3 : decode cc (pc + 3) = .ok (.dup, 1)) (d4 : decode cc (pc + 4) = .ok (.ldc is, 2)) (d6 : decode cc (pc + 6) = .ok (.invokespecial ic, 3)) (d9 : decode cc (pc + 9) = .ok (.athrow, 1))
    (hno : ∀ x ∈ c.exceptionTable.toList, False) (hfr : 5 < R.frames) (hlo : (rest.map fun v => v.category).sum + 82 ≤ R.locals) (hcells : cells + 1 ≤ R.cells) (hslots : slots + 6 ≤ R.slots) (hlk : meth.locks = false) (hc : cells + 1 ≤ mc) (hs : slots + 6 ≤ ms) :
    W p l e R s m args below meth c H locs cells slots (vx_MQ below (mi_QX A) (mi_XX A (mi_W D A ad cf) cls) args s mc ms A) (F0 m pc ls rest) := by
  have hts := S.2.2.2.2
  have hdc := E.2.2.2.2.2.2.2.2.2.2.1.2
  obtain ⟨sa, hsa⟩ := E.2.2.2.2.1 _ hstr
  have hat : ∀ w ∈ vx_atS RX4 ic cls mi_ns, w.before args s = true := vx_hat
    (fun w hw => hts w (List.mem_cons_of_mem _ (List.mem_filter.mpr ⟨hg w hw, (List.mem_filter.mp hw).2⟩))) hb
    (vx_c (va_Nw.use (A := args) rfl (E.2.2.1 (cls, cls) hcast)) (vx_c (va_Nw.use (A := args) rfl (hdc _ (by decide))) (vx_c (va_Nw.use (A := args) rfl (hdc _ (by decide))) (vx_c (va_Nw.use (A := args) rfl (hdc _ (by decide))) vx_n))))
  exact vx_throwS (names := mi_ns) S.1 S.2.1 hst S.2.2.2.1 hcls (by decide) (hts _ (List.mem_cons_of_mem _ hk)) (hts _ (List.mem_cons_of_mem _ hini)) hsa hat hgood E.2.2.2.2.2.1 E.2.2.2.2.2.2.1 hS (hsize.trans S.2.2.1.symm) d0 d3 d4 d6 d9
    (fun x hx => absurd (hno x hx) (fun h => h)) hfr hlo hcells hslots hlk
    (fun t _ hz hq => ⟨(), trivial, ⟨rfl, hW.kept (fun q h1 _ => hq q h1)⟩, ⟨Nat.le_trans hS.1 hz, fun q h1 h2 => (hq q (Nat.lt_of_lt_of_le h1 hS.1)).trans (hS.2.1 q h1 h2)⟩⟩) hS.2.2 hc hs
end MIT
