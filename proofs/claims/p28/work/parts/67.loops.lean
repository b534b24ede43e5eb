/-! the law's methods with loops; cell -/
theorem sp_h_top {K : Nat → Nat} {c n : Nat} : ∀ {m : Nat}, (∀ l, n ≤ l → l < m → K (8 * c + l) = 0) → sp_h K c m ≤ n
  | 0, _ => Nat.zero_le _
  | m + 1, h => by
    have ih := sp_h_top (m := m) (fun l h1 h2 => h l h1 (by omega))
    by_cases z : K (8 * c + m) = 0
    · rw [sp_h_0 z]
      exact ih
    · rw [sp_h_1 z]
      rcases Nat.lt_or_ge m n with q | q
      · omega
      · exact absurd (h m q (by omega)) z
theorem sp_h_gt {K : Nat → Nat} {c l : Nat} (hl : K (8 * c + l) ≠ 0) : ∀ {m : Nat}, l < m → l < sp_h K c m
  | 0, h => absurd h (Nat.not_lt_zero _)
  | m + 1, h => by
    by_cases z : K (8 * c + m) = 0
    · rw [sp_h_0 z]
      rcases Nat.lt_or_ge l m with q | q
      · exact sp_h_gt hl q
      · exact absurd (by rw [show l = m by omega]; exact z) hl
    · rw [sp_h_1 z]
      omega
theorem bt_sign {y : Int32} (h : bt y 31 = false) : y.toInt = y.toBitVec.toNat := by
  show y.toBitVec.toInt = _
  rw [BitVec.toInt_eq_toNat_of_msb]
  rw [BitVec.msb_eq_getLsbD_last]
  exact h
theorem bt_zero {y : Int32} (h : bt y 31 = false) (hz : y.toInt ≤ 0) : y = 0 := by
  rw [bt_sign h] at hz
  exact Int32.toBitVec_inj.mp (BitVec.eq_of_toNat_eq (by show y.toBitVec.toNat = 0; omega))
/-- a column's height, by its bits -/
theorem lj_hz {x y : Int32} {K : Nat → Nat} {c n : Nat} (hx : mo_pk x K c) (hK : ∀ l, l < 8 → K (8 * c + l) < 4) (hy : ∀ i, i < 32 → bt y i = bt x (2 * n + i)) : (y.toInt ≤ 0 → sp_h K c 8 ≤ n) ∧ (0 < y.toInt → n < sp_h K c 8) := by
  have h31 : bt y 31 = false := by rw [hy 31 (by omega)]; exact hx.2 _ (by omega)
  constructor
  · intro hz
    have e := bt_zero h31 hz
    refine sp_h_top (fun l h1 h2 => ?_)
    have h3 : ∀ i, i < 2 → bt (mo_kd x l) i = false := fun i hi => by
      rw [mo_kd_bt h2 hi, show 2 * l + i = 2 * n + (2 * (l - n) + i) by omega, ← hy _ (by omega), e, b_0]
    have h4 : mo_kd x l = nI 0 := b_ext (fun i hi => by
      rcases Nat.lt_or_ge i 2 with q | q
      · rw [h3 i q]; exact (b_0 i).symm
      · rw [mo_kd_hi q]; exact (b_0 i).symm)
    rw [hx.1 l h2] at h4
    exact nI_inj4 (hK l h2) (by omega) h4
  · intro hp
    have h5 : ∃ i, i < 32 ∧ bt y i = true := by
      refine Decidable.byContradiction (fun z => ?_)
      have e : y = 0 := b_ext (fun i hi => by
        rw [b_0]
        cases q : bt y i with
        | false => rfl
        | true => exact absurd ⟨i, hi, q⟩ z)
      rw [e] at hp
      exact absurd hp (by decide)
    obtain ⟨i, hi, h6⟩ := h5
    rw [hy i hi] at h6
    have h7 : 2 * n + i < 16 := by
      rcases Nat.lt_or_ge (2 * n + i) 16 with q | q
      · exact q
      · rw [hx.2 _ q] at h6; cases h6
    have h8 : K (8 * c + (2 * n + i) / 2) ≠ 0 := by
      intro z
      have h9 := mo_kd_bt (x := x) (l := (2 * n + i) / 2) (i := (2 * n + i) % 2) (by omega) (by omega)
      rw [hx.1 _ (by omega), z, show 2 * ((2 * n + i) / 2) + (2 * n + i) % 2 = 2 * n + i by omega, h6] at h9
      exact absurd ((b_0 _).symm.trans h9) (by decide)
    have := sp_h_gt h8 (m := 8) (by omega)
    omega
theorem lj_hs {x y : Int32} {K : Nat → Nat} {c n : Nat} (hx : mo_pk x K c) (hy : ∀ i, i < 32 → bt y i = bt x (2 * n + i)) : ∀ i, i < 32 → bt (y >>> (nI 2 &&& 31)) i = bt x (2 * (n + 1) + i) := by
  intro i hi
  rw [b_sshr 2 (by omega) y hi]
  by_cases q : 2 + i < 32
  · rw [if_pos q, hy _ q]
    congr 1
    omega
  · rw [if_neg q, hy 31 (by omega), hx.2 _ (by omega), hx.2 _ (by omega)]
/-- the blocks of a column, as bits -/
def lj_so (r : Int32) (K : Nat → Nat) (c n : Nat) : Prop := ∀ i, i < 32 → bt r i = (decide (i < n) && decide (K (8 * c + i) ≠ 0))
theorem lj_so_0 {r : Int32} {K : Nat → Nat} {c j : Nat} (h : lj_so r K c j) (hK : K (8 * c + j) = 0) : lj_so (r ||| nI 0) K c (j + 1) := by
  intro i hi
  rw [b_or, h i hi, show bt (nI 0) i = false from b_0 i, Bool.or_false]
  by_cases z : i = j
  · subst z
    rw [decide_eq_false (Nat.lt_irrefl i), decide_eq_false (show ¬ K (8 * c + i) ≠ 0 from fun q => q hK), Bool.and_false, Bool.and_false]
  · by_cases q : i < j
    · rw [decide_eq_true q, decide_eq_true (show i < j + 1 by omega)]
    · rw [decide_eq_false q, decide_eq_false (show ¬ i < j + 1 by omega)]
theorem lj_so_1 {r : Int32} {K : Nat → Nat} {c j : Nat} (h : lj_so r K c j) (hj : j < 8) (hK : 0 < K (8 * c + j)) : lj_so (r ||| nI 1 <<< (nI j &&& 31)) K c (j + 1) := by
  intro i hi
  rw [b_or, h i hi, b_shl j (by omega) _ hi, bt_16 1 (by omega) _ (by omega)]
  by_cases z : i = j
  · subst z
    rw [decide_eq_true (Nat.le_refl i), Nat.sub_self, decide_eq_true (show i < i + 1 by omega), decide_eq_true (show K (8 * c + i) ≠ 0 by omega)]
    simp
  · by_cases q : i < j
    · rw [decide_eq_true q, decide_eq_true (show i < j + 1 by omega), decide_eq_false (show ¬ j ≤ i by omega)]
      simp
    · rw [decide_eq_false q, decide_eq_false (show ¬ i < j + 1 by omega), decide_eq_true (show j ≤ i by omega)]
      have : Nat.testBit 1 (i - j) = false := by
        obtain ⟨m, hm⟩ : ∃ m, i - j = m + 1 := ⟨i - j - 1, by omega⟩
        rw [hm, Nat.testBit_succ]
        exact Nat.zero_testBit m
      rw [this]
      simp
/-- the lowest of the greatest -/
theorem wr_mx_max (h : Nat → Nat) : ∀ n, 0 < n → (∀ c, c < n → h c ≤ h (wr_mx h n)) ∧ ∀ c, c < wr_mx h n → h c < h (wr_mx h n)
  | 0, h0 => absurd h0 (Nat.lt_irrefl 0)
  | n + 1, _ => by
    rcases Nat.eq_zero_or_pos n with z | z
    · subst z
      have e : wr_mx h 1 = 0 := by show (if h 0 < h 0 then 0 else 0) = 0; split <;> rfl
      rw [e]
      exact ⟨fun c hc => by rw [show c = 0 by omega]; exact Nat.le_refl _, fun c hc => absurd hc (Nat.not_lt_zero c)⟩
    · have ih := wr_mx_max h n z
      by_cases q : h (wr_mx h n) < h n
      · rw [wr_mx_1 q]
        refine ⟨fun c hc => ?_, fun c hc => ?_⟩
        · rcases Nat.lt_or_ge c n with y | y
          · have := ih.1 c y; omega
          · rw [show c = n by omega]; exact Nat.le_refl _
        · have := ih.1 c hc; omega
      · rw [wr_mx_0 q]
        refine ⟨fun c hc => ?_, ih.2⟩
        rcases Nat.lt_or_ge c n with y | y
        · exact ih.1 c y
        · rw [show c = n by omega]; omega
def wq (g : Nat → Nat) (u t : Nat) : Prop := (u ≤ t ∨ t = 0) ∧ (∀ c, u ≤ c → c < 16 → g c ≤ g t) ∧ (∀ c, u ≤ c → c < t → g c < g t) ∧ g 0 ≤ g t
theorem wq_0 (g : Nat → Nat) : wq g 16 0 := ⟨Or.inr rfl, fun c h1 h2 => absurd h2 (by omega), fun c _ h2 => absurd h2 (Nat.not_lt_zero c), Nat.le_refl _⟩
theorem wq_1 {g : Nat → Nat} {u t : Nat} (h : wq g (u + 1) t) (hg : g t ≤ g u) : wq g u u :=
  ⟨Or.inl (Nat.le_refl u), fun c h1 h2 => by
    by_cases z : c = u
    · rw [z]; exact Nat.le_refl _
    · have := h.2.1 c (by omega) h2; omega, fun c h1 h2 => absurd h2 (by omega), by have := h.2.2.2; omega⟩
theorem wq_2 {g : Nat → Nat} {u t : Nat} (h : wq g (u + 1) t) (hg : g u < g t) : wq g u t :=
  ⟨h.1.elim (fun q => Or.inl (by omega)) Or.inr, fun c h1 h2 => by
    by_cases z : c = u
    · rw [z]; omega
    · exact h.2.1 c (by omega) h2, fun c h1 h2 => by
    by_cases z : c = u
    · rw [z]; exact hg
    · exact h.2.2.1 c (by omega) h2, h.2.2.2⟩
theorem wq_e {g : Nat → Nat} {t : Nat} (h : wq g 0 t) (ht : t < 16) : t = wr_mx g 16 := by
  obtain ⟨-, h1, h2, -⟩ := h
  obtain ⟨m1, m2⟩ := wr_mx_max g 16 (by omega)
  have hb := wr_mx_b g 16 (Nat.le_refl 16)
  rcases Nat.lt_trichotomy t (wr_mx g 16) with q | q | q
  · have := m2 t q
    have := h1 (wr_mx g 16) (Nat.zero_le _) hb
    omega
  · exact q
  · have := h2 (wr_mx g 16) (Nat.zero_le _) q
    have := m1 t ht
    omega
theorem wr_hp0 {y : Int64} {g : Nat → Nat} {t : Nat} (hy : lj_hp y g) (ht : t = wr_mx g 16) (hz : g t = 0) : lj_hp y (wr g) := by
  rw [wr_0 ht hz]
  exact hy
theorem wr_hp1 {y : Int64} {g : Nat → Nat} {t : Nat} (hy : lj_hp y g) (ht : t = wr_mx g 16) (h16 : t < 16) (hz : 0 < g t) (hb : ∀ c, c < 16 → g c ≤ 8) : lj_hp (y - (1 : Int64) <<< ((nI (4 * t)).toInt64 &&& 63)) (wr g) := by
  have := lj_dec hy h16 hz hb
  unfold wr
  rw [← ht]
  exact this
theorem mi_startS {l : Launch} {y : MethodName} {w : Cond} {cc : ByteArray} {nL : Nat} {ret : Option FieldType} {rm : Room} {B0 : State → Prop} {av : List Value} {Qc : Array Value → State → Outcome → State → Prop} {mc ms : Nat} {free : Nat → Prop} (hw : w = Cond.code y cc nL ret) (hy : plainName y.cls = true) (hlen : (lg_sl av).length ≤ nL)
    (body : ∀ (p : Program) (e : Env) (s : State) (m : MethodId) (below : List Frame) (meth : Method) (c : Code) (ls : Array Slot), CallFix p m c cc nL s av.toArray (w :: mi_G) y.cls → B0 s → meth.sig.returnType = ret → meth.locks = false → lv_has ls nL (lv_args 0 av) →
      W p l e rm s m av.toArray below meth c s.heap [] 0 0 (MQ below Qc av.toArray s mc ms free) (F0 m 0 ls [])) : Met l y (w :: mi_G) rm (va_Pc av B0) Qc mc ms free := by
  subst hw
  refine Met.ofW (cc := cc) (maxL := nL) (ret := ret) hy rfl ?_
  intro p e s m args below meth c s₁ B hml hv
  obtain ⟨rfl, hE⟩ := hv
  have hts := atoms_spec (ws := Cond.code y cc nL ret :: mi_G) B.pre
  have hl := lv_entry av (n := nL) hlen
  rw [lg_entry_eq]
  exact body p e s m below meth c _ ⟨B.exec, B.bytes, hml, findClass_of_methodNamed B.named, hts⟩ hE B.returns B.notSynchronized hl
set_option maxHeartbeats 4000000 in
set_option maxRecDepth 100000 in
theorem c_Lsolid (l : Launch) (D : va_G) (A : Nat → Prop) (P : Heap → Prop) {x : Int32} {K : Nat → Nat} {c9 : Nat} (hx : mo_pk x K c9) (hK : ∀ l, l < 8 → K (8 * c9 + l) < 4) : mi_Rd l yL_solid (Cond.code yL_solid cL_solid 3 (some Jvm.ClassFile.FieldType.int)) (mi_rm 0) D A (P) [.int (x)] (fun r => lj_so r K c9 8) := by
  refine mi_start (cc := cL_solid) (nL := 3) (ret := (some Jvm.ClassFile.FieldType.int)) rfl (by decide) (Nat.le_of_ble_eq_true rfl) ?_
  intro p e s m below meth c ls S E hW hS hr hk hn hl
  have S : CallFix p m c cL_solid 3 s _ ((Cond.code yL_solid cL_solid 3 (some Jvm.ClassFile.FieldType.int)) :: mi_G) RL := S
  have hl : lv_has ls 3 [(0, .int (x))] := hl
  refine lv_iconst (v := nI 0) S.1 S.2.1 dL_solid_0 (by decide) ?_
  refine lv_istore_n (lv' := [(1, .int (nI (0))), (0, .int (x))]) S.1 S.2.1 dL_solid_1 rfl hl (by decide) rfl (fun ls hl => ?_)
  refine lv_iconst (v := nI 0) S.1 S.2.1 dL_solid_2 (by decide) ?_
  refine lv_istore_n (lv' := [(2, .int (nI (0))), (1, .int (nI (0))), (0, .int (x))]) S.1 S.2.1 dL_solid_3 rfl hl (by decide) rfl (fun ls hl => ?_)
  have lp4 : ∀ (n4 : Nat) (r : Int32) (j : Nat) (ls : Array Slot), 8 - j < n4 → j ≤ 8 → lj_so r K c9 j → lv_has ls 3 [(0, .int (x)), (1, .int (r)), (2, .int (nI (j)))] → W p l e (mi_rm 0) s m ([.int (x)] : List Value).toArray below meth c s.heap [] 0 0 (MQ below (vp_Si (fun r => lj_so r K c9 8)) ([.int (x)] : List Value).toArray s 0 0 (fun _ => False)) (F0 m 4 ls []) := by
    intro n4
    induction n4 with
    | zero => intro r j ls hm hj hr9  hl; exact absurd hm (Nat.not_lt_zero _)
    | succ n4 ih4 =>
      intro r j ls hm hj hr9  hl
      refine lv_iload_n S.1 S.2.1 dL_solid_4 rfl (lv_at hl 2 rfl) ?_
      refine lv_bipush (v := nI 8) S.1 S.2.1 dL_solid_5 (by decide) ?_
      refine mi_icmp_ge (tgt := 36) S (by omega) (by omega) dL_solid_7 (by decide) (fun c7_0 => ?_) (fun c7_0 => ?_)
      · refine lv_iload_n S.1 S.2.1 dL_solid_36 rfl (lv_at hl 1 rfl) ?_
        exact mi_retR S hr hk dL_solid_37 (by have h8 : j = 8 := (by omega); subst h8; exact hr9)
      · refine lv_iload_n S.1 S.2.1 dL_solid_10 rfl (lv_at hl 1 rfl) ?_
        refine lv_iload_n S.1 S.2.1 dL_solid_11 rfl (lv_at hl 0 rfl) ?_
        refine lv_iconst (v := nI 2) S.1 S.2.1 dL_solid_12 (by decide) ?_
        refine lv_iload_n S.1 S.2.1 dL_solid_13 rfl (lv_at hl 2 rfl) ?_
        refine mi_imul S dL_solid_14 ?_
        refine lv_ishr S.1 S.2.1 dL_solid_15 ?_
        refine lv_iconst (v := nI 3) S.1 S.2.1 dL_solid_16 (by decide) ?_
        refine lv_iand S.1 S.2.1 dL_solid_17 ?_
        refine mi_top (v' := .int (nI (K (8 * c9 + j)))) (congrArg Value.int (hx.1 j (by omega))) ?_
        have hk9 := hK j (by omega)
        refine mi_if_le (tgt := 27) S (by omega) dL_solid_18 (by decide) (fun c18_1 => ?_) (fun c18_1 => ?_)
        · refine lv_iconst (v := nI 0) S.1 S.2.1 dL_solid_27 (by decide) ?_
          refine lv_ior S.1 S.2.1 dL_solid_28 ?_
          refine lv_istore_n (lv' := [(1, .int (r ||| (nI (0)))), (0, .int (x)), (2, .int (nI (j)))]) S.1 S.2.1 dL_solid_29 rfl hl (by decide) rfl (fun ls hl => ?_)
          refine lv_iinc (v := nI (j + 1)) (lv' := [(2, .int (nI (j + 1))), (1, .int (r ||| (nI (0)))), (0, .int (x))]) S.1 S.2.1 dL_solid_30 hl (k := 2) rfl (mi_inc _) (by decide) rfl (fun ls hl => ?_)
          refine lv_goto (tgt := 4) S.1 S.2.1 dL_solid_33 (by decide) ?_
          exact ih4 (r ||| (nI (0))) (j + 1) _ (by omega) (by omega) (by first | exact lj_so_0 hr9 (by assumption) | exact lj_so_1 hr9 (by omega) (by assumption))  (lv_sub hl [2, 1, 0] rfl)
        · refine lv_iconst (v := nI 1) S.1 S.2.1 dL_solid_21 (by decide) ?_
          refine lv_iload_n S.1 S.2.1 dL_solid_22 rfl (lv_at hl 2 rfl) ?_
          refine lv_ishl S.1 S.2.1 dL_solid_23 ?_
          refine lv_goto (tgt := 28) S.1 S.2.1 dL_solid_24 (by decide) ?_
          refine lv_ior S.1 S.2.1 dL_solid_28 ?_
          refine lv_istore_n (lv' := [(1, .int (r ||| ((nI (1)) <<< ((nI (j)) &&& 31)))), (0, .int (x)), (2, .int (nI (j)))]) S.1 S.2.1 dL_solid_29 rfl hl (by decide) rfl (fun ls hl => ?_)
          refine lv_iinc (v := nI (j + 1)) (lv' := [(2, .int (nI (j + 1))), (1, .int (r ||| ((nI (1)) <<< ((nI (j)) &&& 31)))), (0, .int (x))]) S.1 S.2.1 dL_solid_30 hl (k := 2) rfl (mi_inc _) (by decide) rfl (fun ls hl => ?_)
          refine lv_goto (tgt := 4) S.1 S.2.1 dL_solid_33 (by decide) ?_
          exact ih4 (r ||| ((nI (1)) <<< ((nI (j)) &&& 31))) (j + 1) _ (by omega) (by omega) (by first | exact lj_so_0 hr9 (by assumption) | exact lj_so_1 hr9 (by omega) (by assumption))  (lv_sub hl [2, 1, 0] rfl)
  exact lp4 _ 0 0 _ (Nat.lt_succ_self _) (by omega) (fun i hi => by rw [b_0, decide_eq_false (Nat.not_lt_zero i), Bool.false_and])  (lv_sub hl [2, 1, 0] rfl)
set_option maxHeartbeats 4000000 in
set_option maxRecDepth 100000 in
theorem c_Lheight (l : Launch) (D : va_G) (A : Nat → Prop) (P : Heap → Prop) {x : Int32} {K : Nat → Nat} {c9 : Nat} (hx : mo_pk x K c9) (hK : ∀ l, l < 8 → K (8 * c9 + l) < 4) : mi_Rd l yL_height (Cond.code yL_height cL_height 3 (some Jvm.ClassFile.FieldType.int)) (mi_rm 0) D A (P) [.int (x)] (fun r => r = nI (sp_h K c9 8)) := by
  refine mi_start (cc := cL_height) (nL := 3) (ret := (some Jvm.ClassFile.FieldType.int)) rfl (by decide) (Nat.le_of_ble_eq_true rfl) ?_
  intro p e s m below meth c ls S E hW hS hr hk hn hl
  have S : CallFix p m c cL_height 3 s _ ((Cond.code yL_height cL_height 3 (some Jvm.ClassFile.FieldType.int)) :: mi_G) RL := S
  have hl : lv_has ls 3 [(0, .int (x))] := hl
  refine lv_iconst (v := nI 0) S.1 S.2.1 dL_height_0 (by decide) ?_
  refine lv_istore_n (lv' := [(1, .int (nI (0))), (0, .int (x))]) S.1 S.2.1 dL_height_1 rfl hl (by decide) rfl (fun ls hl => ?_)
  refine lv_iload_n S.1 S.2.1 dL_height_2 rfl (lv_at hl 1 rfl) ?_
  refine lv_istore_n (lv' := [(2, .int (x)), (1, .int (nI (0))), (0, .int (x))]) S.1 S.2.1 dL_height_3 rfl hl (by decide) rfl (fun ls hl => ?_)
  have lp4 : ∀ (n4 : Nat) (n : Nat) (y : Int32) (ls : Array Slot), sp_h K c9 8 - n < n4 → n ≤ sp_h K c9 8 → (∀ i, i < 32 → bt y i = bt x (2 * n + i)) → lv_has ls 3 [(0, .int (x)), (1, .int (nI (n))), (2, .int (y))] → W p l e (mi_rm 0) s m ([.int (x)] : List Value).toArray below meth c s.heap [] 0 0 (MQ below (vp_Si (fun r => r = nI (sp_h K c9 8))) ([.int (x)] : List Value).toArray s 0 0 (fun _ => False)) (F0 m 4 ls []) := by
    intro n4
    induction n4 with
    | zero => intro n y ls hm hn hy  hl; exact absurd hm (Nat.not_lt_zero _)
    | succ n4 ih4 =>
      intro n y ls hm hn hy  hl
      have hle := sp_h_le K c9 8
      refine lv_iload_n S.1 S.2.1 dL_height_4 rfl (lv_at hl 2 rfl) ?_
      refine mi_xif_le (tgt := 18) S (rfl : (y).toInt = _) dL_height_5 (by decide) (fun c5_0 => ?_) (fun c5_0 => ?_)
      · refine lv_iload_n S.1 S.2.1 dL_height_18 rfl (lv_at hl 1 rfl) ?_
        exact mi_retR S hr hk dL_height_19 (by have h8 := (lj_hz hx hK hy).1 (by omega); rw [show sp_h K c9 8 = n by omega])
      · have hgt := (lj_hz hx hK hy).2 (by omega)
        refine lv_iinc (v := nI (n + 1)) (lv' := [(1, .int (nI (n + 1))), (0, .int (x)), (2, .int (y))]) S.1 S.2.1 dL_height_8 hl (k := 1) rfl (mi_inc _) (by decide) rfl (fun ls hl => ?_)
        refine lv_iload_n S.1 S.2.1 dL_height_11 rfl (lv_at hl 2 rfl) ?_
        refine lv_iconst (v := nI 2) S.1 S.2.1 dL_height_12 (by decide) ?_
        refine lv_ishr S.1 S.2.1 dL_height_13 ?_
        refine lv_istore_n (lv' := [(2, .int (y >>> ((nI (2)) &&& 31))), (1, .int (nI (n + 1))), (0, .int (x))]) S.1 S.2.1 dL_height_14 rfl hl (by decide) rfl (fun ls hl => ?_)
        refine lv_goto (tgt := 4) S.1 S.2.1 dL_height_15 (by decide) ?_
        exact ih4 (n + 1) (y >>> ((nI (2)) &&& 31)) _ (by omega) (by omega) (lj_hs hx hy)  (lv_sub hl [2, 1, 0] rfl)
  exact lp4 _ 0 x _ (Nat.lt_succ_self _) (by omega) (fun i _ => by rw [Nat.mul_zero, Nat.zero_add])  (lv_sub hl [2, 1, 0] rfl)
set_option maxHeartbeats 4000000 in
set_option maxRecDepth 100000 in
theorem c_Lworn (l : Launch) (D : va_G) (A : Nat → Prop) (P : Heap → Prop) {x : Int64} {h : Nat → Nat} {k : Nat} (hx : lj_hp x h) (hb0 : ∀ c, c < 16 → h c ≤ 8) (hk1 : 1 ≤ k) (hk2 : k ≤ 1000) : mi_Rl l yL_worn (Cond.code yL_worn cL_worn 8 (some Jvm.ClassFile.FieldType.long)) (mi_rm 1) D A (P) [.long (x), .int (nI (k))] (fun r => lj_hp r (wn h ((k - 1) / 2))) := by
  refine mi_start (cc := cL_worn) (nL := 8) (ret := (some Jvm.ClassFile.FieldType.long)) rfl (by decide) (Nat.le_of_ble_eq_true rfl) ?_
  intro p e s m below meth c ls S E hW hS hr hk hn hl
  have S : CallFix p m c cL_worn 8 s _ ((Cond.code yL_worn cL_worn 8 (some Jvm.ClassFile.FieldType.long)) :: mi_G) RL := S
  have hl : lv_has ls 8 [(0, .long (x)), (2, .int (nI (k)))] := hl
  refine lv_lload_n S.1 S.2.1 dL_worn_0 rfl (lv_at hl 0 rfl) ?_
  refine lv_lstore_n (lv' := [(3, .long (x)), (0, .long (x)), (2, .int (nI (k)))]) S.1 S.2.1 dL_worn_1 rfl hl (by decide) rfl (fun ls hl => ?_)
  refine lv_iconst (v := nI 1) S.1 S.2.1 dL_worn_2 (by decide) ?_
  refine lv_istore (lv' := [(5, .int (nI (1))), (3, .long (x)), (0, .long (x)), (2, .int (nI (k)))]) S.1 S.2.1 dL_worn_3 hl (by decide) rfl (fun ls hl => ?_)
  have lp5 : ∀ (n5 : Nat) (y : Int64) (g : Nat → Nat) (j : Nat) (ls : Array Slot), (k - 1) / 2 + 1 - j < n5 → j ≤ (k - 1) / 2 → lj_hp y g → g = wn h j → (∀ c, c < 16 → g c ≤ 8) → lv_has ls 8 [(0, .long (x)), (2, .int (nI (k))), (3, .long (y)), (5, .int (nI (j + 1)))] → W p l e (mi_rm 1) s m ([.long (x), .int (nI (k))] : List Value).toArray below meth c s.heap [] 0 0 (MQ below (vp_Sl (fun r => lj_hp r (wn h ((k - 1) / 2)))) ([.long (x), .int (nI (k))] : List Value).toArray s 0 0 (fun _ => False)) (F0 m 5 ls []) := by
    intro n5
    induction n5 with
    | zero => intro y g j ls hm hj hy hg hb  hl; exact absurd hm (Nat.not_lt_zero _)
    | succ n5 ih5 =>
      intro y g j ls hm hj hy hg hb  hl
      refine lv_iload S.1 S.2.1 dL_worn_5 (lv_at hl 3 rfl) ?_
      refine lv_iload_n S.1 S.2.1 dL_worn_7 rfl (lv_at hl 1 rfl) ?_
      refine lv_iconst (v := nI 1) S.1 S.2.1 dL_worn_8 (by decide) ?_
      refine mi_isub S (by omega) dL_worn_9 ?_
      refine lv_iconst (v := nI 2) S.1 S.2.1 dL_worn_10 (by decide) ?_
      refine mi_idiv S (by omega) (by omega) (by omega) dL_worn_11 ?_
      refine mi_icmp_gt (tgt := 76) S (by omega) (by omega) dL_worn_12 (by decide) (fun c12_0 => ?_) (fun c12_0 => ?_)
      · refine lv_lload_n S.1 S.2.1 dL_worn_76 rfl (lv_at hl 2 rfl) ?_
        exact mi_retL S hr hk dL_worn_77 (by rw [hg, show j = (k - 1) / 2 by omega] at hy; exact hy)
      · refine lv_iconst (v := nI 0) S.1 S.2.1 dL_worn_15 (by decide) ?_
        refine lv_istore (lv' := [(6, .int (nI (0))), (0, .long (x)), (2, .int (nI (k))), (3, .long (y)), (5, .int (nI (j + 1)))]) S.1 S.2.1 dL_worn_16 hl (by decide) rfl (fun ls hl => ?_)
        refine lv_bipush (v := nI 15) S.1 S.2.1 dL_worn_18 (by decide) ?_
        refine lv_istore (lv' := [(7, .int (nI (15))), (6, .int (nI (0))), (0, .long (x)), (2, .int (nI (k))), (3, .long (y)), (5, .int (nI (j + 1)))]) S.1 S.2.1 dL_worn_20 hl (by decide) rfl (fun ls hl => ?_)
        have lp22 : ∀ (n22 : Nat) (u : Nat) (t : Nat) (ls : Array Slot), u < n22 → u ≤ 16 → t < 16 → wq g u t → lv_has ls 8 [(0, .long (x)), (2, .int (nI (k))), (3, .long (y)), (5, .int (nI (j + 1))), (6, .int (nI (t))), (7, .int (mi_dn u))] → W p l e (mi_rm 1) s m ([.long (x), .int (nI (k))] : List Value).toArray below meth c s.heap [] 0 0 (MQ below (vp_Sl (fun r => lj_hp r (wn h ((k - 1) / 2)))) ([.long (x), .int (nI (k))] : List Value).toArray s 0 0 (fun _ => False)) (F0 m 22 ls []) := by
          intro n22
          induction n22 with
          | zero => intro u t ls hm hu ht hq  hl; exact absurd hm (Nat.not_lt_zero _)
          | succ n22 ih22 =>
            intro u t ls hm hu ht hq  hl
            refine lv_iload S.1 S.2.1 dL_worn_22 (lv_at hl 5 rfl) ?_
            refine mi_xif_lt (tgt := 52) S (mi_dn_toInt (n := u) (by omega)) dL_worn_24 (by decide) (fun c24_1 => ?_) (fun c24_1 => ?_)
            · have hu0 : u = 0 := by omega
              rw [hu0] at hq
              have htm := wq_e hq ht
              refine lv_lload_n S.1 S.2.1 dL_worn_52 rfl (lv_at hl 2 rfl) ?_
              refine lv_iload S.1 S.2.1 dL_worn_53 (lv_at hl 4 rfl) ?_
              refine mi_cR (mi_runS (P := P) (As := [.long (y), .int (nI (t))]) (rest := []) S E hS hW (c_Lat l D A (P) (by omega)) mw_560 mw_558 mw_559 mw_17 ⟨by decide, by decide, by decide +kernel⟩ ⟨rfl, rfl, Nat.le_of_ble_eq_true rfl, Nat.le_of_ble_eq_true rfl⟩ (n := 2) rfl hl.1 rfl (Nat.le_of_ble_eq_true rfl) dL_worn_55 ⟨Nat.le_of_ble_eq_true rfl, Nat.le_of_ble_eq_true rfl⟩) (fun r9 e9 => ?_)
              subst e9
              refine mi_top (v' := .int (nI (g t))) (congrArg Value.int (hy t (by omega))) ?_
              have hb55 := hb t (by omega)
              refine mi_if_le (tgt := 70) S (by omega) dL_worn_58 (by decide) (fun c58_2 => ?_) (fun c58_2 => ?_)
              · refine lv_iinc (v := nI (j + 1 + 1)) (lv' := [(5, .int (nI (j + 1 + 1))), (0, .long (x)), (2, .int (nI (k))), (3, .long (y)), (6, .int (nI (t))), (7, .int (mi_dn u))]) S.1 S.2.1 dL_worn_70 hl (k := 3) rfl (mi_inc _) (by decide) rfl (fun ls hl => ?_)
                refine lv_goto (tgt := 5) S.1 S.2.1 dL_worn_73 (by decide) ?_
                exact ih5 y (wr g) (j + 1) _ (by omega) (by omega) (wr_hp0 hy htm (by assumption)) (by rw [hg]; rfl) (fun c hc => Nat.le_trans (wr_le g c) (hb c hc))  (lv_sub hl [1, 2, 3, 0] rfl)
              · refine lv_lload_n S.1 S.2.1 dL_worn_61 rfl (lv_at hl 2 rfl) ?_
                refine lv_lconst (v := 1) S.1 S.2.1 dL_worn_62 (by decide) ?_
                refine lv_iconst (v := nI 4) S.1 S.2.1 dL_worn_63 (by decide) ?_
                refine lv_iload S.1 S.2.1 dL_worn_64 (lv_at hl 4 rfl) ?_
                refine mi_imul S dL_worn_66 ?_
                refine lv_lshl S.1 S.2.1 dL_worn_67 rfl ?_
                refine lv_lsub S.1 S.2.1 dL_worn_68 ?_
                refine lv_lstore_n (lv' := [(3, .long (y - (1 <<< ((nI (4 * t)).toInt64 &&& 63)))), (0, .long (x)), (2, .int (nI (k))), (5, .int (nI (j + 1))), (6, .int (nI (t))), (7, .int (mi_dn u))]) S.1 S.2.1 dL_worn_69 rfl hl (by decide) rfl (fun ls hl => ?_)
                refine lv_iinc (v := nI (j + 1 + 1)) (lv' := [(5, .int (nI (j + 1 + 1))), (3, .long (y - (1 <<< ((nI (4 * t)).toInt64 &&& 63)))), (0, .long (x)), (2, .int (nI (k))), (6, .int (nI (t))), (7, .int (mi_dn u))]) S.1 S.2.1 dL_worn_70 hl (k := 3) rfl (mi_inc _) (by decide) rfl (fun ls hl => ?_)
                refine lv_goto (tgt := 5) S.1 S.2.1 dL_worn_73 (by decide) ?_
                exact ih5 (y - (1 <<< ((nI (4 * t)).toInt64 &&& 63))) (wr g) (j + 1) _ (by omega) (by omega) (wr_hp1 hy htm ht (by assumption) hb) (by rw [hg]; rfl) (fun c hc => Nat.le_trans (wr_le g c) (hb c hc))  (lv_sub hl [2, 3, 1, 0] rfl)
            · obtain ⟨u, rfl⟩ : ∃ z, u = z + 1 := ⟨u - 1, by omega⟩
              have hl : lv_has ls 8 [(0, .long (x)), (2, .int (nI (k))), (3, .long (y)), (5, .int (nI (j + 1))), (6, .int (nI (t))), (7, .int (nI (u)))] := hl
              refine lv_lload_n S.1 S.2.1 dL_worn_27 rfl (lv_at hl 2 rfl) ?_
              refine lv_iload S.1 S.2.1 dL_worn_28 (lv_at hl 5 rfl) ?_
              refine mi_cR (mi_runS (P := P) (As := [.long (y), .int (nI (u))]) (rest := []) S E hS hW (c_Lat l D A (P) (by omega)) mw_560 mw_558 mw_559 mw_17 ⟨by decide, by decide, by decide +kernel⟩ ⟨rfl, rfl, Nat.le_of_ble_eq_true rfl, Nat.le_of_ble_eq_true rfl⟩ (n := 2) rfl hl.1 rfl (Nat.le_of_ble_eq_true rfl) dL_worn_30 ⟨Nat.le_of_ble_eq_true rfl, Nat.le_of_ble_eq_true rfl⟩) (fun r9 e9 => ?_)
              subst e9
              refine mi_top (v' := .int (nI (g u))) (congrArg Value.int (hy u (by omega))) ?_
              have hb30 := hb u (by omega)
              refine lv_lload_n S.1 S.2.1 dL_worn_33 rfl (lv_at hl 2 rfl) ?_
              refine lv_iload S.1 S.2.1 dL_worn_34 (lv_at hl 4 rfl) ?_
              refine mi_cR (mi_runS (P := P) (As := [.long (y), .int (nI (t))]) (rest := [.int (nI (g u))]) S E hS hW (c_Lat l D A (P) (by omega)) mw_560 mw_558 mw_559 mw_17 ⟨by decide, by decide, by decide +kernel⟩ ⟨rfl, rfl, Nat.le_of_ble_eq_true rfl, Nat.le_of_ble_eq_true rfl⟩ (n := 2) rfl hl.1 rfl (Nat.le_of_ble_eq_true rfl) dL_worn_36 ⟨Nat.le_of_ble_eq_true rfl, Nat.le_of_ble_eq_true rfl⟩) (fun r9 e9 => ?_)
              subst e9
              refine mi_top (v' := .int (nI (g t))) (congrArg Value.int (hy t (by omega))) ?_
              have hb36 := hb t (by omega)
              refine mi_icmp_lt (tgt := 46) S (by omega) (by omega) dL_worn_39 (by decide) (fun c39_3 => ?_) (fun c39_3 => ?_)
              · refine lv_iinc (v := mi_dn u) (lv' := [(7, .int (mi_dn u)), (0, .long (x)), (2, .int (nI (k))), (3, .long (y)), (5, .int (nI (j + 1))), (6, .int (nI (t)))]) S.1 S.2.1 dL_worn_46 hl (k := 5) rfl (mi_dn_dec u) (by decide) rfl (fun ls hl => ?_)
                refine lv_goto (tgt := 22) S.1 S.2.1 dL_worn_49 (by decide) ?_
                exact ih22 u t _ (by omega) (by omega) (by omega) (by first | exact wq_2 hq (by assumption) | exact wq_1 hq (by assumption))  (lv_sub hl [1, 2, 3, 4, 5, 0] rfl)
              · refine lv_iload S.1 S.2.1 dL_worn_42 (lv_at hl 5 rfl) ?_
                refine lv_istore (lv' := [(6, .int (nI (u))), (0, .long (x)), (2, .int (nI (k))), (3, .long (y)), (5, .int (nI (j + 1))), (7, .int (nI (u)))]) S.1 S.2.1 dL_worn_44 hl (by decide) rfl (fun ls hl => ?_)
                refine lv_iinc (v := mi_dn u) (lv' := [(7, .int (mi_dn u)), (6, .int (nI (u))), (0, .long (x)), (2, .int (nI (k))), (3, .long (y)), (5, .int (nI (j + 1)))]) S.1 S.2.1 dL_worn_46 hl (k := 5) rfl (mi_dn_dec u) (by decide) rfl (fun ls hl => ?_)
                refine lv_goto (tgt := 22) S.1 S.2.1 dL_worn_49 (by decide) ?_
                exact ih22 u u _ (by omega) (by omega) (by omega) (by first | exact wq_2 hq (by assumption) | exact wq_1 hq (by assumption))  (lv_sub hl [2, 3, 4, 5, 1, 0] rfl)
        exact lp22 _ 16 0 _ (Nat.lt_succ_self _) (by omega) (by omega) (wq_0 g)  (lv_sub hl [2, 3, 4, 5, 1, 0] rfl)
  exact lp5 _ x h 0 _ (Nat.lt_succ_self _) (Nat.zero_le _) (hx) (rfl) (hb0)  (lv_sub hl [2, 3, 1, 0] rfl)
set_option maxHeartbeats 4000000 in
set_option maxRecDepth 100000 in
theorem c_Lfar (l : Launch) (D : va_G) (A : Nat → Prop) (P : Heap → Prop) {x y : Int64} {h k : Nat → Nat} (hx : lj_hp x h) (hy : lj_hp y k) (bh : ∀ c, c < 16 → h c ≤ 8) (bk : ∀ c, c < 16 → k c ≤ 8) : mi_Rd l yL_far (Cond.code yL_far cL_far 6 (some Jvm.ClassFile.FieldType.int)) (mi_rm 1) D A (P) [.long (x), .long (y)] (fun r => r = nI (sp_ds h k 16)) := by
  refine mi_start (cc := cL_far) (nL := 6) (ret := (some Jvm.ClassFile.FieldType.int)) rfl (by decide) (Nat.le_of_ble_eq_true rfl) ?_
  intro p e s m below meth c ls S E hW hS hr hk hn hl
  have S : CallFix p m c cL_far 6 s _ ((Cond.code yL_far cL_far 6 (some Jvm.ClassFile.FieldType.int)) :: mi_G) RL := S
  have hl : lv_has ls 6 [(0, .long (x)), (2, .long (y))] := hl
  refine lv_iconst (v := nI 0) S.1 S.2.1 dL_far_0 (by decide) ?_
  refine lv_istore (lv' := [(4, .int (nI (0))), (0, .long (x)), (2, .long (y))]) S.1 S.2.1 dL_far_1 hl (by decide) rfl (fun ls hl => ?_)
  refine lv_iconst (v := nI 0) S.1 S.2.1 dL_far_3 (by decide) ?_
  refine lv_istore (lv' := [(5, .int (nI (0))), (4, .int (nI (0))), (0, .long (x)), (2, .long (y))]) S.1 S.2.1 dL_far_4 hl (by decide) rfl (fun ls hl => ?_)
  have lp6 : ∀ (n6 : Nat) (r : Nat) (j : Nat) (ls : Array Slot), 16 - j < n6 → j ≤ 16 → r = sp_ds h k j → r ≤ 8 * j → lv_has ls 6 [(0, .long (x)), (2, .long (y)), (4, .int (nI (r))), (5, .int (nI (j)))] → W p l e (mi_rm 1) s m ([.long (x), .long (y)] : List Value).toArray below meth c s.heap [] 0 0 (MQ below (vp_Si (fun r => r = nI (sp_ds h k 16))) ([.long (x), .long (y)] : List Value).toArray s 0 0 (fun _ => False)) (F0 m 6 ls []) := by
    intro n6
    induction n6 with
    | zero => intro r j ls hm hj hr9 hrb  hl; exact absurd hm (Nat.not_lt_zero _)
    | succ n6 ih6 =>
      intro r j ls hm hj hr9 hrb  hl
      refine lv_iload S.1 S.2.1 dL_far_6 (lv_at hl 3 rfl) ?_
      refine lv_bipush (v := nI 16) S.1 S.2.1 dL_far_8 (by decide) ?_
      refine mi_icmp_ge (tgt := 68) S (by omega) (by omega) dL_far_10 (by decide) (fun c10_0 => ?_) (fun c10_0 => ?_)
      · refine lv_iload S.1 S.2.1 dL_far_68 (lv_at hl 2 rfl) ?_
        exact mi_retR S hr hk dL_far_70 (by rw [hr9, show j = 16 by omega])
      · refine lv_iload S.1 S.2.1 dL_far_13 (lv_at hl 2 rfl) ?_
        refine lv_lload_n S.1 S.2.1 dL_far_15 rfl (lv_at hl 0 rfl) ?_
        refine lv_iload S.1 S.2.1 dL_far_16 (lv_at hl 3 rfl) ?_
        refine mi_cR (mi_runS (P := P) (As := [.long (x), .int (nI (j))]) (rest := [.int (nI (r))]) S E hS hW (c_Lat l D A (P) (by omega)) mw_560 mw_558 mw_559 mw_17 ⟨by decide, by decide, by decide +kernel⟩ ⟨rfl, rfl, Nat.le_of_ble_eq_true rfl, Nat.le_of_ble_eq_true rfl⟩ (n := 2) rfl hl.1 rfl (Nat.le_of_ble_eq_true rfl) dL_far_18 ⟨Nat.le_of_ble_eq_true rfl, Nat.le_of_ble_eq_true rfl⟩) (fun r9 e9 => ?_)
        subst e9
        refine mi_top (v' := .int (nI (h j))) (congrArg Value.int (hx j (by omega))) ?_
        have hb18 := bh j (by omega)
        refine lv_lload_n S.1 S.2.1 dL_far_21 rfl (lv_at hl 1 rfl) ?_
        refine lv_iload S.1 S.2.1 dL_far_22 (lv_at hl 3 rfl) ?_
        refine mi_cR (mi_runS (P := P) (As := [.long (y), .int (nI (j))]) (rest := [.int (nI (h j)), .int (nI (r))]) S E hS hW (c_Lat l D A (P) (by omega)) mw_560 mw_558 mw_559 mw_17 ⟨by decide, by decide, by decide +kernel⟩ ⟨rfl, rfl, Nat.le_of_ble_eq_true rfl, Nat.le_of_ble_eq_true rfl⟩ (n := 2) rfl hl.1 rfl (Nat.le_of_ble_eq_true rfl) dL_far_24 ⟨Nat.le_of_ble_eq_true rfl, Nat.le_of_ble_eq_true rfl⟩) (fun r9 e9 => ?_)
        subst e9
        refine mi_top (v' := .int (nI (k j))) (congrArg Value.int (hy j (by omega))) ?_
        have hb24 := bk j (by omega)
        refine mi_icmp_le (tgt := 46) S (by omega) (by omega) dL_far_27 (by decide) (fun c27_1 => ?_) (fun c27_1 => ?_)
        · refine lv_lload_n S.1 S.2.1 dL_far_46 rfl (lv_at hl 1 rfl) ?_
          refine lv_iload S.1 S.2.1 dL_far_47 (lv_at hl 3 rfl) ?_
          refine mi_cR (mi_runS (P := P) (As := [.long (y), .int (nI (j))]) (rest := [.int (nI (r))]) S E hS hW (c_Lat l D A (P) (by omega)) mw_560 mw_558 mw_559 mw_17 ⟨by decide, by decide, by decide +kernel⟩ ⟨rfl, rfl, Nat.le_of_ble_eq_true rfl, Nat.le_of_ble_eq_true rfl⟩ (n := 2) rfl hl.1 rfl (Nat.le_of_ble_eq_true rfl) dL_far_49 ⟨Nat.le_of_ble_eq_true rfl, Nat.le_of_ble_eq_true rfl⟩) (fun r9 e9 => ?_)
          subst e9
          refine mi_top (v' := .int (nI (k j))) (congrArg Value.int (hy j (by omega))) ?_
          have hb49 := bk j (by omega)
          refine lv_lload_n S.1 S.2.1 dL_far_52 rfl (lv_at hl 0 rfl) ?_
          refine lv_iload S.1 S.2.1 dL_far_53 (lv_at hl 3 rfl) ?_
          refine mi_cR (mi_runS (P := P) (As := [.long (x), .int (nI (j))]) (rest := [.int (nI (k j)), .int (nI (r))]) S E hS hW (c_Lat l D A (P) (by omega)) mw_560 mw_558 mw_559 mw_17 ⟨by decide, by decide, by decide +kernel⟩ ⟨rfl, rfl, Nat.le_of_ble_eq_true rfl, Nat.le_of_ble_eq_true rfl⟩ (n := 2) rfl hl.1 rfl (Nat.le_of_ble_eq_true rfl) dL_far_55 ⟨Nat.le_of_ble_eq_true rfl, Nat.le_of_ble_eq_true rfl⟩) (fun r9 e9 => ?_)
          subst e9
          refine mi_top (v' := .int (nI (h j))) (congrArg Value.int (hx j (by omega))) ?_
          have hb55 := bh j (by omega)
          refine mi_isub S (by omega) dL_far_58 ?_
          refine mi_iadd S dL_far_59 ?_
          refine lv_istore (lv' := [(4, .int (nI (r + ((k j) - (h j))))), (0, .long (x)), (2, .long (y)), (5, .int (nI (j)))]) S.1 S.2.1 dL_far_60 hl (by decide) rfl (fun ls hl => ?_)
          refine lv_iinc (v := nI (j + 1)) (lv' := [(5, .int (nI (j + 1))), (4, .int (nI (r + ((k j) - (h j))))), (0, .long (x)), (2, .long (y))]) S.1 S.2.1 dL_far_62 hl (k := 3) rfl (mi_inc _) (by decide) rfl (fun ls hl => ?_)
          refine lv_goto (tgt := 6) S.1 S.2.1 dL_far_65 (by decide) ?_
          exact ih6 (r + ((k j) - (h j))) (j + 1) _ (by omega) (by omega) (by rw [sp_ds_s, ← hr9]; unfold sp_df; split <;> omega) (by omega)  (lv_sub hl [2, 3, 1, 0] rfl)
        · refine lv_lload_n S.1 S.2.1 dL_far_30 rfl (lv_at hl 0 rfl) ?_
          refine lv_iload S.1 S.2.1 dL_far_31 (lv_at hl 3 rfl) ?_
          refine mi_cR (mi_runS (P := P) (As := [.long (x), .int (nI (j))]) (rest := [.int (nI (r))]) S E hS hW (c_Lat l D A (P) (by omega)) mw_560 mw_558 mw_559 mw_17 ⟨by decide, by decide, by decide +kernel⟩ ⟨rfl, rfl, Nat.le_of_ble_eq_true rfl, Nat.le_of_ble_eq_true rfl⟩ (n := 2) rfl hl.1 rfl (Nat.le_of_ble_eq_true rfl) dL_far_33 ⟨Nat.le_of_ble_eq_true rfl, Nat.le_of_ble_eq_true rfl⟩) (fun r9 e9 => ?_)
          subst e9
          refine mi_top (v' := .int (nI (h j))) (congrArg Value.int (hx j (by omega))) ?_
          have hb33 := bh j (by omega)
          refine lv_lload_n S.1 S.2.1 dL_far_36 rfl (lv_at hl 1 rfl) ?_
          refine lv_iload S.1 S.2.1 dL_far_37 (lv_at hl 3 rfl) ?_
          refine mi_cR (mi_runS (P := P) (As := [.long (y), .int (nI (j))]) (rest := [.int (nI (h j)), .int (nI (r))]) S E hS hW (c_Lat l D A (P) (by omega)) mw_560 mw_558 mw_559 mw_17 ⟨by decide, by decide, by decide +kernel⟩ ⟨rfl, rfl, Nat.le_of_ble_eq_true rfl, Nat.le_of_ble_eq_true rfl⟩ (n := 2) rfl hl.1 rfl (Nat.le_of_ble_eq_true rfl) dL_far_39 ⟨Nat.le_of_ble_eq_true rfl, Nat.le_of_ble_eq_true rfl⟩) (fun r9 e9 => ?_)
          subst e9
          refine mi_top (v' := .int (nI (k j))) (congrArg Value.int (hy j (by omega))) ?_
          have hb39 := bk j (by omega)
          refine mi_isub S (by omega) dL_far_42 ?_
          refine lv_goto (tgt := 59) S.1 S.2.1 dL_far_43 (by decide) ?_
          refine mi_iadd S dL_far_59 ?_
          refine lv_istore (lv' := [(4, .int (nI (r + ((h j) - (k j))))), (0, .long (x)), (2, .long (y)), (5, .int (nI (j)))]) S.1 S.2.1 dL_far_60 hl (by decide) rfl (fun ls hl => ?_)
          refine lv_iinc (v := nI (j + 1)) (lv' := [(5, .int (nI (j + 1))), (4, .int (nI (r + ((h j) - (k j))))), (0, .long (x)), (2, .long (y))]) S.1 S.2.1 dL_far_62 hl (k := 3) rfl (mi_inc _) (by decide) rfl (fun ls hl => ?_)
          refine lv_goto (tgt := 6) S.1 S.2.1 dL_far_65 (by decide) ?_
          exact ih6 (r + ((h j) - (k j))) (j + 1) _ (by omega) (by omega) (by rw [sp_ds_s, ← hr9]; unfold sp_df; split <;> omega) (by omega)  (lv_sub hl [2, 3, 1, 0] rfl)
  exact lp6 _ 0 0 _ (Nat.lt_succ_self _) (by omega) (rfl) (by omega)  (lv_sub hl [2, 3, 1, 0] rfl)
set_option maxHeartbeats 4000000 in
set_option maxRecDepth 100000 in
theorem c_Lcell (l : Launch) {b L k : Nat} {xs : Nat → Int32} (hk9 : k < 1000) (hL : L ≤ 260) : Met l yL_cell ((Cond.code yL_cell cL_cell 2 (some Jvm.ClassFile.FieldType.int)) :: mi_G) (mi_rm 0) (va_Pc [.ref b, .int (nI k)] (fun U => va_X b L xs U U.heap)) (vp_Si (fun _ => True)) 0 0 (fun _ => False) := by
  refine mi_startS (cc := cL_cell) (nL := 2) (ret := (some Jvm.ClassFile.FieldType.int)) rfl (by decide) (Nat.le_of_ble_eq_true rfl) ?_
  intro p e s m below meth c ls S hX hr hk hl
  have S : CallFix p m c cL_cell 2 s _ ((Cond.code yL_cell cL_cell 2 (some Jvm.ClassFile.FieldType.int)) :: mi_G) RL := S
  have hl : lv_has ls 2 [(0, .ref b), (1, .int (nI k))] := hl
  have hS : va_S (fun _ => False) s.heap s.heap [] := va_S.rf
  have hbl : b < s.heap.size := by obtain ⟨scr, h1, -⟩ := hX; exact (Array.getElem?_eq_some_iff.mp h1).1
  refine lv_iload_n S.1 S.2.1 dL_cell_0 rfl (lv_at hl 1 rfl) ?_
  refine lv_aload_n S.1 S.2.1 dL_cell_1 rfl (lv_at hl 0 rfl) ?_
  refine va_slen S.1 S.2.1 hX hbl (fun h => h) hS dL_cell_2 ?_
  refine mi_top (v' := .int (nI L)) rfl ?_
  refine mi_icmp_ge (tgt := 12) S (by omega) (by omega) dL_cell_3 (by decide) (fun c1 => ?_) (fun c1 => ?_)
  · refine lv_ldc (v := 1172031465) S.1 S.2.1 S.2.2.2.1 (S.2.2.2.2 _ (List.mem_cons_of_mem _ mw_c7)) dL_cell_12 ?_
    refine lv_iload_n S.1 S.2.1 dL_cell_14 rfl (lv_at hl 1 rfl) ?_
    refine lv_iconst (v := nI 5) S.1 S.2.1 dL_cell_15 (by decide) ?_
    refine lv_iadd S.1 S.2.1 dL_cell_16 ?_
    refine lv_imul S.1 S.2.1 dL_cell_17 ?_
    exact mi_retR S hr hk dL_cell_18 trivial
  · refine lv_aload_n S.1 S.2.1 dL_cell_6 rfl (lv_at hl 0 rfl) ?_
    refine lv_iload_n S.1 S.2.1 dL_cell_7 rfl (lv_at hl 1 rfl) ?_
    refine va_sld S.1 S.2.1 hX hbl (fun h => h) hS (vp_in_nI (by omega) (by omega)) dL_cell_8 ?_
    refine lv_goto (tgt := 18) S.1 S.2.1 dL_cell_9 (by decide) ?_
    exact mi_retR S hr hk dL_cell_18 trivial
