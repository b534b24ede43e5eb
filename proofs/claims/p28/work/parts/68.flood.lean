/-! the law's pieces: sets of places as bits of 16 rows; a piece grown from its lowest block -/
def lp_s (v : Nat → Int32) (X : Nat → Prop) : Prop := ∀ c, c < 16 → ∀ i, i < 32 → (bt (v c) i = true ↔ i < 8 ∧ X (8 * c + i))
/-- blocks that no block below p holds to -/
def pc_X (K : Nat → Nat) (p x : Nat) : Prop := K x ≠ 0 ∧ ∀ p', p' < p → K p' ≠ 0 → ¬ pc_c K p' x
theorem pc_X_no {K : Nat → Nat} {p : Nat} (h : ¬ pc_X K p p) (x : Nat) : pc_X K (p + 1) x ↔ pc_X K p x := by
  refine ⟨fun q => ⟨q.1, fun p' h1 => q.2 p' (by omega)⟩, fun q => ⟨q.1, fun p' h1 k1 hc => ?_⟩⟩
  by_cases z : p' = p
  · subst z
    exact h ⟨k1, fun p2 h2 k2 hc2 => q.2 p2 h2 k2 (pc_tr hc2 hc)⟩
  · exact q.2 p' (by omega) k1 hc
theorem pc_X_yes {K : Nat → Nat} {p : Nat} (h : pc_X K p p) (x : Nat) : pc_X K (p + 1) x ↔ pc_X K p x ∧ ¬ pc_c K p x := by
  refine ⟨fun q => ⟨⟨q.1, fun p' h1 => q.2 p' (by omega)⟩, q.2 p (by omega) h.1⟩, fun q => ⟨q.1.1, fun p' h1 k1 hc => ?_⟩⟩
  by_cases z : p' = p
  · subst z
    exact q.2 hc
  · exact q.1.2 p' (by omega) k1 hc
theorem lp_s_cong {v : Nat → Int32} {X Y : Nat → Prop} (h : lp_s v X) (e : ∀ x, x < 128 → (Y x ↔ X x)) : lp_s v Y := fun c hc i hi => by
  rw [h c hc i hi]
  exact ⟨fun q => ⟨q.1, (e _ (by omega)).mpr q.2⟩, fun q => ⟨q.1, (e _ (by omega)).mp q.2⟩⟩
theorem lp_s_row {v w : Nat → Int32} {X : Nat → Prop} (h : lp_s v X) (e : ∀ c, c < 16 → w c = v c) : lp_s w X := fun c hc i hi => by rw [e c hc]; exact h c hc i hi
/-- places without a remaining block are passed by -/
theorem pc_adv {K : Nat → Nat} {p0 : Nat} : ∀ {n k : Nat}, (∀ j, j < n → ¬ pc_X K p0 (p0 + j)) → pc_ct (pc_lst K) p0 k → (∀ x, pc_X K (p0 + n) x ↔ pc_X K p0 x) ∧ pc_ct (pc_lst K) (p0 + n) k
  | 0, k, _, hc => ⟨fun x => Iff.rfl, hc⟩
  | n + 1, k, h, hc => by
    obtain ⟨h1, h2⟩ := pc_adv (n := n) (fun j hj => h j (by omega)) hc
    have h3 : ¬ pc_X K (p0 + n) (p0 + n) := fun q => h n (by omega) ((h1 _).mp q)
    exact ⟨fun x => (pc_X_no h3 x).trans (h1 x), pc_ct_n h2 h3⟩
theorem lp_hi {v : Nat → Int32} {X : Nat → Prop} (h : lp_s v X) {c : Nat} (hc : c < 16) : ∀ i, 8 ≤ i → bt (v c) i = false := fun i hi => by
  rcases Nat.lt_or_ge i 32 with q | q
  · cases e : bt (v c) i with
    | false => rfl
    | true => exact absurd ((h c hc i q).mp e).1 (by omega)
  · exact b_big q
theorem bt_small8 {x : Int32} (h : ∀ i, 8 ≤ i → bt x i = false) : ∃ n, n < 256 ∧ x = nI n := by
  refine ⟨x.toBitVec.toNat, ?_, Int32.toBitVec_inj.mp (by show _ = BitVec.ofNat 32 _; simp)⟩
  refine Nat.lt_pow_two_of_testBit (n := 8) _ (fun i hi => ?_)
  rw [BitVec.testBit_toNat]
  exact h i hi
theorem lp_low : ∀ n, n < 256 → n ≠ 0 → ∃ r, r < 8 ∧ bt (nI n) r = true ∧ (∀ i, i < r → bt (nI n) i = false) ∧ ∀ i, i < 32 → bt (nI n &&& -(nI n)) i = decide (i = r) := by decide +kernel
/-- a column that is 0: nothing of it is left -/
theorem lp_zero {K : Nat → Nat} {v : Nat → Int32} {a p0 k : Nat} (ha : a < 16) (h : lp_s v (pc_X K p0)) (h1 : 8 * a ≤ p0) (h2 : p0 ≤ 8 * a + 8) (hz : v a = 0) (hc : pc_ct (pc_lst K) p0 k) : lp_s v (pc_X K (8 * (a + 1))) ∧ pc_ct (pc_lst K) (8 * (a + 1)) k := by
  obtain ⟨g1, g2⟩ := pc_adv (K := K) (p0 := p0) (n := 8 * a + 8 - p0) (k := k) (fun j hj q => by
    have := (h a ha (p0 + j - 8 * a) (by omega)).mpr ⟨by omega, by rw [show 8 * a + (p0 + j - 8 * a) = p0 + j by omega]; exact q⟩
    rw [hz, b_0] at this
    cases this) hc
  rw [show p0 + (8 * a + 8 - p0) = 8 * (a + 1) by omega] at g1 g2
  exact ⟨lp_s_cong h (fun x _ => g1 x), g2⟩
/-- a column that isn't: its lowest bit is the lowest block of a piece -/
theorem lp_root {K : Nat → Nat} {v : Nat → Int32} {a p0 k : Nat} (ha : a < 16) (h : lp_s v (pc_X K p0)) (h1 : 8 * a ≤ p0) (hz : v a ≠ 0) (hc : pc_ct (pc_lst K) p0 k) : ∃ r, r < 8 ∧ p0 ≤ 8 * a + r ∧ lp_s v (pc_X K (8 * a + r)) ∧ pc_ct (pc_lst K) (8 * a + r) k ∧ pc_X K (8 * a + r) (8 * a + r) ∧ ∀ i, i < 32 → bt (v a &&& -(v a)) i = decide (i = r) := by
  obtain ⟨n, hn, e⟩ := bt_small8 (lp_hi h ha)
  obtain ⟨r, r1, r2, r3, r4⟩ := lp_low n hn (fun z => hz (by rw [e, z]; rfl))
  rw [← e] at r2 r3 r4
  have hr := ((h a ha r (by omega)).mp r2).2
  have hle : p0 ≤ 8 * a + r := by
    rcases Nat.lt_or_ge (8 * a + r) p0 with q | q
    · exact absurd pc_rf (hr.2 _ q hr.1)
    · exact q
  obtain ⟨g1, g2⟩ := pc_adv (K := K) (p0 := p0) (n := 8 * a + r - p0) (k := k) (fun j hj q => by
    have := (h a ha (p0 + j - 8 * a) (by omega)).mpr ⟨by omega, by rw [show 8 * a + (p0 + j - 8 * a) = p0 + j by omega]; exact q⟩
    rw [r3 _ (by omega)] at this
    cases this) hc
  rw [show p0 + (8 * a + r - p0) = 8 * a + r by omega] at g1 g2
  exact ⟨r, r1, hle, lp_s_cong h (fun x _ => g1 x), g2, (g1 _).mpr hr, r4⟩
/-- beside: above, below, in the four columns around -/
def lp_nr (F : Nat → Prop) (c i : Nat) : Prop := F (8 * c + i) ∨ (0 < i ∧ F (8 * c + (i - 1))) ∨ (i < 7 ∧ F (8 * c + (i + 1))) ∨ (0 < c % 4 ∧ F (8 * (c - 1) + i)) ∨ (c % 4 < 3 ∧ F (8 * (c + 1) + i)) ∨ (3 < c ∧ F (8 * (c - 4) + i)) ∨ (c < 12 ∧ F (8 * (c + 4) + i))
def lp_z1 (f : Nat → Int32) (c : Nat) : Int32 := (f c ||| f c <<< (nI 1 &&& 31)) ||| f c >>> (nI 1 &&& 31)
theorem lp_near {f : Nat → Int32} {F : Nat → Prop} (h : lp_s f F) {c : Nat} (hc : c < 16) {z2 z3 z4 z5 : Int32} (e2 : z2 = if 0 < c % 4 then lp_z1 f c ||| f (c - 1) else lp_z1 f c) (e3 : z3 = if c % 4 < 3 then z2 ||| f (c + 1) else z2) (e4 : z4 = if 3 < c then z3 ||| f (c - 4) else z3) (e5 : z5 = if c < 12 then z4 ||| f (c + 4) else z4) {i : Nat} (hi : i < 8) : bt z5 i = true ↔ lp_nr F c i := by
  have h1 : bt (lp_z1 f c) i = true ↔ F (8 * c + i) ∨ (0 < i ∧ F (8 * c + (i - 1))) ∨ (i < 7 ∧ F (8 * c + (i + 1))) := by
    unfold lp_z1
    rw [b_or, b_or, b_shl 1 (by omega) _ (by omega), b_sshr 1 (by omega) _ (by omega), if_pos (by omega), Bool.or_eq_true, Bool.or_eq_true, Bool.and_eq_true, decide_eq_true_iff, h c hc i (by omega), h c hc (i - 1) (by omega), h c hc (1 + i) (by omega), Nat.add_comm 1 i]
    constructor
    · rintro ((q | q) | q)
      · exact Or.inl q.2
      · exact Or.inr (Or.inl ⟨by omega, q.2.2⟩)
      · exact Or.inr (Or.inr ⟨by omega, q.2⟩)
    · rintro (q | q | q)
      · exact Or.inl (Or.inl ⟨hi, q⟩)
      · exact Or.inl (Or.inr ⟨by omega, by omega, q.2⟩)
      · exact Or.inr ⟨by omega, q.2⟩
  have st : ∀ (z : Int32) (P : Prop) [Decidable P] (c' : Nat), (P → c' < 16) → (bt (if P then z ||| f c' else z) i = true ↔ bt z i = true ∨ (P ∧ F (8 * c' + i))) := by
    intro z P _ c' hP
    by_cases q : P
    · rw [if_pos q, b_or, Bool.or_eq_true, h c' (hP q) i (by omega)]
      exact ⟨fun y => y.elim Or.inl (fun y => Or.inr ⟨q, y.2⟩), fun y => y.elim Or.inl (fun y => Or.inr ⟨hi, y.2⟩)⟩
    · rw [if_neg q]
      exact ⟨Or.inl, fun y => y.elim id (fun y => absurd y.1 q)⟩
  rw [e5, st z4 _ (c + 4) (by omega), e4, st z3 _ (c - 4) (by omega), e3, st z2 _ (c + 1) (by omega), e2, st _ _ (c - 1) (by omega), h1]
  unfold lp_nr
  constructor
  · rintro (((((q | q | q) | q) | q) | q) | q)
    · exact Or.inl q
    · exact Or.inr (Or.inl q)
    · exact Or.inr (Or.inr (Or.inl q))
    · exact Or.inr (Or.inr (Or.inr (Or.inl q)))
    · exact Or.inr (Or.inr (Or.inr (Or.inr (Or.inl q))))
    · exact Or.inr (Or.inr (Or.inr (Or.inr (Or.inr (Or.inl q)))))
    · exact Or.inr (Or.inr (Or.inr (Or.inr (Or.inr (Or.inr q)))))
  · rintro (q | q | q | q | q | q | q)
    · exact Or.inl (Or.inl (Or.inl (Or.inl (Or.inl q))))
    · exact Or.inl (Or.inl (Or.inl (Or.inl (Or.inr (Or.inl q)))))
    · exact Or.inl (Or.inl (Or.inl (Or.inl (Or.inr (Or.inr q)))))
    · exact Or.inl (Or.inl (Or.inl (Or.inr q)))
    · exact Or.inl (Or.inl (Or.inr q))
    · exact Or.inl (Or.inr q)
    · exact Or.inr q
/-- beside, by touching -/
theorem lp_nr_a {K : Nat → Nat} {F : Nat → Prop} {c i : Nat} (hc : c < 16) (hi : i < 8) (hk : K (8 * c + i) ≠ 0) (hF : ∀ x, F x → x < 128 ∧ K x ≠ 0) : lp_nr F c i ↔ F (8 * c + i) ∨ ∃ x, F x ∧ pc_a K x (8 * c + i) := by
  unfold lp_nr pc_a pc_e
  constructor
  · rintro (q | ⟨p, q⟩ | ⟨p, q⟩ | ⟨p, q⟩ | ⟨p, q⟩ | ⟨p, q⟩ | ⟨p, q⟩)
    · exact Or.inl q
    all_goals
      refine Or.inr ⟨_, q, (hF _ q).2, hk, (hF _ q).1, by omega, ?_⟩
      omega
  · rintro (q | ⟨x, q, -, -, h1, h2, h3⟩)
    · exact Or.inl q
    · rcases h3 with (z | z | z) | (z | z | z)
      · exact Or.inr (Or.inl ⟨by omega, by rw [show 8 * c + (i - 1) = x by omega]; exact q⟩)
      · exact Or.inr (Or.inr (Or.inr (Or.inl ⟨by omega, by rw [show 8 * (c - 1) + i = x by omega]; exact q⟩)))
      · exact Or.inr (Or.inr (Or.inr (Or.inr (Or.inr (Or.inl ⟨by omega, by rw [show 8 * (c - 4) + i = x by omega]; exact q⟩)))))
      · exact Or.inr (Or.inr (Or.inl ⟨by omega, by rw [show 8 * c + (i + 1) = x by omega]; exact q⟩))
      · exact Or.inr (Or.inr (Or.inr (Or.inr (Or.inl ⟨by omega, by rw [show 8 * (c + 1) + i = x by omega]; exact q⟩))))
      · exact Or.inr (Or.inr (Or.inr (Or.inr (Or.inr (Or.inr ⟨by omega, by rw [show 8 * (c + 4) + i = x by omega]; exact q⟩)))))
def lp_b (f : Nat → Int32) (p : Nat) : Bool := bt (f (p / 8)) (p % 8)
def lp_n (f : Nat → Int32) : Nat := fb_ct (lp_b f) 128
theorem fb_ct_lt {p q : Nat → Bool} {n k : Nat} (h : ∀ j, j < n → p j = true → q j = true) (hk : k < n) (hp : p k = false) (hq : q k = true) : fb_ct p n < fb_ct q n := by
  have h1 := fb_ct_upd p true hk
  have h2 := fb_ct_sub (p := fun j => if j = k then true else p j) (q := q) (n := n) (fun j hj e => by
    by_cases z : j = k
    · rw [z]; exact hq
    · have e : (if j = k then true else p j) = true := e
      rw [if_neg z] at e
      exact h j hj e)
  rw [hp, if_neg (by decide), if_pos rfl] at h1
  omega
/-- the set that grows: within what is left, held to the root, with the root in it -/
def lp_I (K : Nat → Nat) (root : Nat) (f : Nat → Int32) (F : Nat → Prop) : Prop := lp_s f F ∧ F root ∧ ∀ x, F x → x < 128 ∧ pc_X K root x ∧ pc_c K root x
/-- one column of it grows -/
def lp_G (K : Nat → Nat) (root : Nat) (F : Nat → Prop) (c x : Nat) : Prop := if x / 8 = c then pc_X K root x ∧ lp_nr F c (x % 8) else F x
theorem lp_step {K : Nat → Nat} {root : Nat} {v f : Nat → Int32} {F : Nat → Prop} {c : Nat} {z : Int32} (hc : c < 16) (hv : lp_s v (pc_X K root)) (hI : lp_I K root f F) (hz : ∀ i, i < 8 → (bt z i = true ↔ lp_nr F c i)) : lp_I K root (upd f c (z &&& v c)) (lp_G K root F c) ∧ lp_n f ≤ lp_n (upd f c (z &&& v c)) ∧ (z &&& v c ≠ f c → lp_n f < lp_n (upd f c (z &&& v c))) ∧ (z &&& v c = f c → ∀ i, i < 8 → pc_X K root (8 * c + i) → lp_nr F c i → F (8 * c + i)) := by
  obtain ⟨hs, hr, hF⟩ := hI
  have hFK : ∀ x, F x → x < 128 ∧ K x ≠ 0 := fun x q => ⟨(hF x q).1, (hF x q).2.1.1⟩
  have hb : ∀ i, i < 32 → (bt (z &&& v c) i = true ↔ i < 8 ∧ pc_X K root (8 * c + i) ∧ lp_nr F c i) := by
    intro i hi
    rw [b_and, Bool.and_eq_true, hv c hc i hi]
    exact ⟨fun q => ⟨q.2.1, q.2.2, (hz i q.2.1).mp q.1⟩, fun q => ⟨(hz i q.1).mpr q.2.2, q.1, q.2.1⟩⟩
  have hsub : ∀ i, i < 32 → bt (f c) i = true → bt (z &&& v c) i = true := by
    intro i hi q
    have q2 := (hs c hc i hi).mp q
    exact (hb i hi).mpr ⟨q2.1, (hF _ q2.2).2.1, Or.inl q2.2⟩
  have hu : ∀ c', c' ≠ c → upd f c (z &&& v c) c' = f c' := fun c' q => if_neg q
  have hue : upd f c (z &&& v c) c = z &&& v c := if_pos rfl
  have hmono : ∀ p, p < 128 → lp_b f p = true → lp_b (upd f c (z &&& v c)) p = true := by
    intro p hp q
    unfold lp_b at q ⊢
    by_cases e : p / 8 = c
    · rw [e, hue]
      rw [e] at q
      exact hsub _ (by omega) q
    · rw [hu _ e]
      exact q
  refine ⟨⟨fun c' hc' i hi => ?_, ?_, fun x q => ?_⟩, fb_ct_sub hmono, fun hne => ?_, fun he i hi hx hn => ?_⟩
  · unfold lp_G
    by_cases e : c' = c
    · subst e
      rw [hue, hb i hi]
      constructor
      · rintro ⟨q1, q2, q3⟩
        refine ⟨q1, ?_⟩
        rw [if_pos (by omega), show (8 * c' + i) % 8 = i by omega]
        exact ⟨q2, q3⟩
      · rintro ⟨q1, q2⟩
        rw [if_pos (by omega), show (8 * c' + i) % 8 = i by omega] at q2
        exact ⟨q1, q2.1, q2.2⟩
    · rw [hu _ e, hs c' hc' i hi]
      constructor
      · rintro ⟨q1, q2⟩
        rw [if_neg (by omega)]
        exact ⟨q1, q2⟩
      · rintro ⟨q1, q2⟩
        rw [if_neg (by omega)] at q2
        exact ⟨q1, q2⟩
  · unfold lp_G
    by_cases e : root / 8 = c
    · rw [if_pos e]
      refine ⟨(hF _ hr).2.1, Or.inl ?_⟩
      rw [show 8 * c + root % 8 = root by omega]
      exact hr
    · rw [if_neg e]
      exact hr
  · unfold lp_G at q
    by_cases e : x / 8 = c
    · rw [if_pos e] at q
      obtain ⟨q1, q2⟩ := q
      have q3 := (lp_nr_a (K := K) hc (Nat.mod_lt x (by omega)) (by rw [show 8 * c + x % 8 = x by omega]; exact q1.1) hFK).mp q2
      rw [show 8 * c + x % 8 = x by omega] at q3
      refine ⟨by omega, q1, ?_⟩
      rcases q3 with q3 | ⟨y, q3, q4⟩
      · exact (hF x q3).2.2
      · exact pc_st (hF y q3).2.2 q4
    · rw [if_neg e] at q
      exact hF x q
  · have h5 : ∃ i, i < 32 ∧ bt (f c) i = false ∧ bt (z &&& v c) i = true := by
      refine Decidable.byContradiction (fun w => hne (b_ext (fun i hi => ?_)))
      cases q1 : bt (f c) i with
      | true => exact hsub i hi q1
      | false =>
        cases q2 : bt (z &&& v c) i with
        | false => rfl
        | true => exact absurd ⟨i, hi, q1, q2⟩ w
    obtain ⟨i, hi, q1, q2⟩ := h5
    have h8 := ((hb i hi).mp q2).1
    refine fb_ct_lt hmono (k := 8 * c + i) (by omega) ?_ ?_
    · unfold lp_b
      rw [show (8 * c + i) / 8 = c by omega, show (8 * c + i) % 8 = i by omega]
      exact q1
    · unfold lp_b
      rw [show (8 * c + i) / 8 = c by omega, show (8 * c + i) % 8 = i by omega, hue]
      exact q2
  · have := (hb i (by omega)).mpr ⟨hi, hx, hn⟩
    rw [he] at this
    exact ((hs c hc i (by omega)).mp this).2
theorem lp_I_row {K : Nat → Nat} {root : Nat} {f g : Nat → Int32} {F : Nat → Prop} (h : lp_I K root f F) (e : ∀ c, c < 16 → g c = f c) : lp_I K root g F := ⟨lp_s_row h.1 e, h.2⟩
/-- it begins with the root alone -/
theorem lp_I_0 {K : Nat → Nat} {a r : Nat} {f : Nat → Int32} {x : Int32} (ha : a < 16) (hr : r < 8) (hX : pc_X K (8 * a + r) (8 * a + r)) (hf : ∀ c, c < 16 → f c = 0) (hx : ∀ i, i < 32 → bt x i = decide (i = r)) : lp_I K (8 * a + r) (upd f a x) (fun y => y = 8 * a + r) := by
  refine ⟨fun c hc i hi => ?_, rfl, fun y q => ?_⟩
  · by_cases e : c = a
    · subst e
      rw [show upd f c x c = x from if_pos rfl, hx i hi, decide_eq_true_iff]
      exact ⟨fun q => ⟨by omega, by omega⟩, fun q => by omega⟩
    · rw [show upd f a x c = f c from if_neg e, hf c hc, b_0]
      exact ⟨fun q => absurd q (by decide), fun q => absurd q.2 (by omega)⟩
  · subst q
    exact ⟨by omega, hX, pc_rf⟩
/-- closed: it is the whole piece -/
theorem lp_all {K : Nat → Nat} {root : Nat} {f : Nat → Int32} {F : Nat → Prop} (hI : lp_I K root f F) (hX : pc_X K root root) (hc : ∀ c, c < 16 → ∀ i, i < 8 → pc_X K root (8 * c + i) → lp_nr F c i → F (8 * c + i)) (x : Nat) : F x ↔ pc_c K root x := by
  obtain ⟨hs, hr, hF⟩ := hI
  have hFK : ∀ x, F x → x < 128 ∧ K x ≠ 0 := fun x q => ⟨(hF x q).1, (hF x q).2.1.1⟩
  refine ⟨fun q => (hF x q).2.2, fun q => q F hr (fun y z hy a => ?_)⟩
  have hz : z < 128 := a.2.2.2.1
  have hyz : pc_c K root z := pc_st (hF y hy).2.2 a
  have hXz : pc_X K root z := ⟨a.2.1, fun p' h1 k1 hcp => hX.2 p' h1 k1 (pc_tr hcp (pc_sy hyz))⟩
  have h9 := hc (z / 8) (by omega) (z % 8) (by omega) (by rw [show 8 * (z / 8) + z % 8 = z by omega]; exact hXz) ((lp_nr_a (K := K) (by omega) (by omega) (by rw [show 8 * (z / 8) + z % 8 = z by omega]; exact a.2.1) hFK).mpr (Or.inr ⟨y, hy, by rw [show 8 * (z / 8) + z % 8 = z by omega]; exact a⟩))
  rw [show 8 * (z / 8) + z % 8 = z by omega] at h9
  exact h9
/-- what is left without it -/
theorem lp_rest {K : Nat → Nat} {root : Nat} {v w f : Nat → Int32} {F : Nat → Prop} (hv : lp_s v (pc_X K root)) (hI : lp_I K root f F) (hX : pc_X K root root) (hF : ∀ x, F x ↔ pc_c K root x) (hw : ∀ c, c < 16 → w c = v c &&& (f c ^^^ (-1))) : lp_s w (pc_X K (root + 1)) := by
  intro c hc i hi
  rw [hw c hc, b_and, b_xor, b_m1 i hi, Bool.and_eq_true, hv c hc i hi, pc_X_yes hX, Bool.xor_true, Bool.not_eq_true', ← Bool.not_eq_true, hI.1 c hc i hi, hF]
  exact ⟨fun q => ⟨q.1.1, q.1.2, fun z => q.2 ⟨q.1.1, z⟩⟩, fun q => ⟨⟨q.1, q.2.1⟩, fun z => q.2.2 z.2⟩⟩
/-- all blocks, at first -/
theorem lp_begin {K : Nat → Nat} {v : Nat → Int32} (h : ∀ c, c < 16 → lj_so (v c) K c 8) : lp_s v (pc_X K 0) := by
  intro c hc i hi
  rw [h c hc i hi, Bool.and_eq_true, decide_eq_true_iff, decide_eq_true_iff]
  exact ⟨fun q => ⟨q.1, q.2, fun p' h1 => absurd h1 (Nat.not_lt_zero _)⟩, fun q => ⟨q.1, q.2.1⟩⟩
theorem mj_sw7 {α : Type} (g : Nat → α) (a b c : α) : va_up (va_up (va_up g 7 a) 8 b) 7 c = va_up (va_up g 7 c) 8 b := by
  funext j
  by_cases h8 : j = 8
  · subst h8
    rw [mi_up_n (by omega), mi_up_s, mi_up_s]
  · by_cases h7 : j = 7
    · subst h7
      rw [mi_up_s, mi_up_n h8, mi_up_s]
    · rw [mi_up_n h7, mi_up_n h8, mi_up_n h7, mi_up_n h8, mi_up_n h7]
