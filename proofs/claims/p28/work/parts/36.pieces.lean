/-! pieces: blocks that hold together -/
def pc_e (p q : Nat) : Prop := (q = p + 1 ∧ p % 8 < 7) ∨ (q = p + 8 ∧ p / 8 % 4 < 3) ∨ (q = p + 32 ∧ p < 96)
def pc_a (K : Nat → Nat) (p q : Nat) : Prop := K p ≠ 0 ∧ K q ≠ 0 ∧ p < 128 ∧ q < 128 ∧ (pc_e p q ∨ pc_e q p)
def pc_c (K : Nat → Nat) (p q : Nat) : Prop := ∀ X : Nat → Prop, X p → (∀ x y, X x → pc_a K x y → X y) → X q
theorem pc_rf {K : Nat → Nat} {p : Nat} : pc_c K p p := fun _ h _ => h
theorem pc_st {K : Nat → Nat} {p q r : Nat} (h : pc_c K p q) (a : pc_a K q r) : pc_c K p r := fun X hp hs => hs q r (h X hp hs) a
theorem pc_tr {K : Nat → Nat} {p q r : Nat} (h : pc_c K p q) (h' : pc_c K q r) : pc_c K p r := fun X hp hs => h' X (h X hp hs) hs
theorem pc_as {K : Nat → Nat} {p q : Nat} (h : pc_a K p q) : pc_a K q p := ⟨h.2.1, h.1, h.2.2.2.1, h.2.2.1, h.2.2.2.2.symm⟩
theorem pc_sy {K : Nat → Nat} {p q : Nat} (h : pc_c K p q) : pc_c K q p := h (fun z => pc_c K z p) pc_rf (fun _ _ hx a => pc_tr (pc_st pc_rf (pc_as a)) hx)
theorem pc_K {K : Nat → Nat} {p q : Nat} (h : pc_c K p q) (hp : K p ≠ 0) : K q ≠ 0 := h (fun z => K z ≠ 0) hp (fun _ _ _ a => a.2.1)
theorem pc_lt {K : Nat → Nat} {p q : Nat} (h : pc_c K p q) (hp : p < 128) : q < 128 := h (fun z => z < 128) hp (fun _ _ _ a => a.2.2.2.1)
/-- the least place of a piece -/
def pc_lst (K : Nat → Nat) (p : Nat) : Prop := K p ≠ 0 ∧ ∀ q, q < p → K q ≠ 0 → ¬ pc_c K q p
/-- just k of the first n have the property -/
def pc_ct (P : Nat → Prop) (n k : Nat) : Prop := ∃ b : Nat → Bool, (∀ p, p < n → (b p = true ↔ P p)) ∧ fb_ct b n = k
theorem pc_ct_fun {P : Nat → Prop} {n k k' : Nat} (h : pc_ct P n k) (h' : pc_ct P n k') : k = k' := by
  obtain ⟨b, h1, h2⟩ := h
  obtain ⟨b', h1', h2'⟩ := h'
  rw [← h2, ← h2']
  refine fb_ct_cong (fun p hp => ?_)
  have e := (h1 p hp).trans (h1' p hp).symm
  cases hb : b p <;> cases hb' : b' p <;> simp [hb, hb'] at e <;> rfl
theorem pc_ct_0 (P : Nat → Prop) : pc_ct P 0 0 := ⟨fun _ => false, fun p hp => absurd hp (Nat.not_lt_zero p), rfl⟩
theorem pc_ct_y {P : Nat → Prop} {n k : Nat} (h : pc_ct P n k) (hn : P n) : pc_ct P (n + 1) (k + 1) := by
  obtain ⟨b, h1, h2⟩ := h
  refine ⟨fun p => if p = n then true else b p, fun p hp => ?_, ?_⟩
  · show (if p = n then true else b p) = true ↔ P p
    by_cases e : p = n
    · subst e
      rw [if_pos rfl]
      exact ⟨fun _ => hn, fun _ => rfl⟩
    · rw [if_neg e]
      exact h1 p (by omega)
  · rw [fb_ct_succ, fb_ct_out b true (Nat.le_refl n), h2]
    show k + (if (if n = n then true else b n) = true then 1 else 0) = k + 1
    rw [if_pos (if_pos rfl)]
theorem pc_ct_n {P : Nat → Prop} {n k : Nat} (h : pc_ct P n k) (hn : ¬ P n) : pc_ct P (n + 1) k := by
  obtain ⟨b, h1, h2⟩ := h
  refine ⟨fun p => if p = n then false else b p, fun p hp => ?_, ?_⟩
  · show (if p = n then false else b p) = true ↔ P p
    by_cases e : p = n
    · subst e
      rw [if_pos rfl]
      exact ⟨fun z => absurd z (by decide), fun z => absurd z hn⟩
    · rw [if_neg e]
      exact h1 p (by omega)
  · rw [fb_ct_succ, fb_ct_out b false (Nat.le_refl n), h2]
    show k + (if (if n = n then false else b n) = true then 1 else 0) = k
    rw [if_pos rfl]
    rfl
theorem pc_ct_ex (P : Nat → Prop) : ∀ n, ∃ k, pc_ct P n k
  | 0 => ⟨0, pc_ct_0 P⟩
  | n + 1 => by
    obtain ⟨k, h⟩ := pc_ct_ex P n
    by_cases e : P n
    · exact ⟨_, pc_ct_y h e⟩
    · exact ⟨_, pc_ct_n h e⟩
theorem pc_ct_le {P : Nat → Prop} {n k : Nat} (h : pc_ct P n k) : k ≤ n := by
  obtain ⟨b, _, h2⟩ := h
  rw [← h2]
  exact fb_ct_le b n
/-! the reference's labels: v p = 0, none; v p = r + 1, the label r -/
def pc_L (K v : Nat → Nat) : Prop := ∀ p, p < 128 → (K p = 0 → v p = 0) ∧ (K p ≠ 0 → ∃ r, v p = r + 1 ∧ r ≤ p ∧ pc_c K p r)
def pc_v0 (K : Nat → Nat) (p : Nat) : Nat := if K p = 0 then 0 else p + 1
theorem pc_L_0 (K : Nat → Nat) : pc_L K (pc_v0 K) := fun p _ => ⟨fun h => if_pos h, fun h => ⟨p, if_neg h, Nat.le_refl p, pc_rf⟩⟩
theorem pc_L_le {K v : Nat → Nat} (h : pc_L K v) {p : Nat} (hp : p < 128) : v p ≤ 128 := by
  by_cases e : K p = 0
  · rw [(h p hp).1 e]
    omega
  · obtain ⟨r, h1, h2, -⟩ := (h p hp).2 e
    omega
def pc_mn (a b : Nat) : Nat := if a < b then a else b
def pc_jn (v : Nat → Nat) (p q : Nat) : Nat → Nat := mi_un (mi_un v p (pc_mn (v p) (v q))) q (pc_mn (v p) (v q))
theorem pc_L_K {K v : Nat → Nat} (h : pc_L K v) {p : Nat} (hp : p < 128) (hv : v p ≠ 0) : K p ≠ 0 := fun e => hv ((h p hp).1 e)
theorem pc_L_jn {K v : Nat → Nat} (h : pc_L K v) {p q : Nat} (hp : p < 128) (hq : q < 128) (e : pc_e p q) (h1 : v p ≠ 0) (h2 : v q ≠ 0) : pc_L K (pc_jn v p q) := by
  have kp := pc_L_K h hp h1
  have kq := pc_L_K h hq h2
  have a : pc_a K p q := ⟨kp, kq, hp, hq, Or.inl e⟩
  obtain ⟨r, r1, r2, r3⟩ := (h p hp).2 kp
  obtain ⟨r', r1', r2', r3'⟩ := (h q hq).2 kq
  have hm : ∃ w, pc_mn (v p) (v q) = w + 1 ∧ w ≤ p ∧ w ≤ q ∧ pc_c K p w ∧ pc_c K q w := by
    unfold pc_mn
    by_cases lt : v p < v q
    · rw [if_pos lt]
      exact ⟨r, r1, r2, by omega, r3, pc_tr (pc_st pc_rf (pc_as a)) r3⟩
    · rw [if_neg lt]
      exact ⟨r', r1', by omega, r2', pc_tr (pc_st pc_rf a) r3', r3'⟩
  obtain ⟨w, w1, w2, w3, w4, w5⟩ := hm
  intro x hx
  unfold pc_jn
  by_cases xq : x = q
  · subst xq
    rw [mi_un_s]
    exact ⟨fun z => absurd z kq, fun _ => ⟨w, w1, w3, w5⟩⟩
  · rw [mi_un_n xq]
    by_cases xp : x = p
    · subst xp
      rw [mi_un_s]
      exact ⟨fun z => absurd z kp, fun _ => ⟨w, w1, w2, w4⟩⟩
    · rw [mi_un_n xp]
      exact h x hx
theorem pc_jn_sm {v : Nat → Nat} {p q : Nat} (hp : p < 128) (hq : q < 128) (hpq : p ≠ q) (hv : v p ≠ v q) : fb_sm (pc_jn v p q) 128 < fb_sm v 128 := by
  have e1 := fb_sm_upd v (pc_mn (v p) (v q)) hp
  have e2 := fb_sm_upd (mi_un v p (pc_mn (v p) (v q))) (pc_mn (v p) (v q)) hq
  have e3 : mi_un v p (pc_mn (v p) (v q)) q = v q := mi_un_n (Ne.symm hpq)
  have e4 : fb_sm (pc_jn v p q) 128 + mi_un v p (pc_mn (v p) (v q)) q = fb_sm (mi_un v p (pc_mn (v p) (v q))) 128 + pc_mn (v p) (v q) := e2
  rw [e3] at e4
  have e5 : fb_sm (mi_un v p (pc_mn (v p) (v q))) 128 + v p = fb_sm v 128 + pc_mn (v p) (v q) := e1
  have e6 : pc_mn (v p) (v q) + pc_mn (v p) (v q) < v p + v q := by
    unfold pc_mn
    split <;> omega
  omega
/-- no edge from a place below n joins two labels -/
def pc_cl (v : Nat → Nat) (n : Nat) : Prop := ∀ p q, p < n → p < 128 → q < 128 → pc_e p q → v p = 0 ∨ v q = 0 ∨ v p = v q
theorem pc_cl_c {K v : Nat → Nat} (h : pc_L K v) (hc : pc_cl v 128) {p q : Nat} (hp : p < 128) (hpq : pc_c K p q) : v p = v q := by
  have := hpq (fun z => z < 128 ∧ v p = v z) ⟨hp, rfl⟩ (fun x y hx a => by
    obtain ⟨a1, a2, a3, a4, a5⟩ := a
    obtain ⟨r, r1, -⟩ := (h x a3).2 a1
    obtain ⟨r', r1', -⟩ := (h y a4).2 a2
    refine ⟨a4, hx.2.trans ?_⟩
    rcases a5 with e | e
    · rcases hc x y a3 a3 a4 e with z | z | z <;> omega
    · rcases hc y x a4 a4 a3 e with z | z | z <;> omega)
  exact this.2
theorem pc_L_end {K v : Nat → Nat} (h : pc_L K v) (hc : pc_cl v 128) {p : Nat} (hp : p < 128) : v p = p + 1 ↔ pc_lst K p := by
  constructor
  · intro e
    refine ⟨pc_L_K h hp (by omega), fun q hq kq hqp => ?_⟩
    have e2 := pc_cl_c h hc (by omega) hqp
    obtain ⟨r, r1, r2, -⟩ := (h q (by omega)).2 kq
    omega
  · rintro ⟨kp, hl⟩
    obtain ⟨r, r1, r2, r3⟩ := (h p hp).2 kp
    rcases Nat.lt_or_ge r p with z | z
    · exact absurd (pc_sy r3) (hl r z (pc_K r3 kp))
    · omega
theorem pc_L_ct {K v : Nat → Nat} (h : pc_L K v) (hc : pc_cl v 128) : pc_ct (pc_lst K) 128 (fb_ct (fun p => decide (v p = p + 1)) 128) :=
  ⟨_, fun p hp => by rw [decide_eq_true_iff]; exact pc_L_end h hc hp, rfl⟩
/-! the class's marks m, its queue q of n places -/
def pc_I (K : Nat → Nat) (root : Nat) (m0 : Nat → Nat) (fst : Nat) (m q : Nat → Nat) (n : Nat) : Prop :=
  (∀ x, x < 128 → m x ≤ 1) ∧ fb_sm m 128 = n ∧ fst ≤ n ∧ (∀ j, fst ≤ j → j < n → q j < 128 ∧ K (q j) ≠ 0 ∧ pc_c K root (q j)) ∧ ∀ x, x < 128 → (m x ≠ 0 ↔ m0 x ≠ 0 ∨ ∃ j, fst ≤ j ∧ j < n ∧ q j = x)
def pc_M (m q : Nat → Nat) (n : Nat) (m' q' : Nat → Nat) (n' : Nat) : Prop := n ≤ n' ∧ (∀ j, j < n → q' j = q j) ∧ ∀ x, m x ≠ 0 → m' x ≠ 0
theorem pc_M_rf {m q : Nat → Nat} {n : Nat} : pc_M m q n m q n := ⟨Nat.le_refl n, fun _ _ => rfl, fun _ h => h⟩
theorem pc_M_tr {m q m' q' m2 q2 : Nat → Nat} {n n' n2 : Nat} (h : pc_M m q n m' q' n') (h' : pc_M m' q' n' m2 q2 n2) : pc_M m q n m2 q2 n2 :=
  ⟨Nat.le_trans h.1 h'.1, fun j hj => (h'.2.1 j (Nat.lt_of_lt_of_le hj h.1)).trans (h.2.1 j hj), fun x hx => h'.2.2 x (h.2.2 x hx)⟩
theorem pc_I_le {K : Nat → Nat} {root fst n : Nat} {m0 m q : Nat → Nat} (h : pc_I K root m0 fst m q n) : n ≤ 128 := by
  have := fb_sm_bound (f := m) (c := 1) (n := 128) h.1
  have := h.2.1
  omega
theorem pc_I_room {K : Nat → Nat} {root fst n pl : Nat} {m0 m q : Nat → Nat} (h : pc_I K root m0 fst m q n) (hp : pl < 128) (hm : m pl = 0) : n < 128 := by
  have h1 := fb_sm_upd m 1 hp
  have h2 := fb_sm_bound (f := fun k => if k = pl then 1 else m k) (c := 1) (n := 128) (fun k hk => by
    show (if k = pl then 1 else m k) ≤ 1
    split
    · exact Nat.le_refl 1
    · exact h.1 k hk)
  have := h.2.1
  omega
theorem pc_I_put {K : Nat → Nat} {root fst n pl : Nat} {m0 m q : Nat → Nat} (h : pc_I K root m0 fst m q n) (hp : pl < 128) (hk : K pl ≠ 0) (hm : m pl = 0) (hc : pc_c K root pl) : pc_I K root m0 fst (mi_un m pl 1) (mi_un q n pl) (n + 1) := by
  obtain ⟨i1, i2, i3, i4, i5⟩ := h
  refine ⟨fun x hx => ?_, ?_, by omega, fun j h1 h2 => ?_, fun x hx => ?_⟩
  · unfold mi_un
    split
    · exact Nat.le_refl 1
    · exact i1 x hx
  · have h1 := fb_sm_upd m 1 hp
    have e : fb_sm (mi_un m pl 1) 128 = fb_sm (fun k => if k = pl then 1 else m k) 128 := rfl
    omega
  · by_cases e : j = n
    · subst e
      rw [mi_un_s]
      exact ⟨hp, hk, hc⟩
    · rw [mi_un_n e]
      exact i4 j h1 (by omega)
  · by_cases e : x = pl
    · subst e
      rw [mi_un_s]
      exact ⟨fun _ => Or.inr ⟨n, i3, Nat.lt_succ_self n, mi_un_s⟩, fun _ => by omega⟩
    · rw [mi_un_n e, i5 x hx]
      constructor
      · rintro (z | ⟨j, j1, j2, j3⟩)
        · exact Or.inl z
        · exact Or.inr ⟨j, j1, by omega, by rw [mi_un_n (by omega)]; exact j3⟩
      · rintro (z | ⟨j, j1, j2, j3⟩)
        · exact Or.inl z
        · by_cases ej : j = n
          · subst ej
            rw [mi_un_s] at j3
            exact absurd j3.symm e
          · rw [mi_un_n ej] at j3
            exact Or.inr ⟨j, j1, by omega, j3⟩
theorem pc_M_put {K : Nat → Nat} {m q : Nat → Nat} {n pl : Nat} : pc_M m q n (mi_un m pl 1) (mi_un q n pl) (n + 1) :=
  ⟨Nat.le_succ n, fun j hj => mi_un_n (by omega), fun x hx => by unfold mi_un; split; exact Nat.one_ne_zero; exact hx⟩
/-- marked are just the places that hold to a block below p -/
def pc_MK (K : Nat → Nat) (p : Nat) (m : Nat → Nat) : Prop := ∀ x, x < 128 → (m x ≠ 0 ↔ ∃ p', p' < p ∧ K p' ≠ 0 ∧ pc_c K p' x)
theorem pc_I_0 {K : Nat → Nat} {m q : Nat → Nat} {n p : Nat} (h1 : ∀ x, x < 128 → m x ≤ 1) (h2 : fb_sm m 128 = n) : pc_I K p m n m q n :=
  ⟨h1, h2, Nat.le_refl n, fun j a b => absurd b (by omega), fun x _ => ⟨Or.inl, fun z => z.elim id (fun ⟨j, a, b, _⟩ => absurd b (by omega))⟩⟩
theorem pc_MK_lst {K : Nat → Nat} {p : Nat} {m : Nat → Nat} (h : pc_MK K p m) (hp : p < 128) : pc_lst K p ↔ K p ≠ 0 ∧ m p = 0 := by
  constructor
  · rintro ⟨h1, h2⟩
    refine ⟨h1, ?_⟩
    rcases Nat.eq_zero_or_pos (m p) with z | z
    · exact z
    · obtain ⟨p', a, b, c⟩ := (h p hp).mp (by omega)
      exact absurd c (h2 p' a b)
  · rintro ⟨h1, h2⟩
    exact ⟨h1, fun q hq kq hc => absurd h2 ((h p hp).mpr ⟨q, hq, kq, hc⟩)⟩
theorem pc_MK_n {K : Nat → Nat} {p : Nat} {m : Nat → Nat} (h : pc_MK K p m) (hp : p < 128) (hn : K p ≠ 0 → m p ≠ 0) : pc_MK K (p + 1) m := by
  intro x hx
  rw [h x hx]
  constructor
  · rintro ⟨p', a, b, c⟩
    exact ⟨p', by omega, b, c⟩
  · rintro ⟨p', a, b, c⟩
    by_cases e : p' = p
    · subst e
      obtain ⟨p2, a2, b2, c2⟩ := (h p' hp).mp (hn b)
      exact ⟨p2, a2, b2, pc_tr c2 c⟩
    · exact ⟨p', by omega, b, c⟩
theorem pc_MK_y {K : Nat → Nat} {p fst n : Nat} {m0 m q : Nat → Nat} (h : pc_MK K p m0) (hp : p < 128) (hk : K p ≠ 0) (h0 : m0 p = 0) (hI : pc_I K p m0 fst m q n) (hm : m p ≠ 0) (hd : ∀ j, fst ≤ j → j < n → ∀ y, pc_a K (q j) y → m y ≠ 0) : pc_MK K (p + 1) m := by
  obtain ⟨i1, i2, i3, i4, i5⟩ := hI
  have hroot : ∃ j, fst ≤ j ∧ j < n ∧ q j = p := ((i5 p hp).mp hm).elim (fun z => absurd h0 z) id
  intro x hx
  rw [i5 x hx]
  constructor
  · rintro (z | ⟨j, a, b, c⟩)
    · obtain ⟨p', a, b, c⟩ := (h x hx).mp z
      exact ⟨p', by omega, b, c⟩
    · rw [← c]
      exact ⟨p, by omega, hk, (i4 j a b).2.2⟩
  · rintro ⟨p', a, b, c⟩
    by_cases e : p' = p
    · subst e
      refine Or.inr (c (fun z => ∃ j, fst ≤ j ∧ j < n ∧ q j = z) hroot ?_)
      rintro z y ⟨j, a1, b1, rfl⟩ ha
      rcases (i5 y ha.2.2.2.1).mp (hd j a1 b1 y ha) with z2 | z2
      · obtain ⟨p2, a2, b2, c2⟩ := (h y ha.2.2.2.1).mp z2
        have c3 : pc_c K p2 p' := pc_tr c2 (pc_sy (pc_st (i4 j a1 b1).2.2 ha))
        exact absurd h0 ((h p' hp).mpr ⟨p2, a2, b2, c3⟩)
      · exact z2
    · exact Or.inl ((h x hx).mpr ⟨p', by omega, b, c⟩)
/-- the six places beside a place -/
theorem pc_nb {K m : Nat → Nat} {c l : Nat} (hc : c < 16) (hl : l < 8) (h1 : 1 ≤ l → K (8 * c + (l - 1)) ≠ 0 → m (8 * c + (l - 1)) ≠ 0) (h2 : l + 1 < 8 → K (8 * c + (l + 1)) ≠ 0 → m (8 * c + (l + 1)) ≠ 0) (h3 : 4 ≤ c → K (8 * (c - 4) + l) ≠ 0 → m (8 * (c - 4) + l) ≠ 0) (h4 : c + 4 < 16 → K (8 * (c + 4) + l) ≠ 0 → m (8 * (c + 4) + l) ≠ 0)
    (h5 : 0 < c % 4 → K (8 * (c - 1) + l) ≠ 0 → m (8 * (c - 1) + l) ≠ 0) (h6 : c % 4 < 3 → K (8 * (c + 1) + l) ≠ 0 → m (8 * (c + 1) + l) ≠ 0) : ∀ y, pc_a K (8 * c + l) y → m y ≠ 0 := by
  rintro y ⟨-, ky, -, hy, (e | e | e) | (e | e | e)⟩
  · rw [show y = 8 * c + (l + 1) by omega] at ky ⊢
    exact h2 (by omega) ky
  · rw [show y = 8 * (c + 1) + l by omega] at ky ⊢
    exact h6 (by omega) ky
  · rw [show y = 8 * (c + 4) + l by omega] at ky ⊢
    exact h4 (by omega) ky
  · rw [show y = 8 * c + (l - 1) by omega] at ky ⊢
    exact h1 (by omega) ky
  · rw [show y = 8 * (c - 1) + l by omega] at ky ⊢
    exact h5 (by omega) ky
  · rw [show y = 8 * (c - 4) + l by omega] at ky ⊢
    exact h3 (by omega) ky
