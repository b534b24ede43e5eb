/-! the mathematical state S: numbers S 0 (0 how many states, 1 which is now, 2 how many dies, 3 how many coins), S 1 parents, S 2 kinds, S 3 first heights, S 4 strikes, S 5 heights now, S 6 a coin's die, S 7 its number, S 8 its heights -/
abbrev sT : Type := Nat → Nat → Nat → Nat
abbrev sN (S : sT) : Nat := S 0 0 0
abbrev sW (S : sT) : Nat := S 0 1 0
abbrev sD (S : sT) : Nat := S 0 2 0
abbrev sC (S : sT) : Nat := S 0 3 0
abbrev sP (S : sT) (i : Nat) : Nat := S 1 i 0
abbrev sK (S : sT) (i : Nat) : Nat → Nat := S 2 i
abbrev sF (S : sT) (d : Nat) : Nat → Nat := S 3 d
abbrev sX (S : sT) (d : Nat) : Nat := S 4 d 0
abbrev sH (S : sT) (d : Nat) : Nat → Nat := S 5 d
abbrev sCd (S : sT) (i : Nat) : Nat := S 6 i 0
abbrev sCn (S : sT) (i : Nat) : Nat := S 7 i 0
abbrev sCh (S : sT) (i : Nat) : Nat → Nat := S 8 i
def st_up (S : sT) (k i : Nat) (v : Nat → Nat) : sT := fun k' i' => if k' = k ∧ i' = i then v else S k' i'
theorem st_s {S : sT} {k i : Nat} {v : Nat → Nat} : st_up S k i v k i = v := if_pos ⟨rfl, rfl⟩
theorem st_n {S : sT} {k i k' i' : Nat} {v : Nat → Nat} (h : k' ≠ k ∨ i' ≠ i) : st_up S k i v k' i' = S k' i' := if_neg (by omega)
theorem st_up_up (S : sT) (k i : Nat) (v w : Nat → Nat) : st_up (st_up S k i v) k i w = st_up S k i w := by
  funext k' i'
  by_cases h : k' = k ∧ i' = i
  · obtain ⟨rfl, rfl⟩ := h
    rw [st_s, st_s]
  · rw [st_n (by omega), st_n (by omega), st_n (by omega)]
/-- a new state with the kinds K -/
def st_new (S : sT) (K : Nat → Nat) : sT := st_up (st_up (st_up (st_up S 0 0 (fun _ => sN S + 1)) 0 1 (fun _ => sN S)) 1 (sN S) (fun _ => sW S)) 2 (sN S) K
def st_put (S : sT) (p k : Nat) : sT := st_up S 2 (sW S) (mi_un (sK S (sW S)) p k)
def st_now (S : sT) (w : Nat) : sT := st_up S 0 1 (fun _ => w)
theorem st_put_new (S : sT) (K : Nat → Nat) (p k : Nat) : st_put (st_new S K) p k = st_new S (mi_un K p k) := by
  have hw : sW (st_new S K) = sN S := rfl
  have hk : sK (st_new S K) (sN S) = K := st_s
  unfold st_put
  rw [hw, hk]
  unfold st_new
  rw [st_up_up]
/-- wear: the lowest of the highest becomes one lower -/
def wr_mx (h : Nat → Nat) : Nat → Nat
  | 0 => 0
  | n + 1 => if h (wr_mx h n) < h n then n else wr_mx h n
def wr (h : Nat → Nat) : Nat → Nat := fun c => if c = wr_mx h 16 then h c - 1 else h c
def wn (h : Nat → Nat) : Nat → Nat → Nat
  | 0 => h
  | k + 1 => wr (wn h k)
theorem wr_mx_lt (h : Nat → Nat) : ∀ n, 0 < n → wr_mx h n < n
  | 0, h0 => absurd h0 (Nat.lt_irrefl 0)
  | 1, _ => by
    show (if h 0 < h 0 then 0 else 0) < 1
    split <;> omega
  | n + 2, _ => by
    have := wr_mx_lt h (n + 1) (by omega)
    show (if h (wr_mx h (n + 1)) < h (n + 1) then n + 1 else wr_mx h (n + 1)) < n + 2
    split <;> omega
theorem wr_le (h : Nat → Nat) (c : Nat) : wr h c ≤ h c := by
  unfold wr
  split <;> omega
theorem wr_cong {h h' : Nat → Nat} (e : ∀ c, c < 16 → h c = h' c) : ∀ n, n ≤ 16 → wr_mx h n = wr_mx h' n
  | 0, _ => rfl
  | n + 1, hn => by
    have ih := wr_cong e n (by omega)
    show (if h (wr_mx h n) < h n then n else wr_mx h n) = (if h' (wr_mx h' n) < h' n then n else wr_mx h' n)
    rw [ih, e n (by omega)]
    rcases Nat.eq_zero_or_pos n with z | z
    · subst z
      rw [e _ (show wr_mx h' 0 < 16 by show (0 : Nat) < 16; omega)]
    · have := wr_mx_lt h' n z
      rw [e _ (show wr_mx h' n < 16 by omega)]
theorem wr_congA {h h' : Nat → Nat} (e : ∀ c, c < 16 → h c = h' c) (c : Nat) (hc : c < 16) : wr h c = wr h' c := by
  unfold wr
  rw [wr_cong e 16 (Nat.le_refl 16), e c hc]
theorem wn_le (h : Nat → Nat) (c : Nat) : ∀ k, wn h k c ≤ h c
  | 0 => Nat.le_refl _
  | k + 1 => Nat.le_trans (wr_le (wn h k) c) (wn_le h c k)
theorem wn_congA {h h' : Nat → Nat} (e : ∀ c, c < 16 → h c = h' c) : ∀ k c, c < 16 → wn h k c = wn h' k c
  | 0, c, hc => e c hc
  | k + 1, c, hc => wr_congA (wn_congA e k) c hc
/-- a packed column and the kinds in it -/
def mo_pk (x : Int32) (K : Nat → Nat) (c : Nat) : Prop := (∀ l, l < 8 → mo_kd x l = nI (K (8 * c + l))) ∧ ∀ b, 16 ≤ b → bt x b = false
/-- what is always so of S -/
def st_ok (S : sT) : Prop :=
  (1 ≤ sN S ∧ sN S ≤ 61 ∧ sW S < sN S ∧ sD S ≤ 8 ∧ sC S ≤ 60) ∧ (∀ i, 1 ≤ i → i < sN S → sP S i < i) ∧ (∀ i p, i < sN S → p < 128 → sK S i p < 4) ∧
  (∀ d c, d < sD S → c < 16 → sF S d c ≤ 8 ∧ sH S d c = wn (sF S d) (sX S d / 2) c) ∧ (∀ d, d < sD S → sX S d ≤ sC S) ∧ (∀ i c, i < sC S → c < 16 → sCh S i c ≤ 8) ∧ ∀ i, i < sC S → sCd S i < sD S ∧ 1 ≤ sCn S i ∧ sCn S i ≤ sX S (sCd S i)
/-- the reference's numbers and rows hold S -/
def st_mo (S : sT) (f : Nat → Int32) (g : Nat → Nat → Int32) : Prop :=
  (f 1 = nI (sN S) ∧ f 2 = nI (sW S) ∧ f 6 = nI (sD S) ∧ f 10 = nI (sC S)) ∧ g 3 0 = -1 ∧ (∀ i, 1 ≤ i → i < sN S → g 3 i = nI (sP S i)) ∧ (∀ i c, i < sN S → c < 16 → mo_pk (g 4 (16 * i + c)) (sK S i) c) ∧
  (∀ d c, d < sD S → c < 16 → g 7 (16 * d + c) = nI (sF S d c) ∧ g 8 (16 * d + c) = nI (sH S d c)) ∧ (∀ d, d < sD S → g 9 d = nI (sX S d)) ∧
  (∀ i, i < sC S → g 12 i = nI (sCd S i) ∧ g 13 i = nI (sCn S i)) ∧ ∀ i c, i < sC S → c < 16 → g 11 (16 * i + c) = nI (sCh S i c)
theorem st_mo_0 {S : sT} {f : Nat → Int32} {g : Nat → Nat → Int32} (h : st_mo S f g) (x : Int32) : st_mo S (upd f 0 x) g := h
/-- bits of a packed column -/
theorem bt_3 : ∀ i, i < 32 → bt (nI 3) i = decide (i < 2) := by decide +kernel
theorem bt_k : ∀ k, k < 4 → ∀ i, i < 32 → bt (nI k) i = (decide (i < 2) && Nat.testBit k i) := by decide +kernel
theorem mo_kd_bt {x : Int32} {l i : Nat} (hl : l < 8) (hi : i < 2) : bt (mo_kd x l) i = bt x (2 * l + i) := by
  unfold mo_kd
  rw [b_and, b_sshr (2 * l) (by omega) x (by omega), if_pos (by omega), bt_3 i (by omega), decide_eq_true hi, Bool.and_true]
theorem mo_kd_hi {x : Int32} {l i : Nat} (hi : 2 ≤ i) : bt (mo_kd x l) i = false := by
  unfold mo_kd
  rw [b_and]
  by_cases h : i < 32
  · rw [bt_3 i h, decide_eq_false (by omega), Bool.and_false]
  · rw [b_big (by omega), Bool.false_and]
theorem mo_kd_ext {x y : Int32} {l : Nat} (h0 : bt (mo_kd x l) 0 = bt (mo_kd y l) 0) (h1 : bt (mo_kd x l) 1 = bt (mo_kd y l) 1) : mo_kd x l = mo_kd y l := by
  refine b_ext (fun i _ => ?_)
  rcases Nat.lt_or_ge i 2 with h | h
  · rcases (show i = 0 ∨ i = 1 by omega) with rfl | rfl
    · exact h0
    · exact h1
  · rw [mo_kd_hi h, mo_kd_hi h]
/-- the kind k on level l of a packed column -/
def mo_pt (x : Int32) (l k : Nat) : Int32 := (x &&& ((nI 3 <<< (nI (2 * l) &&& 31)) ^^^ (-1))) ||| (nI k <<< (nI (2 * l) &&& 31))
theorem mo_pt_bt {x : Int32} {l k i : Nat} (hl : l < 8) (hk : k < 4) (hi : i < 32) : bt (mo_pt x l k) i = if 2 * l ≤ i ∧ i < 2 * l + 2 then Nat.testBit k (i - 2 * l) else bt x i := by
  unfold mo_pt
  rw [b_or, b_and, b_xor, b_m1 i hi, b_shl (2 * l) (by omega) _ hi, b_shl (2 * l) (by omega) _ hi, bt_3 _ (by omega), bt_k k hk _ (by omega)]
  by_cases h1 : 2 * l ≤ i
  · by_cases h2 : i < 2 * l + 2
    · rw [if_pos ⟨h1, h2⟩, decide_eq_true h1, decide_eq_true (show i - 2 * l < 2 by omega)]
      simp
    · rw [if_neg (by omega), decide_eq_true h1, decide_eq_false (show ¬ i - 2 * l < 2 by omega)]
      simp
  · rw [if_neg (by omega), decide_eq_false h1]
    simp
theorem bt_small {k : Nat} (hk : k < 4) : ∀ i, i < 2 → bt (nI k) i = Nat.testBit k i := fun i hi => by
  rw [bt_k k hk i (by omega), decide_eq_true hi, Bool.true_and]
theorem mo_kd_pt {x : Int32} {l l' k : Nat} (hl : l < 8) (hl' : l' < 8) (hk : k < 4) : mo_kd (mo_pt x l k) l' = if l' = l then nI k else mo_kd x l' := by
  by_cases h : l' = l
  · subst h
    rw [if_pos rfl]
    refine b_ext (fun i hi => ?_)
    rcases Nat.lt_or_ge i 2 with h2 | h2
    · rw [mo_kd_bt hl h2, mo_pt_bt hl hk (by omega), if_pos (by omega), bt_small hk i h2, show 2 * l' + i - 2 * l' = i by omega]
    · rw [mo_kd_hi h2, bt_k k hk i hi, decide_eq_false (by omega), Bool.false_and]
  · rw [if_neg h]
    refine mo_kd_ext ?_ ?_
    · rw [mo_kd_bt hl' (by omega), mo_kd_bt hl' (by omega), mo_pt_bt hl hk (by omega), if_neg (by omega)]
    · rw [mo_kd_bt hl' (by omega), mo_kd_bt hl' (by omega), mo_pt_bt hl hk (by omega), if_neg (by omega)]
theorem mo_pk_put {x : Int32} {K : Nat → Nat} {c l k : Nat} (h : mo_pk x K c) (hl : l < 8) (hk : k < 4) : mo_pk (mo_pt x l k) (mi_un K (8 * c + l) k) c := by
  refine ⟨fun l' hl' => ?_, fun b hb => ?_⟩
  · rw [mo_kd_pt hl hl' hk]
    by_cases e : l' = l
    · subst e
      rw [if_pos rfl, mi_un_s]
    · rw [if_neg e, mi_un_n (by omega)]
      exact h.1 l' hl'
  · by_cases h32 : b < 32
    · rw [mo_pt_bt hl hk h32, if_neg (by omega)]
      exact h.2 b hb
    · exact b_big (by omega)
theorem mo_pk_other {x : Int32} {K : Nat → Nat} {c c' l k : Nat} (h : mo_pk x K c') (hl : l < 8) (hc : c' ≠ c) : mo_pk x (mi_un K (8 * c + l) k) c' :=
  ⟨fun l' hl' => by rw [mi_un_n (by omega)]; exact h.1 l' hl', h.2⟩
theorem nI_inj4 {a b : Nat} (ha : a < 4) (hb : b < 4) (h : nI a = nI b) : a = b := (nI_eq (by omega) (by omega)).mp h
/-- two packed columns are equal just when their kinds are -/
theorem mo_pk_eq {x y : Int32} {K K' : Nat → Nat} {c : Nat} (h : mo_pk x K c) (h' : mo_pk y K' c) (hb : ∀ l, l < 8 → K (8 * c + l) < 4) (hb' : ∀ l, l < 8 → K' (8 * c + l) < 4) : x = y ↔ ∀ l, l < 8 → K (8 * c + l) = K' (8 * c + l) := by
  refine ⟨fun e l hl => ?_, fun e => b_ext (fun i hi => ?_)⟩
  · have h1 := h.1 l hl
    rw [e, h'.1 l hl] at h1
    exact (nI_inj4 (hb' l hl) (hb l hl) h1).symm
  · rcases Nat.lt_or_ge i 16 with h2 | h2
    · have h1 : mo_kd x (i / 2) = mo_kd y (i / 2) := by rw [h.1 _ (by omega), h'.1 _ (by omega), e _ (by omega)]
      have h3 := mo_kd_bt (x := x) (l := i / 2) (i := i % 2) (by omega) (by omega)
      have h4 := mo_kd_bt (x := y) (l := i / 2) (i := i % 2) (by omega) (by omega)
      rw [show 2 * (i / 2) + i % 2 = i by omega] at h3 h4
      rw [← h3, ← h4, h1]
    · rw [h.2 i h2, h'.2 i h2]
/-- the first i columns of the state w copied to the state n -/
def mo_gr (r : Nat → Int32) (n w i : Nat) : Nat → Int32 := fun j => if 16 * n ≤ j ∧ j < 16 * n + i then r (16 * w + (j - 16 * n)) else r j
theorem mo_gr_0 (r : Nat → Int32) (n w : Nat) : mo_gr r n w 0 = r := funext fun j => if_neg (by omega)
theorem mo_gr_out {r : Nat → Int32} {n w i j : Nat} (h : j < 16 * n) : mo_gr r n w i j = r j := if_neg (by omega)
theorem mo_gr_in {r : Nat → Int32} {n w c : Nat} (h : c < 16) : mo_gr r n w 16 (16 * n + c) = r (16 * w + c) := by
  unfold mo_gr
  rw [if_pos (by omega), show 16 * n + c - 16 * n = c by omega]
theorem mo_gr_step {r : Nat → Int32} {n w i : Nat} (h : w < n) (hi : i < 16) : upd (mo_gr r n w i) (16 * n + i) (mo_gr r n w i (16 * w + i)) = mo_gr r n w (i + 1) := by
  funext j
  rw [mo_gr_out (j := 16 * w + i) (by omega)]
  show (if j = 16 * n + i then r (16 * w + i) else mo_gr r n w i j) = _
  unfold mo_gr
  by_cases h1 : j = 16 * n + i
  · subst h1
    rw [if_pos rfl, if_pos (by omega), show 16 * n + i - 16 * n = i by omega]
  · rw [if_neg h1]
    by_cases h2 : 16 * n ≤ j ∧ j < 16 * n + i
    · rw [if_pos h2, if_pos (by omega)]
    · rw [if_neg h2, if_neg (by omega)]
theorem st_mo_grow {S : sT} {f : Nat → Int32} {g : Nat → Nat → Int32} (h : st_mo S f g) (hO : st_ok S) : st_mo (st_new S (sK S (sW S))) (upd (upd f 2 (nI (sN S))) 1 (nI (sN S + 1))) (va_up (va_up g 4 (mo_gr (g 4) (sN S) (sW S) 16)) 3 (upd (g 3) (sN S) (nI (sW S)))) := by
  obtain ⟨⟨h1, h2, h3, h4⟩, hp0, hp, hk, hd, hx, hc, hch⟩ := h
  obtain ⟨⟨o1, o2, o3, o4, o5⟩, -⟩ := hO
  refine ⟨⟨rfl, rfl, h3, h4⟩, ?_, fun i hi1 hi2 => ?_, fun i c hi hc => ?_, hd, hx, hc, hch⟩
  · show upd (g 3) (sN S) (nI (sW S)) 0 = -1
    exact (if_neg (by omega)).trans hp0
  · show upd (g 3) (sN S) (nI (sW S)) i = nI (sP (st_new S (sK S (sW S))) i)
    have hi3 : i < sN S + 1 := hi2
    by_cases e : i = sN S
    · subst e
      rw [show upd (g 3) (sN S) (nI (sW S)) (sN S) = nI (sW S) from if_pos rfl]
      congr 1
      show sW S = st_up _ 2 _ _ 1 (sN S) 0
      rw [st_n (by omega), st_s]
    · rw [show upd (g 3) (sN S) (nI (sW S)) i = g 3 i from if_neg e, hp i hi1 (by omega)]
      congr 1
      show S 1 i 0 = st_up _ 2 _ _ 1 i 0
      rw [st_n (by omega), st_n (by omega), st_n (by omega), st_n (by omega)]
  · have hi3 : i < sN S + 1 := hi
    show mo_pk (mo_gr (g 4) (sN S) (sW S) 16 (16 * i + c)) (sK (st_new S (sK S (sW S))) i) c
    by_cases e : i = sN S
    · subst e
      rw [mo_gr_in hc, show sK (st_new S (sK S (sW S))) (sN S) = sK S (sW S) from st_s]
      exact hk _ c o3 hc
    · rw [mo_gr_out (by omega), show sK (st_new S (sK S (sW S))) i = sK S i from (by show st_up _ 2 _ _ 2 i = S 2 i; rw [st_n (by omega), st_n (by omega), st_n (by omega), st_n (by omega)])]
      exact hk i c (by omega) hc
theorem st_mo_put {S : sT} {f : Nat → Int32} {g : Nat → Nat → Int32} (h : st_mo S f g) {a b k : Nat} (ha : a < 16) (hb : b < 8) (hk4 : k < 4) (hw : sW S < sN S) : st_mo (st_put S (8 * a + b) k) f (va_up g 4 (upd (g 4) (16 * sW S + a) (mo_pt (g 4 (16 * sW S + a)) b k))) := by
  obtain ⟨h1, hp0, hp, hk, hd, hx, hc, hch⟩ := h
  refine ⟨h1, hp0, hp, fun i c hi hc => ?_, hd, hx, hc, hch⟩
  have hi2 : i < sN S := hi
  show mo_pk (upd (g 4) (16 * sW S + a) (mo_pt (g 4 (16 * sW S + a)) b k) (16 * i + c)) (sK (st_put S (8 * a + b) k) i) c
  by_cases e : i = sW S
  · subst e
    rw [show sK (st_put S (8 * a + b) k) (sW S) = mi_un (sK S (sW S)) (8 * a + b) k from st_s]
    by_cases ec : c = a
    · subst ec
      rw [show upd (g 4) (16 * sW S + c) _ (16 * sW S + c) = mo_pt (g 4 (16 * sW S + c)) b k from if_pos rfl]
      exact mo_pk_put (hk _ c hw hc) hb hk4
    · rw [show upd (g 4) (16 * sW S + a) _ (16 * sW S + c) = g 4 (16 * sW S + c) from if_neg (by omega)]
      exact mo_pk_other (hk _ c hw hc) hb ec
  · rw [show upd (g 4) (16 * sW S + a) _ (16 * i + c) = g 4 (16 * i + c) from if_neg (by omega), show sK (st_put S (8 * a + b) k) i = sK S i from st_n (Or.inr e)]
    exact hk i c hi2 hc
theorem st_mo_K {S : sT} {f : Nat → Int32} {g : Nat → Nat → Int32} (h : st_mo S f g) {i : Nat} (hi : i < sN S) : ∀ a b, a < 16 → b < 8 → mo_kd (g 4 (16 * i + a)) b = nI (sK S i (8 * a + b)) := fun a b ha hb => (h.2.2.2.1 i a hi ha).1 b hb
/-- the rows of kinds that raise and layer make, step by step -/
def sp_ra (K : Nat → Nat) (a b k i : Nat) : Nat → Nat := fun p => if 8 * a ≤ p ∧ p < 8 * a + i then (if p < 8 * a + b then k else 0) else K p
def sp_la (K : Nat → Nat) (b k i : Nat) : Nat → Nat := fun p => if p % 8 = b ∧ p / 8 < i then k else K p
theorem sp_ra_0 (K : Nat → Nat) (a b k : Nat) : sp_ra K a b k 0 = K := funext fun p => if_neg (by omega)
theorem sp_la_0 (K : Nat → Nat) (b k : Nat) : sp_la K b k 0 = K := funext fun p => if_neg (by omega)
theorem sp_ra_1 {K : Nat → Nat} {a b k i : Nat} (h : i < b) : mi_un (sp_ra K a b k i) (8 * a + i) k = sp_ra K a b k (i + 1) := by
  funext p
  unfold mi_un sp_ra
  by_cases e : p = 8 * a + i
  · rw [if_pos e, if_pos (by omega), if_pos (by omega)]
  · rw [if_neg e]
    by_cases h2 : 8 * a ≤ p ∧ p < 8 * a + i
    · rw [if_pos h2, if_pos (show 8 * a ≤ p ∧ p < 8 * a + (i + 1) by omega)]
    · rw [if_neg h2, if_neg (show ¬ (8 * a ≤ p ∧ p < 8 * a + (i + 1)) by omega)]
theorem sp_ra_2 {K : Nat → Nat} {a b k i : Nat} (h : b ≤ i) : mi_un (sp_ra K a b k i) (8 * a + i) 0 = sp_ra K a b k (i + 1) := by
  funext p
  unfold mi_un sp_ra
  by_cases e : p = 8 * a + i
  · rw [if_pos e, if_pos (by omega), if_neg (by omega)]
  · rw [if_neg e]
    by_cases h2 : 8 * a ≤ p ∧ p < 8 * a + i
    · rw [if_pos h2, if_pos (show 8 * a ≤ p ∧ p < 8 * a + (i + 1) by omega)]
    · rw [if_neg h2, if_neg (show ¬ (8 * a ≤ p ∧ p < 8 * a + (i + 1)) by omega)]
theorem sp_la_1 {K : Nat → Nat} {b k i : Nat} (h : b < 8) : mi_un (sp_la K b k i) (8 * i + b) k = sp_la K b k (i + 1) := by
  funext p
  unfold mi_un sp_la
  by_cases e : p = 8 * i + b
  · rw [if_pos e, if_pos (by omega)]
  · rw [if_neg e]
    by_cases h2 : p % 8 = b ∧ p / 8 < i
    · rw [if_pos h2, if_pos (by omega)]
    · rw [if_neg h2, if_neg (by omega)]
