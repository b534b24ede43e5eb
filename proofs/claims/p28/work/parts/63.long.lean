/-! longs by their bits: columns of 16 bits, heights of 4 (wb_tb, wb_inj, wb_c, wb_sm, wb_shl pasted from kit/laws/BITS) -/
theorem wb_tb (n : Nat) : (lN n).toBitVec = BitVec.ofNat 64 n := rfl
theorem wb_inj {a b : Int64} (h : a.toBitVec = b.toBitVec) : a = b := Int64.toBitVec_inj.mp h
theorem wb_c : ∀ k, k < 64 → ((nI k).toInt64 &&& 63) = lN k := by decide +kernel
theorem wb_sm : ∀ k, k < 64 → (BitVec.ofNat 64 k).smod 64 = BitVec.ofNat 64 k := by decide +kernel
theorem wb_shl (n : Nat) {k : Nat} (hk : k < 64) : lN n <<< ((nI k).toInt64 &&& 63) = lN (n * 2 ^ k) := by
  rw [wb_c k hk]
  apply wb_inj
  rw [Int64.toBitVec_shiftLeft, wb_tb, wb_tb, wb_tb, wb_sm k hk]
  apply BitVec.eq_of_toNat_eq
  rw [BitVec.shiftLeft_eq', BitVec.toNat_shiftLeft, BitVec.toNat_ofNat, BitVec.toNat_ofNat, BitVec.toNat_ofNat, Nat.mod_eq_of_lt (show k < 2 ^ 64 by omega), Nat.shiftLeft_eq, Nat.mul_mod, Nat.mod_mod, ← Nat.mul_mod]
def lb (x : Int64) (i : Nat) : Bool := x.toBitVec.getLsbD i
theorem lb_ext {x y : Int64} (h : ∀ i, i < 64 → lb x i = lb y i) : x = y := Int64.toBitVec_inj.mp (BitVec.eq_of_getLsbD_eq (fun i hi => h i hi))
theorem lb_or (x y : Int64) (i : Nat) : lb (x ||| y) i = (lb x i || lb y i) := by unfold lb; rw [Int64.toBitVec_or, BitVec.getLsbD_or]
theorem lb_and (x y : Int64) (i : Nat) : lb (x &&& y) i = (lb x i && lb y i) := by unfold lb; rw [Int64.toBitVec_and, BitVec.getLsbD_and]
theorem lb_xor (x y : Int64) (i : Nat) : lb (x ^^^ y) i = (lb x i ^^ lb y i) := by unfold lb; rw [Int64.toBitVec_xor, BitVec.getLsbD_xor]
theorem lb_m1 : ∀ i, i < 64 → lb (-1) i = true := by decide +kernel
theorem lb_0 (i : Nat) : lb 0 i = false := BitVec.getLsbD_zero
theorem lb_65535 : ∀ i, i < 64 → lb 65535 i = decide (i < 16) := by decide +kernel
theorem lb_15 : ∀ i, i < 64 → lb 15 i = decide (i < 4) := by decide +kernel
theorem ls_l : ∀ n, n < 64 → (((nI n).toInt64 &&& 63).toBitVec.smod 64).toNat = n := by decide +kernel
theorem lb_shl (n : Nat) (hn : n < 64) (x : Int64) {i : Nat} (hi : i < 64) : lb (x <<< ((nI n).toInt64 &&& 63)) i = (decide (n ≤ i) && lb x (i - n)) := by
  unfold lb
  rw [Int64.toBitVec_shiftLeft]
  show (x.toBitVec <<< (((nI n).toInt64 &&& 63).toBitVec.smod 64).toNat).getLsbD i = _
  rw [ls_l n hn, BitVec.getLsbD_shiftLeft]
  rcases Nat.lt_or_ge i n with h | h
  · simp [h, Nat.not_le.mpr h]
  · simp [hi, h, Nat.not_lt.mpr h]
theorem lb_sshr (n : Nat) (hn : n < 64) (x : Int64) {i : Nat} (hi : i < 64) : lb (x >>> ((nI n).toInt64 &&& 63)) i = if n + i < 64 then lb x (n + i) else lb x 63 := by
  unfold lb
  rw [Int64.toBitVec_shiftRight]
  show (x.toBitVec.sshiftRight (((nI n).toInt64 &&& 63).toBitVec.smod 64).toNat).getLsbD i = _
  rw [ls_l n hn, BitVec.getLsbD_sshiftRight, BitVec.msb_eq_getLsbD_last]
  simp [hi]
theorem lb_i2l (x : Int32) {i : Nat} (hi : i < 64) : lb x.toInt64 i = if i < 32 then bt x i else bt x 31 := by
  unfold lb bt
  show (x.toBitVec.signExtend 64).getLsbD i = _
  rw [BitVec.getLsbD_signExtend, BitVec.msb_eq_getLsbD_last]
  simp [hi]
theorem bt_l2i (x : Int64) {i : Nat} (hi : i < 32) : bt x.toInt32 i = lb x i := by
  unfold lb bt
  rw [Int64.toBitVec_toInt32, BitVec.getLsbD_signExtend, decide_eq_true hi, Bool.true_and, if_pos (by omega)]
/-- the law's column: 16 bits of a row of longs -/
def lj_col (B : Nat → Int64) (i c : Nat) : Int32 := ((B (4 * i + c / 4) >>> ((nI (16 * (c % 4))).toInt64 &&& 63)) &&& 65535).toInt32
theorem lj_col_bt (B : Nat → Int64) (i c : Nat) {j : Nat} (hj : j < 32) : bt (lj_col B i c) j = (decide (j < 16) && lb (B (4 * i + c / 4)) (16 * (c % 4) + j)) := by
  unfold lj_col
  rw [bt_l2i _ hj, lb_and, lb_65535 j (by omega), lb_sshr _ (by omega) _ (by omega)]
  by_cases h : j < 16
  · rw [if_pos (by omega), decide_eq_true h, Bool.and_true, Bool.true_and]
  · rw [decide_eq_false h, Bool.and_false, Bool.false_and]
theorem lj_col_congr {B B' : Nat → Int64} {i i' c : Nat} (h : B (4 * i + c / 4) = B' (4 * i' + c / 4)) : lj_col B i c = lj_col B' i' c := by unfold lj_col; rw [h]
def lj_lv (b : Int64) (c : Nat) (x : Int32) : Int64 := (b &&& (((65535 : Int64) <<< ((nI (16 * (c % 4))).toInt64 &&& 63)) ^^^ (-1))) ||| (x.toInt64 <<< ((nI (16 * (c % 4))).toInt64 &&& 63))
def lj_lay (B : Nat → Int64) (i c : Nat) (x : Int32) : Nat → Int64 := vp_updL B (4 * i + c / 4) (lj_lv (B (4 * i + c / 4)) c x)
theorem lj_lv_bt (b : Int64) {c : Nat} {x : Int32} (hx : ∀ j, 16 ≤ j → bt x j = false) {i : Nat} (hi : i < 64) : lb (lj_lv b c x) i = if 16 * (c % 4) ≤ i ∧ i < 16 * (c % 4) + 16 then bt x (i - 16 * (c % 4)) else lb b i := by
  unfold lj_lv
  rw [lb_or, lb_and, lb_xor, lb_m1 i hi, lb_shl _ (by omega) _ hi, lb_shl _ (by omega) _ hi, lb_65535 _ (by omega), lb_i2l x (by omega)]
  by_cases h1 : 16 * (c % 4) ≤ i
  · by_cases h2 : i < 16 * (c % 4) + 16
    · rw [if_pos (show 16 * (c % 4) ≤ i ∧ i < 16 * (c % 4) + 16 from ⟨h1, h2⟩), decide_eq_true h1, decide_eq_true (show i - 16 * (c % 4) < 16 by omega), if_pos (show i - 16 * (c % 4) < 32 by omega)]
      simp
    · rw [if_neg (show ¬ (16 * (c % 4) ≤ i ∧ i < 16 * (c % 4) + 16) by omega), decide_eq_true h1, decide_eq_false (show ¬ i - 16 * (c % 4) < 16 by omega)]
      by_cases h3 : i - 16 * (c % 4) < 32
      · rw [if_pos h3, hx _ (by omega)]
        simp
      · rw [if_neg h3, hx 31 (by omega)]
        simp
  · rw [if_neg (show ¬ (16 * (c % 4) ≤ i ∧ i < 16 * (c % 4) + 16) by omega), decide_eq_false h1]
    simp
theorem lj_lay_col {B : Nat → Int64} {i c : Nat} {x : Int32} (hx : ∀ j, 16 ≤ j → bt x j = false) {i' c' : Nat} (hc : c < 16) (hc' : c' < 16) : lj_col (lj_lay B i c x) i' c' = if i' = i ∧ c' = c then x else lj_col B i' c' := by
  refine b_ext (fun j hj => ?_)
  rw [lj_col_bt _ _ _ hj]
  by_cases e : 4 * i' + c' / 4 = 4 * i + c / 4
  · rw [e, show lj_lay B i c x (4 * i + c / 4) = lj_lv (B (4 * i + c / 4)) c x from if_pos rfl]
    by_cases h : j < 16
    · rw [lj_lv_bt _ hx (by omega), decide_eq_true h, Bool.true_and]
      by_cases ec : c' % 4 = c % 4
      · rw [if_pos (show i' = i ∧ c' = c by omega), if_pos (by omega)]
        congr 1
        omega
      · rw [if_neg (show ¬ (i' = i ∧ c' = c) by omega), if_neg (by omega), lj_col_bt _ _ _ hj, decide_eq_true h, Bool.true_and, e]
    · rw [decide_eq_false h, Bool.false_and]
      split
      · rw [hx j (by omega)]
      · rw [lj_col_bt _ _ _ hj, decide_eq_false h, Bool.false_and]
  · rw [show lj_lay B i c x (4 * i' + c' / 4) = B (4 * i' + c' / 4) from if_neg e, if_neg (show ¬ (i' = i ∧ c' = c) by rintro ⟨rfl, rfl⟩; exact e rfl), lj_col_bt _ _ _ hj]
/-- the first k longs of the state w copied to the state n -/
def lj_gr (B : Nat → Int64) (n w k : Nat) : Nat → Int64 := fun j => if 4 * n ≤ j ∧ j < 4 * n + k then B (4 * w + (j - 4 * n)) else B j
theorem lj_gr_0 (B : Nat → Int64) (n w : Nat) : lj_gr B n w 0 = B := funext fun j => if_neg (by omega)
theorem lj_gr_s {B : Nat → Int64} {n w k : Nat} (h : w < n) (hk : k < 4) : vp_updL (lj_gr B n w k) (4 * n + k) (lj_gr B n w k (4 * w + k)) = lj_gr B n w (k + 1) := by
  funext j
  rw [show lj_gr B n w k (4 * w + k) = B (4 * w + k) from if_neg (by omega)]
  show (if j = 4 * n + k then B (4 * w + k) else lj_gr B n w k j) = _
  unfold lj_gr
  by_cases h1 : j = 4 * n + k
  · subst h1
    rw [if_pos rfl, if_pos (by omega), show 4 * n + k - 4 * n = k by omega]
  · rw [if_neg h1]
    by_cases h2 : 4 * n ≤ j ∧ j < 4 * n + k
    · rw [if_pos h2, if_pos (by omega)]
    · rw [if_neg h2, if_neg (by omega)]
theorem lj_gr_col {B : Nat → Int64} {n w i c : Nat} (hc : c < 16) : lj_col (lj_gr B n w 4) i c = if i = n then lj_col B w c else lj_col B i c := by
  by_cases e : i = n
  · subst e
    rw [if_pos rfl]
    exact lj_col_congr ((if_pos (by omega)).trans (by rw [show 4 * i + c / 4 - 4 * i = c / 4 by omega]))
  · rw [if_neg e]
    exact lj_col_congr (if_neg (by omega))
/-- heights packed in a long -/
def lj_at (L : Int64) (c : Nat) : Int32 := ((L >>> ((nI (4 * c)).toInt64 &&& 63)) &&& 15).toInt32
def lj_hp (L : Int64) (h : Nat → Nat) : Prop := ∀ c, c < 16 → lj_at L c = nI (h c)
theorem lj_at_bt (L : Int64) {c : Nat} (hc : c < 16) {j : Nat} (hj : j < 32) : bt (lj_at L c) j = (decide (j < 4) && lb L (4 * c + j)) := by
  unfold lj_at
  rw [bt_l2i _ hj, lb_and, lb_15 j (by omega), lb_sshr _ (by omega) _ (by omega)]
  by_cases h : j < 4
  · rw [if_pos (by omega), decide_eq_true h, Bool.and_true, Bool.true_and]
  · rw [decide_eq_false h, Bool.and_false, Bool.false_and]
theorem lj_hp_eq {L M : Int64} {h k : Nat → Nat} (hL : lj_hp L h) (hM : lj_hp M k) (b : ∀ c, c < 16 → h c ≤ 8) (b' : ∀ c, c < 16 → k c ≤ 8) : L = M ↔ ∀ c, c < 16 → h c = k c := by
  constructor
  · intro e c hc
    have h1 := hL c hc
    rw [e, hM c hc] at h1
    have := b c hc
    have := b' c hc
    exact ((nI_eq (by omega) (by omega)).mp h1).symm
  · intro e
    refine lb_ext (fun i hi => ?_)
    have h1 : lj_at L (i / 4) = lj_at M (i / 4) := by rw [hL _ (by omega), hM _ (by omega), e _ (by omega)]
    have h2 := lj_at_bt L (c := i / 4) (by omega) (j := i % 4) (by omega)
    have h3 := lj_at_bt M (c := i / 4) (by omega) (j := i % 4) (by omega)
    rw [decide_eq_true (show i % 4 < 4 by omega), Bool.true_and, show 4 * (i / 4) + i % 4 = i by omega] at h2 h3
    rw [← h2, ← h3, h1]
theorem lj_hp_cong {L : Int64} {h k : Nat → Nat} (hL : lj_hp L h) (e : ∀ c, c < 16 → h c = k c) : lj_hp L k := fun c hc => by rw [hL c hc, e c hc]
theorem bt_nat {v j : Nat} (hj : j < 32) : bt (nI v) j = v.testBit j := by
  show (BitVec.ofNat 32 v).getLsbD j = _
  rw [BitVec.getLsbD_ofNat]
  simp [hj]
theorem lj_at_nat (L : Int64) {c : Nat} (hc : c < 16) : lj_at L c = nI (L.toBitVec.toNat / 16 ^ c % 16) := by
  refine b_ext (fun j hj => ?_)
  rw [lj_at_bt L hc hj, bt_nat hj, show (16 : Nat) ^ c = 2 ^ (4 * c) by rw [Nat.pow_mul], show (16 : Nat) = 2 ^ 4 from rfl, Nat.testBit_mod_two_pow, Nat.testBit_div_two_pow]
  show (decide (j < 4) && L.toBitVec.getLsbD (4 * c + j)) = _
  rw [← BitVec.testBit_toNat, Nat.add_comm (4 * c) j]
theorem nib_dec {n m : Nat} (h1 : 1 ≤ n / 16 ^ m % 16) (c : Nat) : (n - 16 ^ m) / 16 ^ c % 16 = if c = m then n / 16 ^ m % 16 - 1 else n / 16 ^ c % 16 := by
  rcases Nat.lt_trichotomy c m with h | h | h
  · rw [if_neg (by omega)]
    obtain ⟨t, ht⟩ : ∃ t, t = 16 ^ (m - c - 1) := ⟨_, rfl⟩
    have e : 16 ^ m = 16 ^ c * (16 * t) := by rw [ht, ← Nat.pow_succ', ← Nat.pow_add]; congr 1; omega
    have hp : 0 < 16 ^ c := Nat.pow_pos (by decide)
    have hle : 16 ^ m ≤ n := by
      rcases Nat.lt_or_ge n (16 ^ m) with q | q
      · rw [Nat.div_eq_of_lt q] at h1; omega
      · exact q
    rw [e] at hle ⊢
    rw [Nat.sub_mul_div_of_le _ _ _ hle]
    have h5 : 16 * t ≤ n / 16 ^ c := (Nat.le_div_iff_mul_le hp).mpr (by rw [Nat.mul_comm]; exact hle)
    omega
  · subst h
    rw [if_pos rfl]
    have hp : 0 < 16 ^ c := Nat.pow_pos (by decide)
    have hle : 16 ^ c * 1 ≤ n := by
      rcases Nat.lt_or_ge n (16 ^ c) with q | q
      · rw [Nat.div_eq_of_lt q] at h1; omega
      · omega
    have e : (n - 16 ^ c) / 16 ^ c = n / 16 ^ c - 1 := by
      have := Nat.sub_mul_div_of_le n (16 ^ c) 1 hle
      rwa [Nat.mul_one] at this
    rw [e]
    generalize n / 16 ^ c = z at h1 ⊢
    omega
  · rw [if_neg (by omega)]
    obtain ⟨t, ht⟩ : ∃ t, t = 16 ^ (c - m - 1) := ⟨_, rfl⟩
    have e0 : 16 ^ c = 16 ^ m * 16 * t := by rw [ht, Nat.mul_assoc, ← Nat.pow_succ', ← Nat.pow_add]; congr 1; omega
    have hle : 16 ^ m * 1 ≤ n := by
      rcases Nat.lt_or_ge n (16 ^ m) with q | q
      · rw [Nat.div_eq_of_lt q] at h1; omega
      · omega
    have e : (n - 16 ^ m) / 16 ^ m = n / 16 ^ m - 1 := by
      have := Nat.sub_mul_div_of_le n (16 ^ m) 1 hle
      rwa [Nat.mul_one] at this
    rw [e0, ← Nat.div_div_eq_div_mul, ← Nat.div_div_eq_div_mul, ← Nat.div_div_eq_div_mul, ← Nat.div_div_eq_div_mul, e]
    rw [show (n / 16 ^ m - 1) / 16 = n / 16 ^ m / 16 from by generalize n / 16 ^ m = z at h1 ⊢; omega]
theorem lj_dec {L : Int64} {h : Nat → Nat} {m : Nat} (hL : lj_hp L h) (hm : m < 16) (h0 : 0 < h m) (hb : ∀ c, c < 16 → h c ≤ 8) : lj_hp (L - ((1 : Int64) <<< ((nI (4 * m)).toInt64 &&& 63))) (fun c => if c = m then h c - 1 else h c) := by
  have e1 : (1 : Int64) <<< ((nI (4 * m)).toInt64 &&& 63) = lN (16 ^ m) := by
    have := wb_shl 1 (k := 4 * m) (by omega)
    rw [Nat.one_mul, Nat.pow_mul] at this
    exact this
  have hn : ∀ c, c < 16 → L.toBitVec.toNat / 16 ^ c % 16 = h c := by
    intro c hc
    have h1 := hL c hc
    rw [lj_at_nat L hc] at h1
    have := hb c hc
    exact (nI_eq (by omega) (by omega)).mp h1
  have hlt := L.toBitVec.isLt
  have h1 : 1 ≤ L.toBitVec.toNat / 16 ^ m % 16 := by rw [hn m hm]; exact h0
  have hle : 16 ^ m ≤ L.toBitVec.toNat := by
    rcases Nat.lt_or_ge L.toBitVec.toNat (16 ^ m) with q | q
    · rw [Nat.div_eq_of_lt q] at h1; omega
    · exact q
  have e2 : (L - lN (16 ^ m)).toBitVec.toNat = L.toBitVec.toNat - 16 ^ m := by
    rw [Int64.toBitVec_sub, wb_tb, BitVec.toNat_sub, BitVec.toNat_ofNat, Nat.mod_eq_of_lt (show 16 ^ m < 2 ^ 64 by omega)]
    generalize 16 ^ m = z at hle ⊢
    omega
  intro c hc
  rw [e1, lj_at_nat _ hc, e2, nib_dec h1 c]
  by_cases z : c = m
  · subst z
    rw [if_pos rfl]
    show _ = nI (if c = c then h c - 1 else h c)
    rw [if_pos rfl, hn c hc]
  · rw [if_neg z]
    show _ = nI (if c = m then h c - 1 else h c)
    rw [if_neg z, hn c hc]
/-- the first n heights laid into a long -/
def lj_hk (L : Int64) (h : Nat → Nat) (n : Nat) : Prop := ∀ i, i < 64 → lb L i = (decide (i / 4 < n) && (h (i / 4)).testBit (i % 4))
theorem lj_hk_0 (h : Nat → Nat) : lj_hk 0 h 0 := fun i _ => by rw [lb_0, decide_eq_false (Nat.not_lt_zero _), Bool.false_and]
theorem bt_16 : ∀ v, v < 16 → ∀ j, j < 32 → bt (nI v) j = (decide (j < 4) && Nat.testBit v j) := by decide +kernel
theorem lj_hk_s {L : Int64} {h : Nat → Nat} {n : Nat} (hL : lj_hk L h n) (hn : n < 16) (hb : h n ≤ 8) : lj_hk (L ||| ((nI (h n)).toInt64 <<< ((nI (4 * n)).toInt64 &&& 63))) h (n + 1) := by
  intro i hi
  rw [lb_or, hL i hi, lb_shl _ (by omega) _ hi, lb_i2l _ (by omega)]
  have hk : (if i - 4 * n < 32 then bt (nI (h n)) (i - 4 * n) else bt (nI (h n)) 31) = (decide (i - 4 * n < 4) && Nat.testBit (h n) (i - 4 * n)) := by
    by_cases q : i - 4 * n < 32
    · rw [if_pos q, bt_16 _ (by omega) _ q]
    · rw [if_neg q, bt_16 _ (by omega) _ (by omega), decide_eq_false (show ¬ 31 < 4 by omega), decide_eq_false (show ¬ i - 4 * n < 4 by omega), Bool.false_and, Bool.false_and]
  rw [hk]
  rcases Nat.lt_trichotomy (i / 4) n with q | q | q
  · rw [decide_eq_true q, decide_eq_true (show i / 4 < n + 1 by omega), decide_eq_false (show ¬ 4 * n ≤ i by omega)]
    simp
  · rw [decide_eq_false (show ¬ i / 4 < n by omega), decide_eq_true (show i / 4 < n + 1 by omega), decide_eq_true (show 4 * n ≤ i by omega), decide_eq_true (show i - 4 * n < 4 by omega), q, show i % 4 = i - 4 * n by omega]
    simp
  · rw [decide_eq_false (show ¬ i / 4 < n by omega), decide_eq_false (show ¬ i / 4 < n + 1 by omega), decide_eq_false (show ¬ i - 4 * n < 4 by omega)]
    simp
theorem lj_hk_hp {L : Int64} {h : Nat → Nat} (hL : lj_hk L h 16) (hb : ∀ c, c < 16 → h c ≤ 8) : lj_hp L h := by
  intro c hc
  refine b_ext (fun j hj => ?_)
  have := hb c hc
  rw [lj_at_bt L hc hj, bt_16 _ (by omega) _ hj]
  by_cases q : j < 4
  · rw [hL _ (by omega), decide_eq_true q, decide_eq_true (show (4 * c + j) / 4 < 16 by omega), show (4 * c + j) / 4 = c by omega, show (4 * c + j) % 4 = j by omega]
    simp
  · rw [decide_eq_false q, Bool.false_and, Bool.false_and]
theorem lj_hp_0 : lj_hp 0 (fun _ => 0) := lj_hk_hp (fun i _ => by rw [lb_0]; simp) (fun _ _ => by omega)
/-- a state's row of kinds, told anew -/
theorem mo_pk_cong {x : Int32} {K K' : Nat → Nat} {c : Nat} (h : mo_pk x K c) (e : ∀ l, l < 8 → K' (8 * c + l) = K (8 * c + l)) : mo_pk x K' c := ⟨fun l hl => by rw [e l hl]; exact h.1 l hl, h.2⟩
/-- what raise lays: the kind on all levels below the height -/
def lj_ra (k b : Nat) : Int32 := (nI k * nI 21845) &&& (((1 : Int32) <<< (nI (2 * b) &&& 31)) - nI 1)
theorem lj_ra_kd : ∀ k, k < 4 → ∀ b, b < 9 → ∀ l, l < 8 → mo_kd (lj_ra k b) l = nI (if l < b then k else 0) := by decide +kernel
theorem lj_ra_hi : ∀ k, k < 4 → ∀ b, b < 9 → ∀ j, j < 32 → 16 ≤ j → bt (lj_ra k b) j = false := by decide +kernel
theorem lj_ra_pk {K : Nat → Nat} {a b k : Nat} (hb : b ≤ 8) (hk : k < 4) : mo_pk (lj_ra k b) (sp_ra K a b k 8) a := by
  refine ⟨fun l hl => ?_, fun j hj => ?_⟩
  · rw [lj_ra_kd k hk b (by omega) l hl]
    unfold sp_ra
    rw [if_pos (show 8 * a ≤ 8 * a + l ∧ 8 * a + l < 8 * a + 8 by omega)]
    by_cases q : l < b
    · rw [if_pos q, if_pos (show 8 * a + l < 8 * a + b by omega)]
    · rw [if_neg q, if_neg (show ¬ 8 * a + l < 8 * a + b by omega)]
  · by_cases q : j < 32
    · exact lj_ra_hi k hk b (by omega) j q hj
    · exact b_big (by omega)
/-- the law's arrays hold S: 1 b, 2 p, 3 d, 4 h, 5 w, 6 c, 9 g -/
def lr (T : sT) (gl : Nat → Nat → Int64) (gi : Nat → Nat → Int32) : Prop :=
  (gi 9 0 = nI (sW T) ∧ gi 9 1 = nI (sN T) ∧ gi 9 2 = nI (sD T) ∧ gi 9 3 = nI (sC T)) ∧ sN T ≤ 16 ∧ (∀ i, 1 ≤ i → i < sN T → gi 2 i = nI (sP T i)) ∧ (∀ i c, i < sN T → c < 16 → mo_pk (lj_col (gl 1) i c) (sK T i) c) ∧ (∀ d, d < sD T → lj_hp (gl 3 d) (sF T d) ∧ gi 5 d = nI (sX T d)) ∧ ∀ i, i < sC T → lj_hp (gl 4 i) (sCh T i) ∧ gi 6 i = nI (sCd T i + 8 * sCn T i)
theorem st_new_K {S : sT} {K : Nat → Nat} (i : Nat) : sK (st_new S K) i = if i = sN S then K else sK S i := by
  show st_up _ 2 _ _ 2 i = _
  by_cases z : i = sN S
  · rw [if_pos z, z, st_s]
  · rw [if_neg z, st_n (by omega), st_n (by omega), st_n (by omega), st_n (by omega)]
theorem st_new_P {S : sT} {K : Nat → Nat} (i : Nat) : sP (st_new S K) i = if i = sN S then sW S else sP S i := by
  show st_up _ 2 _ _ 1 i 0 = _
  by_cases z : i = sN S
  · rw [if_pos z, z, st_n (by omega), st_s]
  · rw [if_neg z, st_n (by omega), st_n (by omega), st_n (by omega), st_n (by omega)]
theorem lr_now {T : sT} {gl : Nat → Nat → Int64} {gi : Nat → Nat → Int32} (h : lr T gl gi) (w : Nat) : lr (st_now T w) gl (va_up gi 9 (upd (gi 9) 0 (nI w))) := ⟨⟨rfl, h.1.2⟩, h.2⟩
theorem lr_7 {T : sT} {gl : Nat → Nat → Int64} {gi : Nat → Nat → Int32} (h : lr T gl gi) (x : Nat → Int32) : lr T gl (va_up gi 7 x) := h
theorem lr_8 {T : sT} {gl : Nat → Nat → Int64} {gi : Nat → Nat → Int32} (h : lr T gl gi) (x : Nat → Int32) : lr T gl (va_up gi 8 x) := h
theorem lr_grow {T : sT} {gl : Nat → Nat → Int64} {gi : Nat → Nat → Int32} (h : lr T gl gi) (hO : st_ok T) (h16 : sN T < 16) : lr (st_new T (sK T (sW T))) (va_up gl 1 (lj_gr (gl 1) (sN T) (sW T) 4)) (va_up (va_up gi 2 (upd (gi 2) (sN T) (nI (sW T)))) 9 (upd (upd (gi 9) 0 (nI (sN T))) 1 (nI (sN T + 1)))) := by
  obtain ⟨⟨h0, h1, h2, h3⟩, h4, hp, hk, hd, hc⟩ := h
  have o3 := hO.1.2.2.1
  refine ⟨⟨rfl, rfl, h2, h3⟩, by show sN T + 1 ≤ 16; omega, fun i q1 q2 => ?_, fun i c q1 q2 => ?_, hd, hc⟩
  · have q2 : i < sN T + 1 := q2
    rw [st_new_P]
    show upd (gi 2) (sN T) (nI (sW T)) i = _
    by_cases z : i = sN T
    · rw [if_pos z]
      exact if_pos z
    · rw [if_neg z]
      exact (if_neg z).trans (hp i q1 (by omega))
  · have q1 : i < sN T + 1 := q1
    rw [st_new_K]
    show mo_pk (lj_col (lj_gr (gl 1) (sN T) (sW T) 4) i c) _ c
    rw [lj_gr_col q2]
    by_cases z : i = sN T
    · rw [if_pos z, if_pos z]
      exact hk _ c o3 q2
    · rw [if_neg z, if_neg z]
      exact hk _ c (by omega) q2
theorem lr_lay {T : sT} {K K2 : Nat → Nat} {gl : Nat → Nat → Int64} {gi : Nat → Nat → Int32} {c : Nat} {x : Int32} (h : lr (st_new T K) gl gi) (hc : c < 16) (hx : mo_pk x K2 c) (e : ∀ c', c' < 16 → c' ≠ c → ∀ l, l < 8 → K2 (8 * c' + l) = K (8 * c' + l)) : lr (st_new T K2) (va_up gl 1 (lj_lay (gl 1) (sN T) c x)) gi := by
  obtain ⟨h0, h4, hp, hk, hd, hcc⟩ := h
  refine ⟨h0, h4, fun i q1 q2 => ?_, fun i c' q1 q2 => ?_, hd, hcc⟩
  · rw [hp i q1 q2, st_new_P, st_new_P]
  · have q3 := hk i c' q1 q2
    rw [st_new_K] at q3 ⊢
    show mo_pk (lj_col (lj_lay (gl 1) (sN T) c x) i c') _ c'
    rw [lj_lay_col hx.2 hc q2]
    by_cases z : i = sN T
    · rw [if_pos z] at q3 ⊢
      by_cases y : c' = c
      · subst y
        rw [if_pos ⟨z, rfl⟩]
        exact hx
      · rw [if_neg (by omega)]
        exact mo_pk_cong q3 (e c' q2 y)
    · rw [if_neg z] at q3 ⊢
      rw [if_neg (by omega)]
      exact q3
theorem lr_cut {T : sT} {gl : Nat → Nat → Int64} {gi : Nat → Nat → Int32} {L : Int64} (h : lr T gl gi) (hL : lj_hp L (fun c => sp_h (sK T (sW T)) c 8)) : lr (st_cut T) (va_up gl 3 (vp_updL (gl 3) (sD T) L)) (va_up (va_up gi 5 (upd (gi 5) (sD T) (nI 0))) 9 (upd (gi 9) 2 (nI (sD T + 1)))) := by
  obtain ⟨⟨h0, h1, h2, h3⟩, h4, hp, hk, hd, hc⟩ := h
  refine ⟨⟨h0, h1, rfl, h3⟩, h4, hp, hk, fun d q1 => ?_, hc⟩
  have q1 : d < sD T + 1 := q1
  show lj_hp (vp_updL (gl 3) (sD T) L d) (st_up _ 5 _ _ 3 d) ∧ upd (gi 5) (sD T) (nI 0) d = nI (st_up _ 5 _ _ 4 d 0)
  by_cases z : d = sD T
  · subst z
    rw [pk_uLs, pk_us, st_n (by omega), st_n (by omega), st_s, st_n (by omega), st_s]
    exact ⟨hL, rfl⟩
  · rw [pk_uLn z, pk_un z, st_n (by omega), st_n (by omega), st_n (by omega), st_n (by omega), st_n (by omega), st_n (by omega), st_n (by omega), st_n (by omega)]
    exact hd d (by omega)
theorem lr_coin {T : sT} {gl : Nat → Nat → Int64} {gi : Nat → Nat → Int32} {d n : Nat} {h0 : Nat → Nat} {M : Int64} (h : lr T gl gi) (hM : lj_hp M h0) : lr (st_coin T d n h0) (va_up gl 4 (vp_updL (gl 4) (sC T) M)) (va_up (va_up gi 6 (upd (gi 6) (sC T) (nI (d + 8 * n)))) 9 (upd (gi 9) 3 (nI (sC T + 1)))) := by
  obtain ⟨⟨g0, g1, g2, g3⟩, h4, hp, hk, hd, hc⟩ := h
  refine ⟨⟨g0, g1, g2, rfl⟩, h4, hp, hk, hd, fun i q1 => ?_⟩
  have q1 : i < sC T + 1 := q1
  rw [st_coin_6, st_coin_7, st_coin_8]
  show lj_hp (vp_updL (gl 4) (sC T) M i) _ ∧ upd (gi 6) (sC T) (nI (d + 8 * n)) i = _
  by_cases z : i = sC T
  · subst z
    rw [pk_uLs, pk_us, if_pos rfl, if_pos rfl, if_pos rfl]
    exact ⟨hM, rfl⟩
  · rw [pk_uLn z, pk_un z, if_neg z, if_neg z, if_neg z]
    exact hc i (by omega)
theorem lr_strike {T : sT} {gl : Nat → Nat → Int64} {gi : Nat → Nat → Int32} {d : Nat} {M : Int64} (h : lr T gl gi) (hM : lj_hp M (sH T d)) : lr (st_strike T d) (va_up gl 4 (vp_updL (gl 4) (sC T) M)) (va_up (va_up (va_up gi 5 (upd (gi 5) d (nI (sX T d + 1)))) 6 (upd (gi 6) (sC T) (nI (d + 8 * (sX T d + 1))))) 9 (upd (gi 9) 3 (nI (sC T + 1)))) := by
  obtain ⟨a0, a4, ap, ak, ad, ac⟩ := lr_coin (d := d) (n := sX T d + 1) h hM
  refine ⟨a0, a4, ap, ak, fun e q1 => ⟨(ad e q1).1, ?_⟩, ac⟩
  have h2 := (h.2.2.2.2.1 e q1).2
  show upd (gi 5) d (nI (sX T d + 1)) e = nI (st_up _ 5 d _ 4 e 0)
  by_cases z : e = d
  · subst z
    rw [st_n (by omega), st_s]
    exact if_pos rfl
  · rw [st_n (by omega), st_n (by omega)]
    exact (if_neg z).trans h2
