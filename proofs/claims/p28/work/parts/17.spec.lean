/-! what is asked of a row of kinds K: runs, blocks, heights (column c, level l: the place 8 * c + l) -/
def sp_ne (K : Nat → Nat) (p : Nat) : Nat := if K p = K (p + 1) then 0 else 1
def sp_er (K : Nat → Nat) (c l : Nat) : Nat := if l = 7 then 1 else sp_ne K (8 * c + l)
def sp_ri (K : Nat → Nat) (c l : Nat) : Nat := fb_sm (fun j => sp_ne K (8 * c + j)) l
def sp_runs (K : Nat → Nat) (c : Nat) : Nat := 1 + sp_ri K c 7
def sp_rl (K : Nat → Nat) (c r : Nat) : Nat := fb_sm (fun j => if sp_ri K c j = r then 1 else 0) 8
def sp_bl (K : Nat → Nat) (p : Nat) : Nat := if K p = 0 then 0 else 1
def sp_blocks (K : Nat → Nat) : Nat := fb_sm (sp_bl K) 128
def sp_h (K : Nat → Nat) (c : Nat) : Nat → Nat
  | 0 => 0
  | n + 1 => if K (8 * c + n) = 0 then sp_h K c n else n + 1
theorem sp_ne_le (K : Nat → Nat) (p : Nat) : sp_ne K p ≤ 1 := by unfold sp_ne; split <;> omega
theorem sp_er_le (K : Nat → Nat) (c l : Nat) : sp_er K c l ≤ 1 := by unfold sp_er; split; exact Nat.le_refl 1; exact sp_ne_le K _
theorem sp_er_7 (K : Nat → Nat) (c : Nat) : sp_er K c 7 = 1 := if_pos rfl
theorem sp_er_n (K : Nat → Nat) (c : Nat) {l : Nat} (h : l ≠ 7) : sp_er K c l = sp_ne K (8 * c + l) := if_neg h
theorem sp_er_sum (K : Nat → Nat) (c : Nat) {l : Nat} (h : l ≤ 7) : fb_sm (sp_er K c) l = sp_ri K c l := fb_sm_cong (fun k hk => sp_er_n K c (by omega))
theorem sp_er_all (K : Nat → Nat) (c : Nat) : fb_sm (sp_er K c) 8 = sp_runs K c := by
  rw [fb_sm_succ, sp_er_sum K c (Nat.le_refl 7), sp_er_7]
  unfold sp_runs
  omega
theorem sp_ri_succ (K : Nat → Nat) (c l : Nat) : sp_ri K c (l + 1) = sp_ri K c l + sp_ne K (8 * c + l) := rfl
theorem sp_ri_le (K : Nat → Nat) (c : Nat) : ∀ l, sp_ri K c l ≤ l
  | 0 => Nat.le_refl 0
  | l + 1 => by
    have h1 := sp_ri_le K c l
    have h2 := sp_ne_le K (8 * c + l)
    rw [sp_ri_succ]
    omega
theorem sp_bl_le (K : Nat → Nat) (p : Nat) : sp_bl K p ≤ 1 := by unfold sp_bl; split <;> omega
theorem sp_bl_0 {K : Nat → Nat} {p : Nat} (h : K p = 0) : sp_bl K p = 0 := if_pos h
theorem sp_bl_1 {K : Nat → Nat} {p : Nat} (h : K p ≠ 0) : sp_bl K p = 1 := if_neg h
theorem sp_h_le (K : Nat → Nat) (c : Nat) : ∀ l, sp_h K c l ≤ l
  | 0 => Nat.le_refl 0
  | l + 1 => by
    have h1 := sp_h_le K c l
    rw [sp_h]
    split <;> omega
theorem sp_h_0 {K : Nat → Nat} {c l : Nat} (h : K (8 * c + l) = 0) : sp_h K c (l + 1) = sp_h K c l := if_pos h
theorem sp_h_1 {K : Nat → Nat} {c l : Nat} (h : K (8 * c + l) ≠ 0) : sp_h K c (l + 1) = l + 1 := if_neg h
/-- a number, or one less than none -/
def mi_dn : Nat → Int32
  | 0 => -1
  | n + 1 => nI n
theorem mi_dn_toInt {n : Nat} (h : n < 2 ^ 31) : (mi_dn n).toInt = (n : Int) - 1 := by
  cases n with
  | zero => decide
  | succ n =>
    show (nI n).toInt = _
    rw [nI_toInt (by omega)]
    omega
theorem mi_dn_dec (n : Nat) : nI n + Int32.ofInt (-1) = mi_dn n := by
  cases n with
  | zero => decide
  | succ n =>
    show nI (n + 1) + (-1) = nI n
    exact pk_m1 n
def mi_un (K : Nat → Nat) (p v : Nat) : Nat → Nat := fun j => if j = p then v else K j
theorem mi_un_upd (K : Nat → Nat) (p v : Nat) : upd (fun j => nI (K j)) p (nI v) = fun j => nI (mi_un K p v j) := by
  funext j
  show (if j = p then nI v else nI (K j)) = nI (if j = p then v else K j)
  by_cases h : j = p
  · rw [if_pos h, if_pos h]
  · rw [if_neg h, if_neg h]
theorem mi_un_s {K : Nat → Nat} {p v : Nat} : mi_un K p v p = v := if_pos rfl
theorem mi_un_n {K : Nat → Nat} {p v j : Nat} (h : j ≠ p) : mi_un K p v j = K j := if_neg h
theorem mi_up_up {α : Type} (f : Nat → α) (k : Nat) (v w : α) : va_up (va_up f k v) k w = va_up f k w := by
  funext j
  by_cases h : j = k
  · subst h
    rw [mi_up_s, mi_up_s]
  · rw [mi_up_n h, mi_up_n h, mi_up_n h]
theorem mi_un_un (K : Nat → Nat) (p v w : Nat) : mi_un (mi_un K p v) p w = mi_un K p w := by
  funext j
  by_cases h : j = p
  · subst h
    rw [mi_un_s, mi_un_s]
  · rw [mi_un_n h, mi_un_n h, mi_un_n h]
/-- the kind on level l of a packed column -/
def mo_kd (x : Int32) (l : Nat) : Int32 := (x >>> (nI (2 * l) &&& 31)) &&& nI 3
