/-! what is asked of states, dies and coins -/
/-- a state's parent's number and one more; 0 for none -/
def sp_pn (S : sT) (i : Nat) : Nat := if i = 0 then 0 else sP S i + 1
theorem sp_pn_0 (S : sT) : sp_pn S 0 = 0 := rfl
theorem sp_pn_n {S : sT} {i : Nat} (h : i ≠ 0) : sp_pn S i = sP S i + 1 := if_neg h
theorem sp_pn_le {S : sT} (h : st_ok S) {i : Nat} (hi : i < sN S) : sp_pn S i ≤ i := by
  by_cases z : i = 0
  · subst z
    exact Nat.le_refl 0
  · rw [sp_pn_n z]
    exact h.2.1 i (by omega) hi
/-- how many of the first n states have the parent w -/
def sp_br (S : sT) (w n : Nat) : Nat := fb_sm (fun i => if sp_pn S i = w + 1 then 1 else 0) n
theorem sp_br_1 {S : sT} {w n : Nat} (h : sp_pn S n = w + 1) : sp_br S w (n + 1) = sp_br S w n + 1 := by
  unfold sp_br
  rw [fb_sm_succ, if_pos h]
theorem sp_br_0 {S : sT} {w n : Nat} (h : sp_pn S n ≠ w + 1) : sp_br S w (n + 1) = sp_br S w n := by
  unfold sp_br
  rw [fb_sm_succ, if_neg h]
  rfl
theorem sp_br_le (S : sT) (w : Nat) : ∀ n, sp_br S w n ≤ n
  | 0 => Nat.le_refl 0
  | n + 1 => by
    have := sp_br_le S w n
    by_cases h : sp_pn S n = w + 1
    · rw [sp_br_1 h]
      omega
    · rw [sp_br_0 h]
      omega
theorem sp_br_mono (S : sT) (w : Nat) {m : Nat} : ∀ {n : Nat}, m ≤ n → sp_br S w m ≤ sp_br S w n
  | 0, h => by rw [show m = 0 by omega]; exact Nat.le_refl _
  | n + 1, h => by
    rcases Nat.lt_or_ge m (n + 1) with q | q
    · have := sp_br_mono S w (m := m) (n := n) (by omega)
      by_cases h2 : sp_pn S n = w + 1
      · rw [sp_br_1 h2]
        omega
      · rw [sp_br_0 h2]
        omega
    · rw [show m = n + 1 by omega]
      exact Nat.le_refl _
/-- the b-th child of w among the first n states (w where there is none) -/
def sp_fd (S : sT) (w b : Nat) : Nat → Nat
  | 0 => w
  | n + 1 => if sp_pn S n = w + 1 ∧ sp_br S w n = b then n else sp_fd S w b n
theorem sp_fd_1 {S : sT} {w b n : Nat} (h : sp_pn S n = w + 1) (h2 : sp_br S w n = b) : sp_fd S w b (n + 1) = n := if_pos ⟨h, h2⟩
theorem sp_fd_0 {S : sT} {w b n : Nat} (h : ¬ (sp_pn S n = w + 1 ∧ sp_br S w n = b)) : sp_fd S w b (n + 1) = sp_fd S w b n := if_neg h
/-- it is the one -/
theorem sp_fd_is {S : sT} {w b i : Nat} (h : sp_pn S i = w + 1) (h2 : sp_br S w i = b) : ∀ n, i < n → sp_fd S w b n = i
  | 0, q => absurd q (Nat.not_lt_zero _)
  | n + 1, q => by
    rcases Nat.lt_or_ge i n with z | z
    · rw [sp_fd_0, sp_fd_is h h2 n z]
      intro hc
      have h3 := sp_br_mono S w (m := i + 1) (n := n) (by omega)
      rw [sp_br_1 h] at h3
      omega
    · have e : n = i := by omega
      subst e
      exact sp_fd_1 h h2
/-- there is one -/
theorem sp_fd_ex {S : sT} {w b : Nat} : ∀ {n : Nat}, b < sp_br S w n → ∃ i, i < n ∧ sp_pn S i = w + 1 ∧ sp_br S w i = b
  | 0, h => absurd h (Nat.not_lt_zero _)
  | n + 1, h => by
    by_cases q : b < sp_br S w n
    · obtain ⟨i, h1, h2⟩ := sp_fd_ex q
      exact ⟨i, by omega, h2⟩
    · by_cases z : sp_pn S n = w + 1
      · rw [sp_br_1 z] at h
        exact ⟨n, Nat.lt_succ_self n, z, by omega⟩
      · rw [sp_br_0 z] at h
        exact absurd h q
theorem sp_fd_lt {S : sT} {w b n : Nat} (hw : w < n) : ∀ m, m ≤ n → sp_fd S w b m < n
  | 0, _ => hw
  | m + 1, h => by
    have := sp_fd_lt (S := S) (b := b) hw m (by omega)
    unfold sp_fd
    split <;> omega
/-- how far two numbers, two rows of heights are -/
def sp_df (a b : Nat) : Nat := if a < b then b - a else a - b
def sp_ds (h h' : Nat → Nat) (n : Nat) : Nat := fb_sm (fun c => sp_df (h c) (h' c)) n
theorem sp_ds_s (h h' : Nat → Nat) (n : Nat) : sp_ds h h' (n + 1) = sp_ds h h' n + sp_df (h n) (h' n) := rfl
theorem sp_df_le {a b k : Nat} (h : a ≤ k) (h' : b ≤ k) : sp_df a b ≤ k := by
  unfold sp_df
  split <;> omega
theorem sp_ds_le {h h' : Nat → Nat} {k : Nat} : ∀ {n : Nat}, (∀ c, c < n → h c ≤ k) → (∀ c, c < n → h' c ≤ k) → sp_ds h h' n ≤ k * n
  | 0, _, _ => Nat.zero_le _
  | n + 1, h1, h2 => by
    have := sp_ds_le (n := n) (fun c hc => h1 c (by omega)) (fun c hc => h2 c (by omega))
    have := sp_df_le (h1 n (by omega)) (h2 n (by omega))
    rw [sp_ds_s, Nat.mul_succ]
    omega
theorem sp_ds_cong {h h' i i' : Nat → Nat} : ∀ {n : Nat}, (∀ c, c < n → h c = i c) → (∀ c, c < n → h' c = i' c) → sp_ds h h' n = sp_ds i i' n
  | 0, _, _ => rfl
  | n + 1, h1, h2 => by
    rw [sp_ds_s, sp_ds_s, sp_ds_cong (n := n) (fun c hc => h1 c (by omega)) (fun c hc => h2 c (by omega)), h1 n (by omega), h2 n (by omega)]
theorem sp_df_0 {a b : Nat} : sp_df a b = 0 ↔ a = b := by
  unfold sp_df
  split <;> omega
/-- 1 where two rows are not the same -/
def sp_fg (h h' : Nat → Nat) (n : Nat) : Nat := if sp_ds h h' n = 0 then 0 else 1
theorem sp_fg_0 {h h' : Nat → Nat} {n : Nat} (e : h n = h' n) : sp_fg h h' (n + 1) = sp_fg h h' n := by
  unfold sp_fg
  rw [sp_ds_s, sp_df_0.mpr e]
  rfl
theorem sp_fg_1 {h h' : Nat → Nat} {n : Nat} (e : h n ≠ h' n) : sp_fg h h' (n + 1) = 1 := by
  unfold sp_fg
  have : sp_df (h n) (h' n) ≠ 0 := fun z => e (sp_df_0.mp z)
  rw [sp_ds_s, if_neg (by omega)]
theorem sp_fg_2 {h h' : Nat → Nat} {n : Nat} (e : sp_fg h h' n ≠ 0) : sp_fg h h' (n + 1) = 1 := by
  unfold sp_fg at *
  split at e
  · omega
  · rw [sp_ds_s, if_neg (by omega)]
theorem sp_fg_le (h h' : Nat → Nat) (n : Nat) : sp_fg h h' n ≤ 1 := by
  unfold sp_fg
  split <;> omega
theorem sp_ds_0 {h h' : Nat → Nat} : ∀ {n : Nat}, sp_ds h h' n = 0 ↔ ∀ c, c < n → h c = h' c
  | 0 => ⟨fun _ c hc => absurd hc (Nat.not_lt_zero c), fun _ => rfl⟩
  | n + 1 => by
    have ih := sp_ds_0 (h := h) (h' := h') (n := n)
    rw [sp_ds_s]
    refine ⟨fun e c hc => ?_, fun e => ?_⟩
    · rcases Nat.lt_or_ge c n with q | q
      · exact ih.mp (by omega) c q
      · rw [show c = n by omega]
        exact sp_df_0.mp (by omega)
    · rw [ih.mpr (fun c hc => e c (by omega)), sp_df_0.mpr (e n (by omega))]
/-- how many of the first n columns are not alike in two states -/
def sp_al (S : sT) (i j c : Nat) : Nat := sp_fg (fun l => sK S i (8 * c + l)) (fun l => sK S j (8 * c + l)) 8
def sp_ul (S : sT) (i j n : Nat) : Nat := fb_sm (sp_al S i j) n
theorem sp_al_0 {S : sT} {i j c : Nat} (h : ∀ l, l < 8 → sK S i (8 * c + l) = sK S j (8 * c + l)) : sp_al S i j c = 0 := if_pos (sp_ds_0.mpr h)
theorem sp_al_1 {S : sT} {i j c : Nat} (h : ¬ ∀ l, l < 8 → sK S i (8 * c + l) = sK S j (8 * c + l)) : sp_al S i j c = 1 := if_neg (fun z => h (sp_ds_0.mp z))
theorem sp_ul_s (S : sT) (i j n : Nat) : sp_ul S i j (n + 1) = sp_ul S i j n + sp_al S i j n := rfl
theorem sp_ul_le (S : sT) (i j : Nat) : ∀ n, sp_ul S i j n ≤ n
  | 0 => Nat.le_refl 0
  | n + 1 => by
    have := sp_ul_le S i j n
    have := sp_fg_le (fun l => sK S i (8 * n + l)) (fun l => sK S j (8 * n + l)) 8
    rw [sp_ul_s]
    unfold sp_al
    omega
/-- the changes of a state -/
theorem st_mo_now {S : sT} {f : Nat → Int32} {g : Nat → Nat → Int32} (h : st_mo S f g) (w : Nat) : st_mo (st_now S w) (upd f 2 (nI w)) g := ⟨⟨h.1.1, rfl, h.1.2.2⟩, h.2⟩
theorem st_mo_5 {S : sT} {f : Nat → Int32} {g : Nat → Nat → Int32} (h : st_mo S f g) (x : Nat → Int32) : st_mo S f (va_up g 5 x) := h
theorem st_mo_14 {S : sT} {f : Nat → Int32} {g : Nat → Nat → Int32} (h : st_mo S f g) (x : Nat → Int32) : st_mo S f (va_up g 14 x) := h
/-- what the rows hold -/
theorem st_pa {S : sT} {f : Nat → Int32} {g : Nat → Nat → Int32} (h : st_mo S f g) {i : Nat} (hi : i < sN S) : g 3 i = mi_dn (sp_pn S i) := by
  by_cases z : i = 0
  · subst z
    exact h.2.1
  · rw [sp_pn_n z]
    exact h.2.2.1 i (by omega) hi
theorem st_al {S : sT} {f : Nat → Int32} {g : Nat → Nat → Int32} (h : st_mo S f g) (hO : st_ok S) {i j c : Nat} (hi : i < sN S) (hj : j < sN S) (hc : c < 16) : (g 4 (16 * i + c)).toInt = (g 4 (16 * j + c)).toInt ↔ ∀ l, l < 8 → sK S i (8 * c + l) = sK S j (8 * c + l) := by
  rw [← mo_pk_eq (h.2.2.2.1 i c hi hc) (h.2.2.2.1 j c hj hc) (fun l hl => hO.2.2.1 i _ hi (by omega)) (fun l hl => hO.2.2.1 j _ hj (by omega))]
  exact Int32.toInt_inj
theorem st_df {S : sT} {f : Nat → Int32} {g : Nat → Nat → Int32} (h : st_mo S f g) {d c : Nat} (hd : d < sD S) (hc : c < 16) : g 7 (16 * d + c) = nI (sF S d c) := (h.2.2.2.2.1 d c hd hc).1
theorem st_dh {S : sT} {f : Nat → Int32} {g : Nat → Nat → Int32} (h : st_mo S f g) {d c : Nat} (hd : d < sD S) (hc : c < 16) : g 8 (16 * d + c) = nI (sH S d c) := (h.2.2.2.2.1 d c hd hc).2
theorem st_sx {S : sT} {f : Nat → Int32} {g : Nat → Nat → Int32} (h : st_mo S f g) {d : Nat} (hd : d < sD S) : g 9 d = nI (sX S d) := h.2.2.2.2.2.1 d hd
theorem st_cd {S : sT} {f : Nat → Int32} {g : Nat → Nat → Int32} (h : st_mo S f g) {i : Nat} (hi : i < sC S) : g 12 i = nI (sCd S i) := (h.2.2.2.2.2.2.1 i hi).1
theorem st_cn {S : sT} {f : Nat → Int32} {g : Nat → Nat → Int32} (h : st_mo S f g) {i : Nat} (hi : i < sC S) : g 13 i = nI (sCn S i) := (h.2.2.2.2.2.2.1 i hi).2
theorem st_ch {S : sT} {f : Nat → Int32} {g : Nat → Nat → Int32} (h : st_mo S f g) {i c : Nat} (hi : i < sC S) (hc : c < 16) : g 11 (16 * i + c) = nI (sCh S i c) := h.2.2.2.2.2.2.2 i c hi hc
theorem st_hb {S : sT} (h : st_ok S) {d c : Nat} (hd : d < sD S) (hc : c < 16) : sH S d c ≤ 8 := by
  have h1 := h.2.2.2.1 d c hd hc
  have h2 := wn_le (sF S d) c (sX S d / 2)
  omega
theorem st_fb {S : sT} (h : st_ok S) {d c : Nat} (hd : d < sD S) (hc : c < 16) : sF S d c ≤ 8 := (h.2.2.2.1 d c hd hc).1
theorem st_cb {S : sT} (h : st_ok S) {i c : Nat} (hi : i < sC S) (hc : c < 16) : sCh S i c ≤ 8 := h.2.2.2.2.2.1 i c hi hc
theorem st_ci {S : sT} (h : st_ok S) {i : Nat} (hi : i < sC S) : sCd S i < sD S ∧ 1 ≤ sCn S i ∧ sCn S i ≤ sX S (sCd S i) := h.2.2.2.2.2.2 i hi
/-- wear, laid into a row -/
theorem wr_upd {x : Nat → Int32} {h : Nat → Nat} {t v : Nat} (hx : ∀ c, c < 16 → x c = nI (h c)) (ht : t = wr_mx h 16) (hv : v = h t - 1) : ∀ c, c < 16 → upd x t (nI v) c = nI (wr h c) := by
  intro c hc
  show (if c = t then nI v else x c) = nI (if c = wr_mx h 16 then h c - 1 else h c)
  rw [← ht]
  by_cases e : c = t
  · subst e
    rw [if_pos rfl, if_pos rfl, hv]
  · rw [if_neg e, if_neg e, hx c hc]
theorem wr_mx_1 {h : Nat → Nat} {n : Nat} (e : h (wr_mx h n) < h n) : wr_mx h (n + 1) = n := if_pos e
theorem wr_mx_0 {h : Nat → Nat} {n : Nat} (e : ¬ h (wr_mx h n) < h n) : wr_mx h (n + 1) = wr_mx h n := if_neg e
theorem wr_mx_b (h : Nat → Nat) : ∀ n, n ≤ 16 → wr_mx h n < 16
  | 0, _ => by show 0 < 16; omega
  | n + 1, hn => by have := wr_mx_lt h (n + 1) (by omega); omega
