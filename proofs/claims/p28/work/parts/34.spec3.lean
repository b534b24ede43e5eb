/-! dies and coins: what cut, strike and forge make of S -/
def mo_ly (r : Nat → Int32) (n : Nat) (h : Nat → Nat) (i : Nat) : Nat → Int32 := fun j => if 16 * n ≤ j ∧ j < 16 * n + i then nI (h (j - 16 * n)) else r j
theorem mo_ly_0 (r : Nat → Int32) (n : Nat) (h : Nat → Nat) : mo_ly r n h 0 = r := funext fun j => if_neg (by omega)
theorem mo_ly_out {r : Nat → Int32} {n : Nat} {h : Nat → Nat} {i j : Nat} (q : j < 16 * n ∨ 16 * n + i ≤ j) : mo_ly r n h i j = r j := if_neg (by omega)
theorem mo_ly_in {r : Nat → Int32} {n : Nat} {h : Nat → Nat} {c : Nat} (q : c < 16) : mo_ly r n h 16 (16 * n + c) = nI (h c) := by
  unfold mo_ly
  rw [if_pos (by omega), show 16 * n + c - 16 * n = c by omega]
theorem mo_ly_step {r : Nat → Int32} {n : Nat} {h : Nat → Nat} {i : Nat} : upd (mo_ly r n h i) (16 * n + i) (nI (h i)) = mo_ly r n h (i + 1) := by
  funext j
  show (if j = 16 * n + i then nI (h i) else mo_ly r n h i j) = _
  unfold mo_ly
  by_cases h1 : j = 16 * n + i
  · subst h1
    rw [if_pos rfl, if_pos (by omega), show 16 * n + i - 16 * n = i by omega]
  · rw [if_neg h1]
    by_cases h2 : 16 * n ≤ j ∧ j < 16 * n + i
    · rw [if_pos h2, if_pos (by omega)]
    · rw [if_neg h2, if_neg (by omega)]
def st_af (S : sT) (d : Nat) : Nat → Nat := if (sX S d + 1) % 2 = 0 then wr (sH S d) else sH S d
def st_cut (S : sT) : sT := st_up (st_up (st_up (st_up S 0 2 (fun _ => sD S + 1)) 3 (sD S) (fun c => sp_h (sK S (sW S)) c 8)) 4 (sD S) (fun _ => 0)) 5 (sD S) (fun c => sp_h (sK S (sW S)) c 8)
def st_coin (S : sT) (d n : Nat) (h : Nat → Nat) : sT := st_up (st_up (st_up (st_up S 0 3 (fun _ => sC S + 1)) 6 (sC S) (fun _ => d)) 7 (sC S) (fun _ => n)) 8 (sC S) h
def st_strike (S : sT) (d : Nat) : sT := st_up (st_up (st_coin S d (sX S d + 1) (sH S d)) 4 d (fun _ => sX S d + 1)) 5 d (st_af S d)
def st_forge (S : sT) (i d n : Nat) : sT := st_coin S d n (sCh S i)
theorem st_mo_cut {S : sT} {f f1 : Nat → Int32} {g g1 : Nat → Nat → Int32} (h : st_mo S f g) (e1 : f1 1 = f 1) (e2 : f1 2 = f 2) (e6 : f1 6 = nI (sD S + 1)) (e10 : f1 10 = f 10) (a3 : g1 3 = g 3) (a4 : g1 4 = g 4) (a7 : g1 7 = mo_ly (g 7) (sD S) (fun c => sp_h (sK S (sW S)) c 8) 16) (a8 : g1 8 = mo_ly (g 8) (sD S) (fun c => sp_h (sK S (sW S)) c 8) 16) (a9 : g1 9 = upd (g 9) (sD S) (nI 0)) (a11 : g1 11 = g 11) (a12 : g1 12 = g 12) (a13 : g1 13 = g 13) : st_mo (st_cut S) f1 g1 := by
  obtain ⟨⟨h1, h2, h3, h4⟩, hp0, hp, hk, hd, hx, hc, hch⟩ := h
  refine ⟨⟨e1.trans h1, e2.trans h2, e6, e10.trans h4⟩, by rw [a3]; exact hp0, by rw [a3]; exact hp, by rw [a4]; exact hk, fun d c q1 q2 => ?_, fun d q1 => ?_, by rw [a12, a13]; exact hc, by rw [a11]; exact hch⟩
  · have q1 : d < sD S + 1 := q1
    rw [a7, a8]
    by_cases z : d = sD S
    · subst z
      rw [mo_ly_in q2, mo_ly_in q2, show sF (st_cut S) (sD S) = (fun c => sp_h (sK S (sW S)) c 8) from by show st_up _ 5 _ _ 3 _ = _; rw [st_n (by omega), st_n (by omega), st_s], show sH (st_cut S) (sD S) = (fun c => sp_h (sK S (sW S)) c 8) from st_s]
      exact ⟨rfl, rfl⟩
    · rw [mo_ly_out (by omega), mo_ly_out (by omega), show sF (st_cut S) d = sF S d from by show st_up _ 5 _ _ 3 _ = _; rw [st_n (by omega), st_n (by omega), st_n (by omega), st_n (by omega)], show sH (st_cut S) d = sH S d from by show st_up _ 5 _ _ 5 _ = _; rw [st_n (by omega), st_n (by omega), st_n (by omega), st_n (by omega)]]
      exact hd d c (by omega) q2
  · have q1 : d < sD S + 1 := q1
    rw [a9]
    show upd (g 9) (sD S) (nI 0) d = nI (st_up _ 5 _ _ 4 d 0)
    by_cases z : d = sD S
    · subst z
      rw [st_n (by omega), st_s]
      exact if_pos rfl
    · rw [st_n (by omega), st_n (by omega), st_n (by omega), st_n (by omega)]
      exact (if_neg z).trans (hx d (by omega))
theorem st_mo_coin {S : sT} {f f1 : Nat → Int32} {g g1 : Nat → Nat → Int32} {d n : Nat} {h0 : Nat → Nat} (h : st_mo S f g) (e1 : f1 1 = f 1) (e2 : f1 2 = f 2) (e6 : f1 6 = f 6) (e10 : f1 10 = nI (sC S + 1)) (a3 : g1 3 = g 3) (a4 : g1 4 = g 4) (a7 : g1 7 = g 7) (a8 : g1 8 = g 8) (a9 : g1 9 = g 9) (a11 : g1 11 = mo_ly (g 11) (sC S) h0 16) (a12 : g1 12 = upd (g 12) (sC S) (nI d)) (a13 : g1 13 = upd (g 13) (sC S) (nI n)) : st_mo (st_coin S d n h0) f1 g1 := by
  obtain ⟨⟨h1, h2, h3, h4⟩, hp0, hp, hk, hd, hx, hc, hch⟩ := h
  refine ⟨⟨e1.trans h1, e2.trans h2, e6.trans h3, e10⟩, by rw [a3]; exact hp0, by rw [a3]; exact hp, by rw [a4]; exact hk, by rw [a7, a8]; exact hd, by rw [a9]; exact hx, fun i q1 => ?_, fun i c q1 q2 => ?_⟩
  · have q1 : i < sC S + 1 := q1
    rw [a12, a13]
    show upd (g 12) (sC S) (nI d) i = nI (st_up _ 8 _ _ 6 i 0) ∧ upd (g 13) (sC S) (nI n) i = nI (st_up _ 8 _ _ 7 i 0)
    by_cases z : i = sC S
    · subst z
      rw [st_n (by omega), st_n (by omega), st_s, st_n (by omega), st_s]
      exact ⟨if_pos rfl, if_pos rfl⟩
    · rw [st_n (by omega), st_n (by omega), st_n (by omega), st_n (by omega), st_n (by omega), st_n (by omega), st_n (by omega), st_n (by omega)]
      exact ⟨(if_neg z).trans (hc i (by omega)).1, (if_neg z).trans (hc i (by omega)).2⟩
  · have q1 : i < sC S + 1 := q1
    rw [a11]
    by_cases z : i = sC S
    · subst z
      rw [mo_ly_in q2, show sCh (st_coin S d n h0) (sC S) = h0 from st_s]
    · rw [mo_ly_out (by omega), show sCh (st_coin S d n h0) i = sCh S i from by show st_up _ 8 _ _ 8 _ = _; rw [st_n (by omega), st_n (by omega), st_n (by omega), st_n (by omega)]]
      exact hch i c (by omega) q2
theorem st_mo_strike {S : sT} {f f1 : Nat → Int32} {g g1 : Nat → Nat → Int32} {d : Nat} (h : st_mo S f g) (e1 : f1 1 = f 1) (e2 : f1 2 = f 2) (e6 : f1 6 = f 6) (e10 : f1 10 = nI (sC S + 1)) (a3 : g1 3 = g 3) (a4 : g1 4 = g 4) (a7 : g1 7 = g 7) (a9 : g1 9 = upd (g 9) d (nI (sX S d + 1))) (a11 : g1 11 = mo_ly (g 11) (sC S) (sH S d) 16) (a12 : g1 12 = upd (g 12) (sC S) (nI d)) (a13 : g1 13 = upd (g 13) (sC S) (nI (sX S d + 1)))
    (a8 : ∀ e c, e < sD S → c < 16 → g1 8 (16 * e + c) = nI ((if e = d then st_af S d else sH S e) c)) : st_mo (st_strike S d) f1 g1 := by
  have h0 : st_mo (st_coin S d (sX S d + 1) (sH S d)) f1 (va_up (va_up g1 8 (g 8)) 9 (g 9)) := st_mo_coin h e1 e2 e6 e10 a3 a4 a7 rfl rfl a11 a12 a13
  obtain ⟨hn, hp0, hp, hk, hd, hx, hc, hch⟩ := h0
  refine ⟨hn, hp0, hp, hk, fun e c q1 q2 => ?_, fun e q1 => ?_, hc, hch⟩
  · refine ⟨(hd e c q1 q2).1, ?_⟩
    rw [a8 e c q1 q2]
    show _ = nI (st_up _ 5 d _ 5 e c)
    by_cases z : e = d
    · subst z
      rw [if_pos rfl, st_s]
    · rw [if_neg z, st_n (by omega), st_n (by omega)]
      rfl
  · rw [a9]
    show upd (g 9) d (nI (sX S d + 1)) e = nI (st_up _ 5 d _ 4 e 0)
    by_cases z : e = d
    · subst z
      rw [st_n (by omega), st_s]
      exact if_pos rfl
    · rw [st_n (by omega), st_n (by omega)]
      exact (if_neg z).trans (hx e q1)
/-- what is always so stays so -/
theorem st_ok_new {S : sT} {K : Nat → Nat} (h : st_ok S) (h61 : sN S < 61) (hK : ∀ j, j < 128 → K j < 4) : st_ok (st_new S K) := by
  obtain ⟨⟨o1, o2, o3, o4, o5⟩, oP, oK, oD, oX, oC, oI⟩ := h
  refine ⟨⟨by show 1 ≤ sN S + 1; omega, by show sN S + 1 ≤ 61; omega, by show sN S < sN S + 1; omega, o4, o5⟩, fun i q1 q2 => ?_, fun i j q1 q2 => ?_, oD, oX, oC, oI⟩
  · have q2 : i < sN S + 1 := q2
    show st_up _ 2 _ _ 1 i 0 < i
    by_cases z : i = sN S
    · subst z
      rw [st_n (by omega), st_s]
      exact o3
    · rw [st_n (by omega), st_n (by omega), st_n (by omega), st_n (by omega)]
      exact oP i q1 (by omega)
  · have q1 : i < sN S + 1 := q1
    show st_up _ 2 _ _ 2 i j < 4
    by_cases z : i = sN S
    · subst z
      rw [st_s]
      exact hK j q2
    · rw [st_n (by omega), st_n (by omega), st_n (by omega), st_n (by omega)]
      exact oK i j (by omega) q2
theorem st_ok_now {S : sT} {w : Nat} (h : st_ok S) (hw : w < sN S) : st_ok (st_now S w) := ⟨⟨h.1.1, h.1.2.1, hw, h.1.2.2.2⟩, h.2⟩
theorem st_ok_cut {S : sT} (h : st_ok S) (h8 : sD S < 8) : st_ok (st_cut S) := by
  obtain ⟨⟨o1, o2, o3, o4, o5⟩, oP, oK, oD, oX, oC, oI⟩ := h
  refine ⟨⟨o1, o2, o3, by show sD S + 1 ≤ 8; omega, o5⟩, oP, oK, fun d c q1 q2 => ?_, fun d q1 => ?_, oC, fun i q1 => ?_⟩
  · have q1 : d < sD S + 1 := q1
    show st_up _ 5 _ _ 3 d c ≤ 8 ∧ st_up _ 5 _ _ 5 d c = wn (st_up _ 5 _ _ 3 d) (st_up _ 5 _ _ 4 d 0 / 2) c
    by_cases z : d = sD S
    · subst z
      rw [st_n (by omega), st_n (by omega), st_s, st_s, st_n (by omega), st_s]
      exact ⟨sp_h_le _ _ 8, rfl⟩
    · rw [st_n (by omega), st_n (by omega), st_n (by omega), st_n (by omega), st_n (by omega), st_n (by omega), st_n (by omega), st_n (by omega), st_n (by omega), st_n (by omega), st_n (by omega), st_n (by omega)]
      exact oD d c (by omega) q2
  · have q1 : d < sD S + 1 := q1
    show st_up _ 5 _ _ 4 d 0 ≤ sC S
    by_cases z : d = sD S
    · subst z
      rw [st_n (by omega), st_s]
      exact Nat.zero_le _
    · rw [st_n (by omega), st_n (by omega), st_n (by omega), st_n (by omega)]
      exact oX d (by omega)
  · have h1 := oI i q1
    show sCd S i < sD S + 1 ∧ 1 ≤ sCn S i ∧ sCn S i ≤ st_up _ 5 _ _ 4 (sCd S i) 0
    rw [st_n (by omega), st_n (by omega), st_n (by omega), st_n (by omega)]
    exact ⟨by omega, h1.2⟩
theorem st_ok_coin {S : sT} {d n : Nat} {h0 : Nat → Nat} (h : st_ok S) (h60 : sC S < 60) (hd : d < sD S) (hn : 1 ≤ n ∧ n ≤ sX S d) (hh : ∀ c, c < 16 → h0 c ≤ 8) : st_ok (st_coin S d n h0) := by
  obtain ⟨⟨o1, o2, o3, o4, o5⟩, oP, oK, oD, oX, oC, oI⟩ := h
  refine ⟨⟨o1, o2, o3, o4, by show sC S + 1 ≤ 60; omega⟩, oP, oK, oD, fun d q1 => Nat.le_succ_of_le (oX d q1), fun i c q1 q2 => ?_, fun i q1 => ?_⟩
  · have q1 : i < sC S + 1 := q1
    show st_up _ 8 _ _ 8 i c ≤ 8
    by_cases z : i = sC S
    · subst z
      rw [st_s]
      exact hh c q2
    · rw [st_n (by omega), st_n (by omega), st_n (by omega), st_n (by omega)]
      exact oC i c (by omega) q2
  · have q1 : i < sC S + 1 := q1
    show st_up _ 8 _ _ 6 i 0 < sD S ∧ 1 ≤ st_up _ 8 _ _ 7 i 0 ∧ st_up _ 8 _ _ 7 i 0 ≤ sX S (st_up _ 8 _ _ 6 i 0)
    by_cases z : i = sC S
    · subst z
      rw [st_n (by omega), st_n (by omega), st_s, st_n (by omega), st_s]
      exact ⟨hd, hn⟩
    · rw [st_n (by omega), st_n (by omega), st_n (by omega), st_n (by omega), st_n (by omega), st_n (by omega), st_n (by omega), st_n (by omega)]
      exact oI i (by omega)
theorem st_coin_6 {S : sT} {d n : Nat} {h0 : Nat → Nat} (i : Nat) : sCd (st_coin S d n h0) i = if i = sC S then d else sCd S i := by
  show st_up (st_up (st_up (st_up S 0 3 (fun _ => sC S + 1)) 6 (sC S) (fun _ => d)) 7 (sC S) (fun _ => n)) 8 (sC S) h0 6 i 0 = _
  rw [st_n (by omega), st_n (by omega)]
  by_cases z : i = sC S
  · rw [if_pos z, z, st_s]
  · rw [if_neg z, st_n (by omega), st_n (by omega)]
theorem st_coin_7 {S : sT} {d n : Nat} {h0 : Nat → Nat} (i : Nat) : sCn (st_coin S d n h0) i = if i = sC S then n else sCn S i := by
  show st_up (st_up (st_up (st_up S 0 3 (fun _ => sC S + 1)) 6 (sC S) (fun _ => d)) 7 (sC S) (fun _ => n)) 8 (sC S) h0 7 i 0 = _
  rw [st_n (by omega)]
  by_cases z : i = sC S
  · rw [if_pos z, z, st_s]
  · rw [if_neg z, st_n (by omega), st_n (by omega), st_n (by omega)]
theorem st_coin_8 {S : sT} {d n : Nat} {h0 : Nat → Nat} (i : Nat) : sCh (st_coin S d n h0) i = if i = sC S then h0 else sCh S i := by
  show st_up (st_up (st_up (st_up S 0 3 (fun _ => sC S + 1)) 6 (sC S) (fun _ => d)) 7 (sC S) (fun _ => n)) 8 (sC S) h0 8 i = _
  by_cases z : i = sC S
  · rw [if_pos z, z, st_s]
  · rw [if_neg z, st_n (by omega), st_n (by omega), st_n (by omega), st_n (by omega)]
theorem st_ok_strike {S : sT} {d : Nat} (h : st_ok S) (h60 : sC S < 60) (hd : d < sD S) : st_ok (st_strike S d) := by
  obtain ⟨⟨o1, o2, o3, o4, o5⟩, oP, oK, oD, oX, oC, oI⟩ := id h
  refine ⟨⟨o1, o2, o3, o4, by show sC S + 1 ≤ 60; omega⟩, oP, oK, fun e c q1 q2 => ?_, fun e q1 => ?_, fun i c q1 q2 => ?_, fun i q1 => ?_⟩
  · have q1 : e < sD S := q1
    have h1 := oD e c q1 q2
    show sF S e c ≤ 8 ∧ st_up _ 5 d _ 5 e c = wn (sF S e) (st_up _ 5 d _ 4 e 0 / 2) c
    refine ⟨h1.1, ?_⟩
    by_cases z : e = d
    · subst z
      rw [st_s, st_n (by omega), st_s]
      unfold st_af
      split
      · rw [show (sX S e + 1) / 2 = sX S e / 2 + 1 by omega]
        exact wr_congA (fun c hc => (oD e c q1 hc).2) c q2
      · rw [show (sX S e + 1) / 2 = sX S e / 2 by omega]
        exact h1.2
    · rw [st_n (by omega), st_n (by omega), st_n (by omega), st_n (by omega)]
      exact h1.2
  · have q1 : e < sD S := q1
    have h1 := oX e q1
    show st_up _ 5 d _ 4 e 0 ≤ sC S + 1
    by_cases z : e = d
    · subst z
      rw [st_n (by omega), st_s]
      omega
    · rw [st_n (by omega), st_n (by omega)]
      exact Nat.le_succ_of_le h1
  · have q1 : i < sC S + 1 := q1
    show st_up (st_up (st_coin S d (sX S d + 1) (sH S d)) 4 _ _) 5 _ _ 8 i c ≤ 8
    rw [st_n (by omega), st_n (by omega)]
    show st_up _ 8 _ _ 8 i c ≤ 8
    by_cases z : i = sC S
    · subst z
      rw [st_s]
      exact st_hb h hd q2
    · rw [st_n (by omega), st_n (by omega), st_n (by omega), st_n (by omega)]
      exact oC i c (by omega) q2
  · have q1 : i < sC S + 1 := q1
    show sCd (st_coin S d (sX S d + 1) (sH S d)) i < sD S ∧ 1 ≤ sCn (st_coin S d (sX S d + 1) (sH S d)) i ∧ sCn (st_coin S d (sX S d + 1) (sH S d)) i ≤ st_up (st_up (st_coin S d (sX S d + 1) (sH S d)) 4 d (fun _ => sX S d + 1)) 5 d (st_af S d) 4 (sCd (st_coin S d (sX S d + 1) (sH S d)) i) 0
    rw [st_coin_6, st_coin_7]
    by_cases z : i = sC S
    · rw [if_pos z, if_pos z, st_n (by omega), st_s]
      exact ⟨hd, by omega, Nat.le_refl _⟩
    · have h1 := oI i (by omega)
      rw [if_neg z, if_neg z]
      refine ⟨h1.1, h1.2.1, ?_⟩
      by_cases y : sCd S i = d
      · rw [y, st_n (by omega), st_s]
        rw [y] at h1
        exact Nat.le_succ_of_le h1.2.2
      · rw [st_n (by omega), st_n (by omega)]
        exact h1.2.2
theorem st_dhi {S : sT} {f : Nat → Int32} {g : Nat → Nat → Int32} (h : st_mo S f g) {d i : Nat} (hd : d < sD S) (h1 : 16 * d ≤ i) (h2 : i < 16 * d + 16) : g 8 i = nI (sH S d (i - 16 * d)) := by
  have := st_dh h hd (show i - 16 * d < 16 by omega)
  rw [show 16 * d + (i - 16 * d) = i by omega] at this
  exact this
/-- one row of heights worn, the others as they were -/
theorem st_wear {S : sT} {f : Nat → Int32} {g : Nat → Nat → Int32} (h : st_mo S f g) {d t v : Nat} (hd : d < sD S) (ht : t = 16 * d + wr_mx (sH S d) 16) (hv : v = sH S d (t - 16 * d) - 1) (h2 : (sX S d + 1) % 2 = 0) : ∀ e c, e < sD S → c < 16 → upd (g 8) t (nI v) (16 * e + c) = nI ((if e = d then st_af S d else sH S e) c) := by
  intro e c he hc
  have hm := wr_mx_b (sH S d) 16 (Nat.le_refl 16)
  show (if 16 * e + c = t then nI v else g 8 (16 * e + c)) = _
  rw [st_dh h he hc]
  unfold st_af
  rw [if_pos h2]
  by_cases z : e = d
  · subst z
    rw [if_pos rfl]
    unfold wr
    by_cases y : c = wr_mx (sH S e) 16
    · rw [if_pos (by omega), if_pos y, hv, show t - 16 * e = c by omega]
    · rw [if_neg (by omega), if_neg y]
  · rw [if_neg z, if_neg (by omega)]
theorem st_nowear {S : sT} {f : Nat → Int32} {g : Nat → Nat → Int32} (h : st_mo S f g) {d : Nat} (h2 : ¬ (sX S d + 1) % 2 = 0) : ∀ e c, e < sD S → c < 16 → g 8 (16 * e + c) = nI ((if e = d then st_af S d else sH S e) c) := by
  intro e c he hc
  rw [st_dh h he hc]
  unfold st_af
  rw [if_neg h2]
  by_cases z : e = d
  · rw [if_pos z, z]
  · rw [if_neg z]
