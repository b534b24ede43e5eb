/-! the class's objects hold S. Roles: 0 the Voxelmint, 1/11 its history and that list's row, 2/12 its dies, 3/13 its coins, 4 the finder, 5 marks, 6 queue, 100+2i a state, 101+2i its kinds, 300+d a die, 310+d its first heights, 320+d its heights, 330+d/340+d its struck coins, 400+i a coin, 500+j a row of heights -/
def rx_par (S : sT) (ad : Nat → Nat) (i : Nat) : Value := if i = 0 then .null else .ref (ad (100 + 2 * sP S i))
def rx_ob (S : sT) (ad : Nat → Nat) (cf : Nat → Option va_E) : Prop := cf 0 = some (.inr (5, [.ref (ad 1), .ref (ad 2), .ref (ad 3), .ref (ad 4), .ref (ad (100 + 2 * sW S))]))
def rx_st (D : va_G) (S : sT) (ad : Nat → Nat) (cf : Nat → Option va_E) (i : Nat) : Prop := cf (100 + 2 * i) = some (.inr (4, [.int (nI i), rx_par S ad i, .ref (ad (101 + 2 * i))])) ∧ cf (101 + 2 * i) = some (mi_ai D 128 (fun j => nI (sK S i j)))
def rx_pf (D : va_G) (ad : Nat → Nat) (cf : Nat → Option va_E) (m q : Nat → Nat) (n : Nat) : Prop := cf 4 = some (.inr (3, [.ref (ad 5), .ref (ad 6), .int (nI n)])) ∧ cf 5 = some (mi_ai D 128 (fun j => nI (m j))) ∧ cf 6 = some (mi_ai D 128 (fun j => nI (q j)))
def rx_die (D : va_G) (S : sT) (ad : Nat → Nat) (cf : Nat → Option va_E) (co : Nat → Nat → Nat) (d : Nat) : Prop := cf (300 + d) = some (.inr (2, [.ref (ad (310 + d)), .ref (ad (320 + d)), .ref (ad (330 + d))])) ∧ cf (310 + d) = some (mi_ai D 16 (fun c => nI (sF S d c))) ∧ cf (320 + d) = some (mi_ai D 16 (fun c => nI (sH S d c))) ∧ mi_L D ad cf (330 + d) (340 + d) (sX S d) (fun k => 400 + co d k)
def rx_co (S : sT) (co : Nat → Nat → Nat) (d : Nat) : Prop := ∀ k, k < sX S d → co d k < sC S ∧ ∀ c, c < 16 → sCh S (co d k) c = wn (sF S d) (k / 2) c
def rx_coin (D : va_G) (S : sT) (ad : Nat → Nat) (cf : Nat → Option va_E) (hr gr : Nat → Nat) (i : Nat) : Prop := cf (400 + i) = some (.inr (1, [.ref (ad (300 + sCd S i)), .ref (ad (500 + hr i)), .ref (ad (500 + gr i))])) ∧ hr i < sC S ∧ gr i < sC S ∧ cf (500 + hr i) = some (mi_ai D 16 (fun c => nI (sCh S i c))) ∧ ∃ G : Nat → Nat, cf (500 + gr i) = some (mi_ai D 16 (fun c => nI (G c))) ∧ ∀ c, c < 16 → G c = wn (sF S (sCd S i)) ((sCn S i - 1) / 2) c
def RepX (D : va_G) (S : sT) (ad : Nat → Nat) (cf : Nat → Option va_E) : Prop :=
  rx_ob S ad cf ∧ mi_L D ad cf 1 11 (sN S) (fun i => 100 + 2 * i) ∧ mi_L D ad cf 2 12 (sD S) (fun d => 300 + d) ∧ mi_L D ad cf 3 13 (sC S) (fun i => 400 + i) ∧ (∃ m q n, rx_pf D ad cf m q n) ∧ (∀ i, i < sN S → rx_st D S ad cf i) ∧
  (∃ (co : Nat → Nat → Nat) (hr gr : Nat → Nat), (∀ d, d < sD S → rx_die D S ad cf co d ∧ rx_co S co d) ∧ ∀ i, i < sC S → rx_coin D S ad cf hr gr i) ∧ cf 999 = none
/-- what lies at the class's roles is the same -/
def rx_eq (ad : Nat → Nat) (cf : Nat → Option va_E) (ad1 : Nat → Nat) (cf1 : Nat → Option va_E) : Prop := ∀ k, k < 1000 → cf1 k = cf k ∧ ad1 k = ad k
/-- beyond them it is -/
def rx_fr (ad : Nat → Nat) (cf : Nat → Option va_E) (ad1 : Nat → Nat) (cf1 : Nat → Option va_E) : Prop := ∀ k, 1000 ≤ k → cf1 k = cf k ∧ ad1 k = ad k
theorem rx_fr.rf {ad : Nat → Nat} {cf : Nat → Option va_E} : rx_fr ad cf ad cf := fun _ _ => ⟨rfl, rfl⟩
theorem rx_fr.tr {ad ad1 ad2 : Nat → Nat} {cf cf1 cf2 : Nat → Option va_E} (h : rx_fr ad cf ad1 cf1) (h' : rx_fr ad1 cf1 ad2 cf2) : rx_fr ad cf ad2 cf2 := fun k hk => ⟨(h' k hk).1.trans (h k hk).1, (h' k hk).2.trans (h k hk).2⟩
theorem RepX.same {D : va_G} {S : sT} {ad ad1 : Nat → Nat} {cf cf1 : Nat → Option va_E} (hO : st_ok S) (h : RepX D S ad cf) (e : rx_eq ad cf ad1 cf1) : RepX D S ad1 cf1 := by
  obtain ⟨x0, x1, x2, x3, ⟨m, q, n, p4, p5, p6⟩, xs, ⟨co, hr, gr, xd, xc⟩, x9⟩ := h
  obtain ⟨⟨o1, o2, o3, o4, o5⟩, oP, oK, oD, oX, oC, oI⟩ := hO
  have c1 : ∀ k, k < 1000 → cf1 k = cf k := fun k hk => (e k hk).1
  have a1 : ∀ k, k < 1000 → ad1 k = ad k := fun k hk => (e k hk).2
  refine ⟨?_, x1.keep (c1 _ (by omega)) (e _ (by omega)) (fun i hi => a1 _ (by omega)), x2.keep (c1 _ (by omega)) (e _ (by omega)) (fun i hi => a1 _ (by omega)), x3.keep (c1 _ (by omega)) (e _ (by omega)) (fun i hi => a1 _ (by omega)), ⟨m, q, n, ?_, ?_, ?_⟩, fun i hi => ?_, ⟨co, hr, gr, fun d hd => ?_, fun i hi => ?_⟩, ?_⟩
  · unfold rx_ob
    rw [c1 0 (by omega), a1 1 (by omega), a1 2 (by omega), a1 3 (by omega), a1 4 (by omega), a1 (100 + 2 * sW S) (by omega)]
    exact x0
  · rw [c1 4 (by omega), a1 5 (by omega), a1 6 (by omega)]
    exact p4
  · rw [c1 5 (by omega)]
    exact p5
  · rw [c1 6 (by omega)]
    exact p6
  · obtain ⟨h1, h2⟩ := xs i hi
    have hp : rx_par S ad1 i = rx_par S ad i := by
      unfold rx_par
      by_cases z : i = 0
      · rw [if_pos z, if_pos z]
      · rw [if_neg z, if_neg z, a1 _ (by have := oP i (by omega) hi; omega)]
    unfold rx_st
    rw [c1 (100 + 2 * i) (by omega), c1 (101 + 2 * i) (by omega), hp, a1 (101 + 2 * i) (by omega)]
    exact ⟨h1, h2⟩
  · obtain ⟨⟨h1, h2, h3, h4⟩, h5⟩ := xd d hd
    refine ⟨⟨?_, ?_, ?_, ?_⟩, h5⟩
    · rw [c1 (300 + d) (by omega), a1 (310 + d) (by omega), a1 (320 + d) (by omega), a1 (330 + d) (by omega)]
      exact h1
    · rw [c1 (310 + d) (by omega)]
      exact h2
    · rw [c1 (320 + d) (by omega)]
      exact h3
    · exact h4.keep (c1 _ (by omega)) (e _ (by omega)) (fun k hk => a1 _ (by have := (h5 k hk).1; omega))
  · obtain ⟨h1, h2, h3, h4, G, h5, h6⟩ := xc i hi
    have hd := (oI i hi).1
    refine ⟨?_, h2, h3, ?_, G, ?_, h6⟩
    · rw [c1 (400 + i) (by omega), a1 (300 + sCd S i) (by omega), a1 (500 + hr i) (by omega), a1 (500 + gr i) (by omega)]
      exact h1
    · rw [c1 (500 + hr i) (by omega)]
      exact h4
    · rw [c1 (500 + gr i) (by omega)]
      exact h5
  · rw [c1 999 (by omega)]
    exact x9
/-- only the finder's rows changed -/
theorem RepX.pf {D : va_G} {S : sT} {ad : Nat → Nat} {cf cf1 : Nat → Option va_E} {m q : Nat → Nat} {n : Nat} (hO : st_ok S) (h : RepX D S ad cf) (e : ∀ k, k ≠ 4 → k ≠ 5 → k ≠ 6 → cf1 k = cf k) (hp : rx_pf D ad cf1 m q n) : RepX D S ad cf1 := by
  have h0 : RepX D S ad (va_up (va_up (va_up cf1 4 (cf 4)) 5 (cf 5)) 6 (cf 6)) := by
    refine h.same hO (fun k _ => ⟨?_, rfl⟩)
    by_cases k6 : k = 6
    · subst k6
      exact mi_up_s
    · rw [mi_up_n k6]
      by_cases k5 : k = 5
      · subst k5
        exact mi_up_s
      · rw [mi_up_n k5]
        by_cases k4 : k = 4
        · subst k4
          exact mi_up_s
        · rw [mi_up_n k4]
          exact e k k4 k5 k6
  obtain ⟨x0, x1, x2, x3, -, xs, ⟨co, hr, gr, xd, xc⟩, x9⟩ := h0
  have c1 : ∀ k, k < 4 ∨ 6 < k → cf1 k = va_up (va_up (va_up cf1 4 (cf 4)) 5 (cf 5)) 6 (cf 6) k := fun k hk => by rw [mi_up_n (by omega), mi_up_n (by omega), mi_up_n (by omega)]
  refine ⟨(c1 0 (by omega)).trans x0, x1.keep (c1 _ (by omega)) ⟨c1 _ (by omega), rfl⟩ (fun _ _ => rfl), x2.keep (c1 _ (by omega)) ⟨c1 _ (by omega), rfl⟩ (fun _ _ => rfl), x3.keep (c1 _ (by omega)) ⟨c1 _ (by omega), rfl⟩ (fun _ _ => rfl), ⟨m, q, n, hp⟩, fun i hi => ⟨(c1 _ (by omega)).trans (xs i hi).1, (c1 _ (by omega)).trans (xs i hi).2⟩, ⟨co, hr, gr, fun d hd => ?_, fun i hi => ?_⟩, (c1 _ (by omega)).trans x9⟩
  · obtain ⟨⟨h1, h2, h3, h4⟩, h5⟩ := xd d hd
    exact ⟨⟨(c1 _ (by omega)).trans h1, (c1 _ (by omega)).trans h2, (c1 _ (by omega)).trans h3, h4.keep (c1 _ (by omega)) ⟨c1 _ (by omega), rfl⟩ (fun _ _ => rfl)⟩, h5⟩
  · obtain ⟨h1, h2, h3, h4, G, h5, h6⟩ := xc i hi
    exact ⟨(c1 _ (by omega)).trans h1, h2, h3, (c1 _ (by omega)).trans h4, G, (c1 _ (by omega)).trans h5, h6⟩
