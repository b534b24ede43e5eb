/-! the class's objects hold a new die, a new coin -/
def RepC (D : va_G) (S : sT) (ad : Nat → Nat) (cf : Nat → Option va_E) (co : Nat → Nat → Nat) (hr gr : Nat → Nat) : Prop :=
  rx_ob S ad cf ∧ mi_L D ad cf 1 11 (sN S) (fun i => 100 + 2 * i) ∧ mi_L D ad cf 2 12 (sD S) (fun d => 300 + d) ∧ mi_L D ad cf 3 13 (sC S) (fun i => 400 + i) ∧ (∃ m q n, rx_pf D ad cf m q n) ∧ (∀ i, i < sN S → rx_st D S ad cf i) ∧
  (∀ d, d < sD S → rx_die D S ad cf co d ∧ rx_co S co d) ∧ (∀ i, i < sC S → rx_coin D S ad cf hr gr i) ∧ cf 999 = none
theorem RepX.C {D : va_G} {S : sT} {ad : Nat → Nat} {cf : Nat → Option va_E} (h : RepX D S ad cf) : ∃ co hr gr, RepC D S ad cf co hr gr := by
  obtain ⟨x0, x1, x2, x3, xp, xs, ⟨co, hr, gr, xd, xc⟩, x9⟩ := h
  exact ⟨co, hr, gr, x0, x1, x2, x3, xp, xs, xd, xc, x9⟩
theorem RepC.X {D : va_G} {S : sT} {ad : Nat → Nat} {cf : Nat → Option va_E} {co : Nat → Nat → Nat} {hr gr : Nat → Nat} (h : RepC D S ad cf co hr gr) : RepX D S ad cf := by
  obtain ⟨x0, x1, x2, x3, xp, xs, xd, xc, x9⟩ := h
  exact ⟨x0, x1, x2, x3, xp, xs, ⟨co, hr, gr, xd, xc⟩, x9⟩
/-- the states as they were -/
theorem rx_keepS {D : va_G} {S T : sT} {ad ad1 : Nat → Nat} {cf cf1 : Nat → Option va_E} (hO : st_ok S) (e : ∀ k, (k < 2 ∨ k = 11 ∨ (4 ≤ k ∧ k ≤ 6) ∨ (100 ≤ k ∧ k < 300)) → cf1 k = cf k ∧ ad1 k = ad k) (e2 : ad1 2 = ad 2 ∧ ad1 3 = ad 3) (tN : sN T = sN S) (tW : sW T = sW S) (t1 : T 1 = S 1) (t2 : T 2 = S 2)
    (h : rx_ob S ad cf ∧ mi_L D ad cf 1 11 (sN S) (fun i => 100 + 2 * i) ∧ (∃ m q n, rx_pf D ad cf m q n) ∧ (∀ i, i < sN S → rx_st D S ad cf i)) : rx_ob T ad1 cf1 ∧ mi_L D ad1 cf1 1 11 (sN T) (fun i => 100 + 2 * i) ∧ (∃ m q n, rx_pf D ad1 cf1 m q n) ∧ (∀ i, i < sN T → rx_st D T ad1 cf1 i) := by
  obtain ⟨x0, x1, ⟨m, q, n, p4, p5, p6⟩, xs⟩ := h
  obtain ⟨⟨o1, o2, o3, o4, o5⟩, oP, -⟩ := id hO
  rw [tN]
  refine ⟨?_, x1.keep (e 1 (by omega)).1 (e 11 (by omega)) (fun i hi => (e _ (by omega)).2), ⟨m, q, n, ?_, ?_, ?_⟩, fun i hi => ?_⟩
  · unfold rx_ob
    rw [tW, (e 0 (by omega)).1, (e 1 (by omega)).2, e2.1, e2.2, (e 4 (by omega)).2, (e (100 + 2 * sW S) (by omega)).2]
    exact x0
  · rw [(e 4 (by omega)).1, (e 5 (by omega)).2, (e 6 (by omega)).2]
    exact p4
  · rw [(e 5 (by omega)).1]
    exact p5
  · rw [(e 6 (by omega)).1]
    exact p6
  · obtain ⟨h1, h2⟩ := xs i hi
    have hp : rx_par T ad1 i = rx_par S ad i := rx_par_eq (fun h => ⟨congrFun (congrFun t1 i) 0, (e _ (by have := oP i (by omega) hi; omega)).2⟩)
    unfold rx_st
    rw [hp, (e (100 + 2 * i) (by omega)).1, (e (101 + 2 * i) (by omega)).1, (e (101 + 2 * i) (by omega)).2, show sK T i = sK S i from congrFun t2 i]
    exact ⟨h1, h2⟩
theorem RepC.cut {D : va_G} {S : sT} {ad ad1 : Nat → Nat} {cf cf1 : Nat → Option va_E} {co : Nat → Nat → Nat} {hr gr : Nat → Nat} (hO : st_ok S) (h8 : sD S < 8) (h : RepC D S ad cf co hr gr) (kL : mi_L D ad1 cf1 2 12 (sD S + 1) (fun d => 300 + d)) (a2 : ad1 2 = ad 2)
    (k1 : cf1 (300 + sD S) = some (.inr (2, [.ref (ad1 (310 + sD S)), .ref (ad1 (320 + sD S)), .ref (ad1 (330 + sD S))]))) (k2 : cf1 (310 + sD S) = some (mi_ai D 16 (fun c => nI (sp_h (sK S (sW S)) c 8)))) (k3 : cf1 (320 + sD S) = some (mi_ai D 16 (fun c => nI (sp_h (sK S (sW S)) c 8)))) (k4 : mi_L D ad1 cf1 (330 + sD S) (340 + sD S) 0 (fun k => 400 + co (sD S) k))
    (fr : ∀ k, k < 1000 → k ≠ 2 → k ≠ 12 → k ≠ 300 + sD S → k ≠ 310 + sD S → k ≠ 320 + sD S → k ≠ 330 + sD S → cf1 k = cf k ∧ ad1 k = ad k) : RepC D (st_cut S) ad1 cf1 co hr gr := by
  obtain ⟨x0, x1, x2, x3, xp, xs, xd, xc, x9⟩ := h
  obtain ⟨⟨o1, o2, o3, o4, o5⟩, oP, oK, oD, oX, oC, oI⟩ := id hO
  have fr' : ∀ k, k < 1000 → (k < 2 ∨ (2 < k ∧ k < 12) ∨ (12 < k ∧ k < 300) ∨ 350 ≤ k ∨ (300 ≤ k ∧ k % 10 < sD S)) → cf1 k = cf k ∧ ad1 k = ad k := fun k h1 h2 => fr k h1 (by omega) (by omega) (by omega) (by omega) (by omega) (by omega)
  obtain ⟨y0, y1, yp, ys⟩ := rx_keepS (T := st_cut S) hO (fun k hk => fr' k (by omega) (by omega)) ⟨a2, (fr' 3 (by omega) (by omega)).2⟩ rfl rfl (funext fun i => by show st_up _ 5 _ _ 1 i = _; rw [st_n (by omega), st_n (by omega), st_n (by omega), st_n (by omega)]) (funext fun i => by show st_up _ 5 _ _ 2 i = _; rw [st_n (by omega), st_n (by omega), st_n (by omega), st_n (by omega)]) ⟨x0, x1, xp, xs⟩
  refine ⟨y0, y1, kL, x3.keep (fr' 3 (by omega) (by omega)).1 (fr' 13 (by omega) (by omega)) (fun i hi => (fr' _ (by omega) (by omega)).2), yp, ys, fun d hd => ?_, fun i hi => ?_, (fr' 999 (by omega) (by omega)).1.trans x9⟩
  · have hd : d < sD S + 1 := hd
    by_cases z : d = sD S
    · subst z
      have e3 : sF (st_cut S) (sD S) = fun c => sp_h (sK S (sW S)) c 8 := by show st_up _ 5 _ _ 3 _ = _; rw [st_n (by omega), st_n (by omega), st_s]
      have e4 : sX (st_cut S) (sD S) = 0 := by show st_up _ 5 _ _ 4 _ 0 = _; rw [st_n (by omega), st_s]
      have e5 : sH (st_cut S) (sD S) = fun c => sp_h (sK S (sW S)) c 8 := st_s
      refine ⟨⟨k1, by rw [e3]; exact k2, by rw [e5]; exact k3, by rw [e4]; exact k4⟩, fun k hk => ?_⟩
      rw [e4] at hk
      exact absurd hk (Nat.not_lt_zero k)
    · obtain ⟨⟨h1, h2, h3, h4⟩, h5⟩ := xd d (by omega)
      have e3 : sF (st_cut S) d = sF S d := by show st_up _ 5 _ _ 3 _ = _; rw [st_n (by omega), st_n (by omega), st_n (by omega), st_n (by omega)]
      have e4 : sX (st_cut S) d = sX S d := by show st_up _ 5 _ _ 4 _ 0 = _; rw [st_n (by omega), st_n (by omega), st_n (by omega), st_n (by omega)]
      have e5 : sH (st_cut S) d = sH S d := by show st_up _ 5 _ _ 5 _ = _; rw [st_n (by omega), st_n (by omega), st_n (by omega), st_n (by omega)]
      refine ⟨⟨?_, ?_, ?_, ?_⟩, ?_⟩
      · rw [(fr' (300 + d) (by omega) (by omega)).1, (fr' (310 + d) (by omega) (by omega)).2, (fr' (320 + d) (by omega) (by omega)).2, (fr' (330 + d) (by omega) (by omega)).2]
        exact h1
      · rw [e3, (fr' (310 + d) (by omega) (by omega)).1]
        exact h2
      · rw [e5, (fr' (320 + d) (by omega) (by omega)).1]
        exact h3
      · rw [e4]
        exact h4.keep (fr' _ (by omega) (by omega)).1 (fr' _ (by omega) (by omega)) (fun k hk => (fr' _ (by have := (h5 k hk).1; omega) (by omega)).2)
      · intro k hk
        rw [e4] at hk
        rw [e3]
        exact h5 k hk
  · obtain ⟨h1, h2, h3, h4, G, h5, h6⟩ := xc i hi
    have hi : i < sC S := hi
    have hd := (oI i hi).1
    have e3 : sF (st_cut S) (sCd S i) = sF S (sCd S i) := by show st_up _ 5 _ _ 3 _ = _; rw [st_n (by omega), st_n (by omega), st_n (by omega), st_n (by omega)]
    refine ⟨?_, h2, h3, ?_, G, ?_, ?_⟩
    · show cf1 (400 + i) = some (.inr (1, [.ref (ad1 (300 + sCd S i)), .ref (ad1 (500 + hr i)), .ref (ad1 (500 + gr i))]))
      rw [(fr' (400 + i) (by omega) (by omega)).1, (fr' (300 + sCd S i) (by omega) (by omega)).2, (fr' (500 + hr i) (by omega) (by omega)).2, (fr' (500 + gr i) (by omega) (by omega)).2]
      exact h1
    · exact (fr' (500 + hr i) (by omega) (by omega)).1.trans h4
    · exact (fr' (500 + gr i) (by omega) (by omega)).1.trans h5
    · show ∀ c, c < 16 → G c = wn (sF (st_cut S) (sCd S i)) ((sCn S i - 1) / 2) c
      rw [e3]
      exact h6
/-- coins below the new one -/
theorem rx_coin_keep {D : va_G} {S T : sT} {ad ad1 : Nat → Nat} {cf cf1 : Nat → Option va_E} {hr gr hr1 gr1 : Nat → Nat} {i : Nat} (hO : st_ok S) (hi : i < sC S) (h : rx_coin D S ad cf hr gr i) (t3 : T 3 = S 3) (t6 : sCd T i = sCd S i) (t7 : sCn T i = sCn S i) (t8 : sCh T i = sCh S i) (tC : sC S ≤ sC T) (e1 : hr1 i = hr i) (e2 : gr1 i = gr i)
    (fr : ∀ k, (k = 400 + i ∨ k = 300 + sCd S i ∨ (500 ≤ k ∧ k < 500 + sC S)) → cf1 k = cf k ∧ ad1 k = ad k) (frA : ad1 (300 + sCd S i) = ad (300 + sCd S i)) : rx_coin D T ad1 cf1 hr1 gr1 i := by
  obtain ⟨h1, h2, h3, h4, G, h5, h6⟩ := h
  have hd := (hO.2.2.2.2.2.2 i hi).1
  refine ⟨?_, by rw [e1]; omega, by rw [e2]; omega, ?_, G, ?_, ?_⟩
  · rw [t6, e1, e2, (fr (400 + i) (by omega)).1, frA, (fr (500 + hr i) (by omega)).2, (fr (500 + gr i) (by omega)).2]
    exact h1
  · rw [t8, e1, (fr (500 + hr i) (by omega)).1]
    exact h4
  · rw [e2, (fr (500 + gr i) (by omega)).1]
    exact h5
  · rw [t6, t7, show sF T (sCd S i) = sF S (sCd S i) from congrFun t3 _]
    exact h6
theorem RepC.forge {D : va_G} {S : sT} {ad ad1 : Nat → Nat} {cf cf1 : Nat → Option va_E} {co : Nat → Nat → Nat} {hr gr : Nat → Nat} {i d n : Nat} (hO : st_ok S) (h60 : sC S < 60) (hi : i < sC S) (hd : d < sD S) (hn1 : 1 ≤ n) (hn : n ≤ sX S d) (h : RepC D S ad cf co hr gr) (kL : mi_L D ad1 cf1 3 13 (sC S + 1) (fun i => 400 + i)) (a3 : ad1 3 = ad 3)
    (kC : cf1 (400 + sC S) = some (.inr (1, [.ref (ad1 (300 + d)), .ref (ad1 (500 + hr i)), .ref (ad1 (500 + hr (co d (n - 1))))]))) (fr : ∀ k, k < 1000 → k ≠ 3 → k ≠ 13 → k ≠ 400 + sC S → cf1 k = cf k ∧ ad1 k = ad k) : RepC D (st_forge S i d n) ad1 cf1 co (mi_un hr (sC S) (hr i)) (mi_un gr (sC S) (hr (co d (n - 1)))) := by
  obtain ⟨x0, x1, x2, x3, xp, xs, xd, xc, x9⟩ := h
  obtain ⟨⟨o1, o2, o3, o4, o5⟩, oP, oK, oD, oX, oC, oI⟩ := id hO
  have fr' : ∀ k, k < 1000 → (k < 3 ∨ (3 < k ∧ k < 13) ∨ (13 < k ∧ k < 400 + sC S) ∨ 400 + sC S < k) → cf1 k = cf k ∧ ad1 k = ad k := fun k h1 h2 => fr k h1 (by omega) (by omega) (by omega)
  have t1 : ∀ j, j < 6 → 1 ≤ j → (st_forge S i d n) j = S j := fun j h1 h2 => funext fun k => by
    show st_up _ 8 _ _ j k = _
    rw [st_n (by omega), st_n (by omega), st_n (by omega), st_n (by omega)]
  obtain ⟨y0, y1, yp, ys⟩ := rx_keepS (T := st_forge S i d n) hO (fun k hk => fr' k (by omega) (by omega)) ⟨(fr' 2 (by omega) (by omega)).2, a3⟩ rfl rfl (t1 1 (by omega) (by omega)) (t1 2 (by omega) (by omega)) ⟨x0, x1, xp, xs⟩
  have t8 : ∀ j, j < sC S → sCh (st_forge S i d n) j = sCh S j := fun j hj => by
    show sCh (st_coin S d n (sCh S i)) j = _
    rw [st_coin_8, if_neg (by omega)]
  refine ⟨y0, y1, x2.keep (fr' 2 (by omega) (by omega)).1 (fr' 12 (by omega) (by omega)) (fun i hi => (fr' _ (by omega) (by omega)).2), kL, yp, ys, fun e he => ?_, fun j hj => ?_, (fr' 999 (by omega) (by omega)).1.trans x9⟩
  · have he : e < sD S := he
    obtain ⟨⟨h1, h2, h3, h4⟩, h5⟩ := xd e he
    have e3 := congrFun (t1 3 (by omega) (by omega)) e
    have e4 := congrFun (t1 4 (by omega) (by omega)) e
    have e5 := congrFun (t1 5 (by omega) (by omega)) e
    refine ⟨⟨?_, ?_, ?_, ?_⟩, ?_⟩
    · rw [(fr' (300 + e) (by omega) (by omega)).1, (fr' (310 + e) (by omega) (by omega)).2, (fr' (320 + e) (by omega) (by omega)).2, (fr' (330 + e) (by omega) (by omega)).2]
      exact h1
    · rw [(fr' (310 + e) (by omega) (by omega)).1, show sF (st_forge S i d n) e = sF S e from e3]
      exact h2
    · rw [(fr' (320 + e) (by omega) (by omega)).1, show sH (st_forge S i d n) e = sH S e from e5]
      exact h3
    · rw [show sX (st_forge S i d n) e = sX S e from congrFun e4 0]
      exact h4.keep (fr' _ (by omega) (by omega)).1 (fr' _ (by omega) (by omega)) (fun k hk => (fr' _ (by have := (h5 k hk).1; omega) (by have := (h5 k hk).1; omega)).2)
    · intro k hk
      have hk : k < sX S e := by rw [← show sX (st_forge S i d n) e = sX S e from congrFun e4 0]; exact hk
      have h6 := h5 k hk
      rw [t8 _ h6.1, show sF (st_forge S i d n) e = sF S e from e3]
      exact ⟨Nat.lt_succ_of_lt h6.1, h6.2⟩
  · have hj : j < sC S + 1 := hj
    by_cases z : j = sC S
    · subst z
      obtain ⟨h1, h2, h3, h4, G, h5, h6⟩ := xc i hi
      have hco := (xd d hd).2 (n - 1) (by omega)
      obtain ⟨g1, g2, g3, g4, -⟩ := xc _ hco.1
      have e6 : sCd (st_forge S i d n) (sC S) = d := by show sCd (st_coin S d n (sCh S i)) _ = _; rw [st_coin_6, if_pos rfl]
      have e7 : sCn (st_forge S i d n) (sC S) = n := by show sCn (st_coin S d n (sCh S i)) _ = _; rw [st_coin_7, if_pos rfl]
      have e8 : sCh (st_forge S i d n) (sC S) = sCh S i := by show sCh (st_coin S d n (sCh S i)) _ = _; rw [st_coin_8, if_pos rfl]
      refine ⟨?_, ?_, ?_, ?_, sCh S (co d (n - 1)), ?_, ?_⟩
      · rw [mi_un_s, mi_un_s, e6]
        exact kC
      · rw [mi_un_s]
        exact Nat.lt_succ_of_lt h2
      · rw [mi_un_s]
        exact Nat.lt_succ_of_lt g2
      · rw [mi_un_s, e8, (fr' (500 + hr i) (by omega) (by omega)).1]
        exact h4
      · rw [mi_un_s, (fr' (500 + hr (co d (n - 1))) (by omega) (by omega)).1]
        exact g4
      · rw [e6, e7, show sF (st_forge S i d n) d = sF S d from congrFun (t1 3 (by omega) (by omega)) d]
        exact hco.2
    · have hj2 : j < sC S := by omega
      have hcd := (oI j hj2).1
      exact rx_coin_keep hO hj2 (xc j hj2) (t1 3 (by omega) (by omega)) (by show sCd (st_coin S d n (sCh S i)) _ = _; rw [st_coin_6, if_neg z]) (by show sCn (st_coin S d n (sCh S i)) _ = _; rw [st_coin_7, if_neg z]) (t8 j hj2) (Nat.le_succ _) (mi_un_n z) (mi_un_n z) (fun k hk => fr' k (by omega) (by omega)) (fr' _ (by omega) (by omega)).2
theorem RepC.strike {D : va_G} {S : sT} {ad ad1 : Nat → Nat} {cf cf1 : Nat → Option va_E} {co : Nat → Nat → Nat} {hr gr : Nat → Nat} {d : Nat} (hO : st_ok S) (h60 : sC S < 60) (hd : d < sD S) (h : RepC D S ad cf co hr gr) (kL : mi_L D ad1 cf1 3 13 (sC S + 1) (fun i => 400 + i)) (a3 : ad1 3 = ad 3)
    (kC : cf1 (400 + sC S) = some (.inr (1, [.ref (ad1 (300 + d)), .ref (ad1 (500 + sC S)), .ref (ad1 (500 + sC S))]))) (kR : cf1 (500 + sC S) = some (mi_ai D 16 (fun c => nI (sH S d c)))) (kH : cf1 (320 + d) = some (mi_ai D 16 (fun c => nI (st_af S d c)))) (aH : ad1 (320 + d) = ad (320 + d)) (aS : ad1 (330 + d) = ad (330 + d))
    (kS : mi_L D ad1 cf1 (330 + d) (340 + d) (sX S d + 1) (mi_un (fun k => 400 + co d k) (sX S d) (400 + sC S))) (fr : ∀ k, k < 1000 → k ≠ 3 → k ≠ 13 → k ≠ 400 + sC S → k ≠ 500 + sC S → k ≠ 320 + d → k ≠ 330 + d → k ≠ 340 + d → cf1 k = cf k ∧ ad1 k = ad k) :
    RepC D (st_strike S d) ad1 cf1 (fun e k => if e = d ∧ k = sX S d then sC S else co e k) (mi_un hr (sC S) (sC S)) (mi_un gr (sC S) (sC S)) := by
  obtain ⟨x0, x1, x2, x3, xp, xs, xd, xc, x9⟩ := h
  obtain ⟨⟨o1, o2, o3, o4, o5⟩, oP, oK, oD, oX, oC, oI⟩ := id hO
  have fr' : ∀ k, k < 1000 → (k < 3 ∨ (3 < k ∧ k < 13) ∨ (13 < k ∧ k < 320) ∨ (320 ≤ k ∧ k < 400 ∧ k % 10 ≠ d) ∨ (400 ≤ k ∧ k < 400 + sC S) ∨ (500 ≤ k ∧ k ≠ 500 + sC S)) → cf1 k = cf k ∧ ad1 k = ad k := fun k h1 h2 => fr k h1 (by omega) (by omega) (by omega) (by omega) (by omega) (by omega) (by omega)
  have t1 : ∀ j, j < 4 → 1 ≤ j → (st_strike S d) j = S j := fun j h1 h2 => funext fun k => by
    show st_up (st_up (st_coin S d (sX S d + 1) (sH S d)) 4 d (fun _ => sX S d + 1)) 5 d (st_af S d) j k = _
    rw [st_n (by omega), st_n (by omega)]
    show st_up _ 8 _ _ j k = _
    rw [st_n (by omega), st_n (by omega), st_n (by omega), st_n (by omega)]
  have t8 : ∀ j, j < sC S → sCh (st_strike S d) j = sCh S j := fun j hj => by
    show sCh (st_coin S d (sX S d + 1) (sH S d)) j = _
    rw [st_coin_8, if_neg (by omega)]
  have t8n : sCh (st_strike S d) (sC S) = sH S d := by
    show sCh (st_coin S d (sX S d + 1) (sH S d)) (sC S) = _
    rw [st_coin_8, if_pos rfl]
  obtain ⟨y0, y1, yp, ys⟩ := rx_keepS (T := st_strike S d) hO (fun k hk => fr' k (by omega) (by omega)) ⟨(fr' 2 (by omega) (by omega)).2, a3⟩ rfl rfl (t1 1 (by omega) (by omega)) (t1 2 (by omega) (by omega)) ⟨x0, x1, xp, xs⟩
  refine ⟨y0, y1, x2.keep (fr' 2 (by omega) (by omega)).1 (fr' 12 (by omega) (by omega)) (fun i hi => (fr' _ (by omega) (by omega)).2), kL, yp, ys, fun e he => ?_, fun j hj => ?_, (fr' 999 (by omega) (by omega)).1.trans x9⟩
  · have he : e < sD S := he
    obtain ⟨⟨h1, h2, h3, h4⟩, h5⟩ := xd e he
    have e3 := congrFun (t1 3 (by omega) (by omega)) e
    by_cases z : e = d
    · subst z
      have e4 : sX (st_strike S e) e = sX S e + 1 := by show st_up (st_up (st_coin S e (sX S e + 1) (sH S e)) 4 e (fun _ => sX S e + 1)) 5 e (st_af S e) 4 e 0 = _; rw [st_n (by omega), st_s]
      have e5 : sH (st_strike S e) e = st_af S e := st_s
      refine ⟨⟨?_, ?_, ?_, ?_⟩, ?_⟩
      · rw [(fr' (300 + e) (by omega) (by omega)).1, (fr' (310 + e) (by omega) (by omega)).2, aH, aS]
        exact h1
      · rw [(fr' (310 + e) (by omega) (by omega)).1, show sF (st_strike S e) e = sF S e from e3]
        exact h2
      · rw [e5]
        exact kH
      · rw [e4]
        rw [show (fun k => 400 + (if e = e ∧ k = sX S e then sC S else co e k)) = mi_un (fun k => 400 + co e k) (sX S e) (400 + sC S) from funext fun k => by
          unfold mi_un
          by_cases q : k = sX S e
          · rw [if_pos ⟨rfl, q⟩, if_pos q]
          · rw [if_neg (fun h => q h.2), if_neg q]]
        exact kS
      · intro k hk
        rw [e4] at hk
        rw [show sF (st_strike S e) e = sF S e from e3]
        show (if e = e ∧ k = sX S e then sC S else co e k) < sC S + 1 ∧ ∀ c, c < 16 → sCh (st_strike S e) (if e = e ∧ k = sX S e then sC S else co e k) c = wn (sF S e) (k / 2) c
        by_cases q : k = sX S e
        · rw [if_pos ⟨rfl, q⟩, t8n, q]
          exact ⟨Nat.lt_succ_self _, fun c hc => (oD e c he hc).2⟩
        · have h6 := h5 k (by omega)
          rw [if_neg (fun h => q h.2), t8 _ h6.1]
          exact ⟨Nat.lt_succ_of_lt h6.1, h6.2⟩
    · have e4 : sX (st_strike S d) e = sX S e := by show st_up (st_up (st_coin S d (sX S d + 1) (sH S d)) 4 d (fun _ => sX S d + 1)) 5 d (st_af S d) 4 e 0 = _; rw [st_n (by omega), st_n (by omega)]; rfl
      have e5 : sH (st_strike S d) e = sH S e := by show st_up (st_up (st_coin S d (sX S d + 1) (sH S d)) 4 d (fun _ => sX S d + 1)) 5 d (st_af S d) 5 e = _; rw [st_n (by omega), st_n (by omega)]; rfl
      refine ⟨⟨?_, ?_, ?_, ?_⟩, ?_⟩
      · rw [(fr' (300 + e) (by omega) (by omega)).1, (fr' (310 + e) (by omega) (by omega)).2, (fr' (320 + e) (by omega) (by omega)).2, (fr' (330 + e) (by omega) (by omega)).2]
        exact h1
      · rw [(fr' (310 + e) (by omega) (by omega)).1, show sF (st_strike S d) e = sF S e from e3]
        exact h2
      · rw [e5, (fr' (320 + e) (by omega) (by omega)).1]
        exact h3
      · rw [e4, show (fun k => 400 + (if e = d ∧ k = sX S d then sC S else co e k)) = fun k => 400 + co e k from funext fun k => by rw [if_neg (fun h => z h.1)]]
        exact h4.keep (fr' _ (by omega) (by omega)).1 (fr' _ (by omega) (by omega)) (fun k hk => (fr' _ (by have := (h5 k hk).1; omega) (by have := (h5 k hk).1; omega)).2)
      · intro k hk
        rw [e4] at hk
        have h6 := h5 k hk
        rw [show sF (st_strike S d) e = sF S e from e3]
        show (if e = d ∧ k = sX S d then sC S else co e k) < sC S + 1 ∧ ∀ c, c < 16 → sCh (st_strike S d) (if e = d ∧ k = sX S d then sC S else co e k) c = wn (sF S e) (k / 2) c
        rw [if_neg (fun h => z h.1), t8 _ h6.1]
        exact ⟨Nat.lt_succ_of_lt h6.1, h6.2⟩
  · have hj : j < sC S + 1 := hj
    have e6 : ∀ j, sCd (st_strike S d) j = if j = sC S then d else sCd S j := fun j => st_coin_6 (S := S) (d := d) (n := sX S d + 1) (h0 := sH S d) j
    have e7 : ∀ j, sCn (st_strike S d) j = if j = sC S then sX S d + 1 else sCn S j := fun j => st_coin_7 (S := S) (d := d) (n := sX S d + 1) (h0 := sH S d) j
    by_cases z : j = sC S
    · subst z
      refine ⟨?_, ?_, ?_, ?_, sH S d, ?_, ?_⟩
      · rw [mi_un_s, mi_un_s, e6, if_pos rfl]
        exact kC
      · rw [mi_un_s]
        exact Nat.lt_succ_self _
      · rw [mi_un_s]
        exact Nat.lt_succ_self _
      · rw [mi_un_s, t8n]
        exact kR
      · rw [mi_un_s]
        exact kR
      · rw [e6, if_pos rfl, e7, if_pos rfl, show sF (st_strike S d) d = sF S d from congrFun (t1 3 (by omega) (by omega)) d, show sX S d + 1 - 1 = sX S d by omega]
        exact fun c hc => (oD d c hd hc).2
    · have hj2 : j < sC S := by omega
      have hcd := (oI j hj2).1
      exact rx_coin_keep hO hj2 (xc j hj2) (t1 3 (by omega) (by omega)) (by rw [e6, if_neg z]) (by rw [e7, if_neg z]) (t8 j hj2) (Nat.le_succ _) (mi_un_n z) (mi_un_n z) (fun k hk => fr' k (by omega) (by omega)) (fr' _ (by omega) (by omega)).2
