/-! the class's objects hold the state changed -/
def rx_P (D : va_G) (A : Nat → Prop) (S : sT) (ad : Nat → Nat) (cf : Nat → Option va_E) (H : Heap) : Prop := ∃ ad1 cf1, mi_W D A ad1 cf1 H ∧ RepX D S ad1 cf1 ∧ rx_fr ad cf ad1 cf1 ∧ ad1 0 = ad 0
theorem rx_par_eq {S T : sT} {ad ad1 : Nat → Nat} {i : Nat} (hp : i ≠ 0 → sP T i = sP S i ∧ ad1 (100 + 2 * sP S i) = ad (100 + 2 * sP S i)) : rx_par T ad1 i = rx_par S ad i := by
  unfold rx_par
  by_cases z : i = 0
  · rw [if_pos z, if_pos z]
  · rw [if_neg z, if_neg z, (hp z).1, (hp z).2]
/-- dies and coins as they were -/
theorem rx_keep {D : va_G} {S T : sT} {ad ad1 : Nat → Nat} {cf cf1 : Nat → Option va_E} (hO : st_ok S) (e : ∀ k, 3 ≤ k → k ≤ 6 ∨ k = 13 ∨ (300 ≤ k ∧ k < 1000) → cf1 k = cf k ∧ ad1 k = ad k) (e2 : (cf1 2 = cf 2 ∧ ad1 2 = ad 2) ∧ cf1 12 = cf 12 ∧ ad1 12 = ad 12) (t : ∀ k, 3 ≤ k → T k = S k) (tD : sD T = sD S) (tC : sC T = sC S)
    (h : mi_L D ad cf 2 12 (sD S) (fun d => 300 + d) ∧ mi_L D ad cf 3 13 (sC S) (fun i => 400 + i) ∧ (∃ m q n, rx_pf D ad cf m q n) ∧ (∃ (co : Nat → Nat → Nat) (hr gr : Nat → Nat), (∀ d, d < sD S → rx_die D S ad cf co d ∧ rx_co S co d) ∧ ∀ i, i < sC S → rx_coin D S ad cf hr gr i) ∧ cf 999 = none) :
    mi_L D ad1 cf1 2 12 (sD T) (fun d => 300 + d) ∧ mi_L D ad1 cf1 3 13 (sC T) (fun i => 400 + i) ∧ (∃ m q n, rx_pf D ad1 cf1 m q n) ∧ (∃ (co : Nat → Nat → Nat) (hr gr : Nat → Nat), (∀ d, d < sD T → rx_die D T ad1 cf1 co d ∧ rx_co T co d) ∧ ∀ i, i < sC T → rx_coin D T ad1 cf1 hr gr i) ∧ cf1 999 = none := by
  obtain ⟨x2, x3, ⟨m, q, n, p4, p5, p6⟩, ⟨co, hr, gr, xd, xc⟩, x9⟩ := h
  obtain ⟨⟨o1, o2, o3, o4, o5⟩, oP, oK, oD, oX, oC, oI⟩ := hO
  have t3 := t 3 (by omega)
  have t4 := t 4 (by omega)
  have t5 := t 5 (by omega)
  have t6 := t 6 (by omega)
  have t7 := t 7 (by omega)
  have t8 := t 8 (by omega)
  have c1 : ∀ k, 300 ≤ k → k < 1000 → cf1 k = cf k := fun k h1 h2 => (e k (by omega) (by omega)).1
  have a1 : ∀ k, 300 ≤ k → k < 1000 → ad1 k = ad k := fun k h1 h2 => (e k (by omega) (by omega)).2
  have b1 : ∀ k, 3 ≤ k → k ≤ 6 → cf1 k = cf k ∧ ad1 k = ad k := fun k h1 h2 => e k h1 (by omega)
  rw [tD, tC]
  refine ⟨x2.keep e2.1.1 e2.2 (fun i hi => a1 _ (by omega) (by omega)), x3.keep (b1 3 (by omega) (by omega)).1 (e 13 (by omega) (by omega)) (fun i hi => a1 _ (by omega) (by omega)), ⟨m, q, n, ?_, ?_, ?_⟩, ⟨co, hr, gr, fun d hd => ?_, fun i hi => ?_⟩, ?_⟩
  · rw [(b1 4 (by omega) (by omega)).1, (b1 5 (by omega) (by omega)).2, (b1 6 (by omega) (by omega)).2]
    exact p4
  · rw [(b1 5 (by omega) (by omega)).1]
    exact p5
  · rw [(b1 6 (by omega) (by omega)).1]
    exact p6
  · obtain ⟨⟨h1, h2, h3, h4⟩, h5⟩ := xd d hd
    refine ⟨⟨?_, ?_, ?_, ?_⟩, ?_⟩
    · rw [c1 (300 + d) (by omega) (by omega), a1 (310 + d) (by omega) (by omega), a1 (320 + d) (by omega) (by omega), a1 (330 + d) (by omega) (by omega)]
      exact h1
    · rw [c1 (310 + d) (by omega) (by omega), show sF T d = sF S d from congrFun t3 d]
      exact h2
    · rw [c1 (320 + d) (by omega) (by omega), show sH T d = sH S d from congrFun t5 d]
      exact h3
    · rw [show sX T d = sX S d from congrFun (congrFun t4 d) 0]
      exact h4.keep (c1 _ (by omega) (by omega)) (e _ (by omega) (by omega)) (fun k hk => a1 _ (by omega) (by have := (h5 k hk).1; omega))
    · intro k hk
      rw [tC, show sCh T (co d k) = sCh S (co d k) from congrFun t8 (co d k), show sF T d = sF S d from congrFun t3 d]
      exact h5 k (by rw [← show sX T d = sX S d from congrFun (congrFun t4 d) 0]; exact hk)
  · obtain ⟨h1, h2, h3, h4, G, h5, h6⟩ := xc i hi
    have hd := (oI i hi).1
    refine ⟨?_, by rw [tC]; exact h2, by rw [tC]; exact h3, ?_, G, ?_, ?_⟩
    · rw [show sCd T i = sCd S i from congrFun (congrFun t6 i) 0, c1 (400 + i) (by omega) (by omega), a1 (300 + sCd S i) (by omega) (by omega), a1 (500 + hr i) (by omega) (by omega), a1 (500 + gr i) (by omega) (by omega)]
      exact h1
    · rw [show sCh T i = sCh S i from congrFun t8 i, c1 (500 + hr i) (by omega) (by omega)]
      exact h4
    · rw [c1 (500 + gr i) (by omega) (by omega)]
      exact h5
    · rw [show sCd T i = sCd S i from congrFun (congrFun t6 i) 0, show sCn T i = sCn S i from congrFun (congrFun t7 i) 0, show sF T (sCd S i) = sF S (sCd S i) from congrFun t3 (sCd S i)]
      exact h6
  · rw [c1 999 (by omega) (by omega)]
    exact x9
/-- another state is the one of now -/
theorem RepX.now {D : va_G} {S : sT} {ad : Nat → Nat} {cf : Nat → Option va_E} {w : Nat} (hO : st_ok S) (h : RepX D S ad cf) : RepX D (st_now S w) ad (va_up cf 0 (some (.inr (5, [.ref (ad 1), .ref (ad 2), .ref (ad 3), .ref (ad 4), .ref (ad (100 + 2 * w))])))) := by
  obtain ⟨x0, x1, x2, x3, xp, xs, xdc, x9⟩ := h
  obtain ⟨y2, y3, yp, ydc, y9⟩ := rx_keep (T := st_now S w) (ad1 := ad) (cf1 := va_up cf 0 (some (.inr (5, [.ref (ad 1), .ref (ad 2), .ref (ad 3), .ref (ad 4), .ref (ad (100 + 2 * w))])))) hO (fun k h1 _ => ⟨mi_up_n (by omega), rfl⟩) ⟨⟨mi_up_n (by omega), rfl⟩, mi_up_n (by omega), rfl⟩ (fun k hk => funext fun i => st_n (by omega)) rfl rfl ⟨x2, x3, xp, xdc, x9⟩
  exact ⟨mi_up_s, x1.keep (mi_up_n (by omega)) ⟨mi_up_n (by omega), rfl⟩ (fun _ _ => rfl), y2, y3, yp, fun i hi => ⟨(mi_up_n (by omega)).trans (xs i hi).1, (mi_up_n (by omega)).trans (xs i hi).2⟩, ydc, y9⟩
/-- the kinds of the state of now -/
theorem RepX.put {D : va_G} {S : sT} {ad : Nat → Nat} {cf : Nat → Option va_E} {p k : Nat} (hO : st_ok S) (h : RepX D S ad cf) : RepX D (st_put S p k) ad (va_up cf (101 + 2 * sW S) (some (mi_ai D 128 (fun j => nI (mi_un (sK S (sW S)) p k j))))) := by
  obtain ⟨x0, x1, x2, x3, xp, xs, xdc, x9⟩ := h
  have o2 := hO.1.2.1
  have o3 := hO.1.2.2.1
  obtain ⟨y2, y3, yp, ydc, y9⟩ := rx_keep (T := st_put S p k) (ad1 := ad) (cf1 := va_up cf (101 + 2 * sW S) (some (mi_ai D 128 (fun j => nI (mi_un (sK S (sW S)) p k j))))) hO (fun k h1 _ => ⟨mi_up_n (by omega), rfl⟩) ⟨⟨mi_up_n (by omega), rfl⟩, mi_up_n (by omega), rfl⟩ (fun k hk => funext fun i => st_n (by omega)) rfl rfl ⟨x2, x3, xp, xdc, x9⟩
  refine ⟨(mi_up_n (by omega)).trans x0, x1.keep (mi_up_n (by omega)) ⟨mi_up_n (by omega), rfl⟩ (fun _ _ => rfl), y2, y3, yp, fun i hi => ⟨(mi_up_n (by omega)).trans (xs i hi).1, ?_⟩, ydc, y9⟩
  show va_up cf (101 + 2 * sW S) _ (101 + 2 * i) = some (mi_ai D 128 (fun j => nI (st_up S 2 (sW S) (mi_un (sK S (sW S)) p k) 2 i j)))
  by_cases z : i = sW S
  · subst z
    rw [mi_up_s, st_s]
  · rw [mi_up_n (by omega), st_n (by omega)]
    exact (xs i hi).2
/-- one more state -/
theorem RepX.new {D : va_G} {S : sT} {ad ad1 : Nat → Nat} {cf cf1 : Nat → Option va_E} {K : Nat → Nat} (hO : st_ok S) (h61 : sN S < 61) (h : RepX D S ad cf) (k0 : cf1 0 = some (.inr (5, [.ref (ad1 1), .ref (ad1 2), .ref (ad1 3), .ref (ad1 4), .ref (ad1 (100 + 2 * sN S))])))
    (kL : mi_L D ad1 cf1 1 11 (sN S + 1) (fun i => 100 + 2 * i)) (kS : cf1 (100 + 2 * sN S) = some (.inr (4, [.int (nI (sN S)), .ref (ad1 (100 + 2 * sW S)), .ref (ad1 (101 + 2 * sN S))]))) (kK : cf1 (101 + 2 * sN S) = some (mi_ai D 128 (fun j => nI (K j))))
    (fr : ∀ k, k < 1000 → k ≠ 0 → k ≠ 1 → k ≠ 11 → k ≠ 100 + 2 * sN S → k ≠ 101 + 2 * sN S → cf1 k = cf k ∧ ad1 k = ad k) : RepX D (st_new S K) ad1 cf1 := by
  obtain ⟨x0, x1, x2, x3, xp, xs, xdc, x9⟩ := h
  obtain ⟨⟨o1, o2, o3, o4, o5⟩, oP, -⟩ := id hO
  obtain ⟨y2, y3, yp, ydc, y9⟩ := rx_keep (T := st_new S K) (ad1 := ad1) (cf1 := cf1) hO (fun k h1 h2 => fr k (by omega) (by omega) (by omega) (by omega) (by omega) (by omega)) ⟨fr 2 (by omega) (by omega) (by omega) (by omega) (by omega) (by omega), fr 12 (by omega) (by omega) (by omega) (by omega) (by omega) (by omega)⟩ (fun k hk => funext fun i => by
    show st_up _ 2 _ _ k i = S k i
    rw [st_n (by omega), st_n (by omega), st_n (by omega), st_n (by omega)]) rfl rfl ⟨x2, x3, xp, xdc, x9⟩
  refine ⟨k0, kL, y2, y3, yp, fun i hi => ?_, ydc, y9⟩
  have hi : i < sN S + 1 := hi
  by_cases z : i = sN S
  · subst z
    have hp : rx_par (st_new S K) ad1 (sN S) = .ref (ad1 (100 + 2 * sW S)) := by
      unfold rx_par
      rw [if_neg (by omega), show sP (st_new S K) (sN S) = sW S from by show st_up _ 2 _ _ 1 (sN S) 0 = _; rw [st_n (by omega), st_s]]
    refine ⟨by rw [hp]; exact kS, ?_⟩
    rw [show sK (st_new S K) (sN S) = K from st_s]
    exact kK
  · obtain ⟨h1, h2⟩ := xs i (by omega)
    have hP : i ≠ 0 → sP S i < i := fun h => oP i (by omega) (by omega)
    have fr' := fun k h1 h2 h3 h4 h5 h6 => fr k h1 h2 h3 h4 h5 h6
    have hp : rx_par (st_new S K) ad1 i = rx_par S ad i := rx_par_eq (fun h => ⟨by show st_up _ 2 _ _ 1 i 0 = _; rw [st_n (by omega), st_n (by omega), st_n (by omega), st_n (by omega)], (fr (100 + 2 * sP S i) (by have := hP h; omega) (by omega) (by omega) (by omega) (by have := hP h; omega) (by omega)).2⟩)
    refine ⟨?_, ?_⟩
    · rw [hp, (fr (100 + 2 * i) (by omega) (by omega) (by omega) (by omega) (by omega) (by omega)).1, (fr (101 + 2 * i) (by omega) (by omega) (by omega) (by omega) (by omega) (by omega)).2]
      exact h1
    · rw [show sK (st_new S K) i = sK S i from by show st_up _ 2 _ _ 2 i = _; rw [st_n (by omega), st_n (by omega), st_n (by omega), st_n (by omega)], (fr (101 + 2 * i) (by omega) (by omega) (by omega) (by omega) (by omega) (by omega)).1]
      exact h2
