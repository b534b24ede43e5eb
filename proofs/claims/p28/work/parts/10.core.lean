/-! mint: the tables' good words; the world as roles (a role's address, a role's cell); rows over it -/
def mi_G : List Cond := lw_tbl.filter goodWord
theorem mi_in {w : Cond} (i : Nat) (h : lw_tbl[i]? = some w) (hg : goodWord w = true) : w ∈ mi_G := List.mem_filter.mpr ⟨List.mem_of_getElem? h, hg⟩
theorem mi_good {w0 : Cond} {ws : List Cond} (h : ∀ w ∈ ws, w ∈ mi_G) : GoodIn (w0 :: mi_G) ws := fun w hw => ⟨List.mem_cons_of_mem _ (h w hw), good_of_word (List.mem_filter.mp (h w hw)).2⟩
theorem mi_nil : ∀ w ∈ ([] : List Cond), w ∈ mi_G := fun _ h => absurd h List.not_mem_nil
theorem mi_cons {w : Cond} {ws : List Cond} (h : w ∈ mi_G) (t : ∀ w ∈ ws, w ∈ mi_G) : ∀ w' ∈ w :: ws, w' ∈ mi_G := List.forall_mem_cons.mpr ⟨h, t⟩
theorem mi_goodC {w0 w1 : Cond} (h : w1 ∈ mi_G) : GoodIn (w0 :: mi_G) (w1 :: mi_G) := mi_good (mi_cons h (fun _ h => h))
theorem mi_goodL {w0 w1 : Cond} {ws : List Cond} (h : w1 ∈ mi_G) (hl : ∀ w ∈ ws, w ∈ mi_G) : GoodIn (w0 :: mi_G) (ws ++ (w1 :: mi_G)) := mi_good (fun w hw => (List.mem_append.mp hw).elim (hl w) (fun h2 => mi_cons h (fun _ h => h) w h2))
def mi_rm (d : Nat) : Room := { frames := d, cells := 0, slots := 0, locals := 37 * d }
def mi_rq (d n k : Nat) : Room := { frames := d, cells := n, slots := k, locals := 37 * d }
/-- the world: what role r is (cf r), where it stands (ad r) -/
def mi_W (D : va_G) (A : Nat → Prop) (ad : Nat → Nat) (cf : Nat → Option va_E) (H : Heap) : Prop :=
  (∀ (r : Nat) (e : va_E), cf r = some e → A (ad r) ∧ va_at D vwCl (ad r, e) H) ∧ ∀ (r r' : Nat) (e e' : va_E), cf r = some e → cf r' = some e' → ad r = ad r' → r = r'
theorem mi_W.at {D : va_G} {A : Nat → Prop} {ad : Nat → Nat} {cf : Nat → Option va_E} {H : Heap} (h : mi_W D A ad cf H) {r : Nat} {e : va_E} (he : cf r = some e) : va_at D vwCl (ad r, e) H := (h.1 r e he).2
theorem mi_W.lt {D : va_G} {A : Nat → Prop} {ad : Nat → Nat} {cf : Nat → Option va_E} {H : Heap} (h : mi_W D A ad cf H) {r : Nat} {e : va_E} (he : cf r = some e) : ad r < H.size := (h.at he).lt
theorem mi_W.P {D : va_G} {A : Nat → Prop} {ad : Nat → Nat} {cf : Nat → Option va_E} {H : Heap} (h : mi_W D A ad cf H) {r : Nat} {e : va_E} (he : cf r = some e) : va_P D vwCl [(ad r, e)] H := by
  intro k q hk
  cases k with
  | zero => cases hk; exact h.at he
  | succ k => simp at hk
theorem mi_up_s {α : Type} {f : Nat → α} {k : Nat} {v : α} : va_up f k v k = v := if_pos rfl
theorem mi_up_n {α : Type} {f : Nat → α} {k j : Nat} {v : α} (h : j ≠ k) : va_up f k v j = f j := if_neg h
theorem mi_W.set {D : va_G} {A : Nat → Prop} {ad : Nat → Nat} {cf : Nat → Option va_E} {H H1 : Heap} (h : mi_W D A ad cf H) {r : Nat} {e0 e : va_E} (he : cf r = some e0) (h1 : va_at D vwCl (ad r, e) H1) (oq : ∀ q : Nat, q ≠ ad r → H1[q]? = H[q]?) : mi_W D A ad (va_up cf r (some e)) H1 := by
  refine ⟨fun k x hx => ?_, fun k k' x x' hx hx' ha => ?_⟩
  · by_cases hk : k = r
    · subst hk
      rw [mi_up_s] at hx
      cases hx
      exact ⟨(h.1 k _ he).1, h1⟩
    · rw [mi_up_n hk] at hx
      exact ⟨(h.1 k _ hx).1, (h.at hx).kept (oq _ (fun z => hk (h.2 k r _ _ hx he z)))⟩
  · have key : ∀ (j : Nat) (y : va_E), va_up cf r (some e) j = some y → ∃ y0, cf j = some y0 := by
      intro j y hy
      by_cases hj : j = r
      · subst hj; exact ⟨e0, he⟩
      · rw [mi_up_n hj] at hy; exact ⟨y, hy⟩
    obtain ⟨y, hy⟩ := key k x hx
    obtain ⟨y', hy'⟩ := key k' x' hx'
    exact h.2 k k' y y' hy hy' ha
theorem mi_W.new {D : va_G} {A : Nat → Prop} {ad : Nat → Nat} {cf : Nat → Option va_E} {H H1 : Heap} (h : mi_W D A ad cf H) (r : Nat) {e : va_E} (hA : A H.size) (h1 : va_at D vwCl (H.size, e) H1) (oq : ∀ q : Nat, q < H.size → H1[q]? = H[q]?) : mi_W D A (va_up ad r H.size) (va_up cf r (some e)) H1 := by
  have old : ∀ (k : Nat) (x : va_E), k ≠ r → va_up cf r (some e) k = some x → cf k = some x ∧ va_up ad r H.size k = ad k ∧ ad k < H.size := by
    intro k x hk hx
    rw [mi_up_n hk] at hx
    exact ⟨hx, mi_up_n hk, h.lt hx⟩
  refine ⟨fun k x hx => ?_, fun k k' x x' hx hx' ha => ?_⟩
  · by_cases hk : k = r
    · subst hk
      rw [mi_up_s] at hx
      cases hx
      rw [mi_up_s]
      exact ⟨hA, h1⟩
    · obtain ⟨g1, g2, g3⟩ := old k x hk hx
      rw [g2]
      exact ⟨(h.1 k _ g1).1, (h.at g1).kept (oq _ g3)⟩
  · by_cases hk : k = r
    · by_cases hk' : k' = r
      · rw [hk, hk']
      · obtain ⟨g1, g2, g3⟩ := old k' x' hk' hx'
        rw [hk, mi_up_s, g2] at ha
        omega
    · obtain ⟨g1, g2, g3⟩ := old k x hk hx
      by_cases hk' : k' = r
      · rw [hk', mi_up_s, g2] at ha
        omega
      · obtain ⟨f1, f2, f3⟩ := old k' x' hk' hx'
        rw [g2, f2] at ha
        exact h.2 k k' x x' g1 f1 ha
theorem mi_W.kept {D : va_G} {A : Nat → Prop} {ad : Nat → Nat} {cf : Nat → Option va_E} {H H1 : Heap} (h : mi_W D A ad cf H) (oq : ∀ q : Nat, q < H.size → A q → H1[q]? = H[q]?) : mi_W D A ad cf H1 :=
  ⟨fun k x hx => ⟨(h.1 k x hx).1, (h.at hx).kept (oq _ (h.lt hx) (h.1 k x hx).1)⟩, h.2⟩
theorem mi_W.weak {D : va_G} {A B : Nat → Prop} {ad : Nat → Nat} {cf : Nat → Option va_E} {H : Heap} (h : mi_W D A ad cf H) (hAB : ∀ q, A q → B q) : mi_W D B ad cf H :=
  ⟨fun k x hx => ⟨hAB _ (h.1 k x hx).1, h.at hx⟩, h.2⟩
/-- fewer roles, or the same with equal cells -/
theorem mi_W.sub {D : va_G} {A : Nat → Prop} {ad : Nat → Nat} {cf cg : Nat → Option va_E} {H : Heap} (h : mi_W D A ad cf H) (hs : ∀ r e, cg r = some e → cf r = some e) : mi_W D A ad cg H :=
  ⟨fun k x hx => h.1 k x (hs k x hx), fun k k' x x' hx hx' ha => h.2 k k' x x' (hs k x hx) (hs k' x' hx') ha⟩
/-- array cells: of ints, of naturals told as ints, of references, of longs -/
abbrev mi_ai (D : va_G) (n : Nat) (f : Nat → Int32) : va_E := .inl (D.1 100, n, .inl f)
abbrev mi_aq (D : va_G) (n : Nat) (f : Nat → Option Nat) : va_E := .inl (D.1 101, n, .inr (.inr (.inr (.inr f))))
abbrev mi_al (D : va_G) (n : Nat) (f : Nat → Int64) : va_E := .inl (D.1 102, n, .inr (.inl f))
abbrev mi_tys (D : va_G) : List (ClassId × FieldType) := [(D.1 100, .int), (D.1 101, .object "java/lang/Object"), (D.1 102, .long)]
/-- only the places below the length count -/
theorem mi_cell_ext {D : va_G} {n : Nat} {f g : Nat → Int32} (h : ∀ j, j < n → f j = g j) {a : Nat} {H : Heap} (h1 : va_at D vwCl (a, mi_ai D n f) H) : va_at D vwCl (a, mi_ai D n g) H := by
  have e : vp_cell (D.1 100) (n, .inl f) = vp_cell (D.1 100) (n, .inl g) := by
    rw [vp_cell_i, vp_cell_i]
    unfold arrV
    congr 1
    apply Array.ext
    · simp
    · intro i h2 h3
      simp only [Array.getElem_ofFn]
      rw [h i (by simpa using h2)]
  show H[a]? = some (vp_cell (D.1 100) (n, .inl g))
  rw [← e]
  exact h1
theorem mi_W.ext {D : va_G} {A : Nat → Prop} {ad : Nat → Nat} {cf cg : Nat → Option va_E} {H : Heap} (h : mi_W D A ad cf H) (hs : ∀ r e, cg r = some e → cf r = some e ∨ ∃ n f g, e = mi_ai D n g ∧ cf r = some (mi_ai D n f) ∧ ∀ j, j < n → f j = g j) : mi_W D A ad cg H := by
  refine ⟨fun k x hx => ?_, fun k k' x x' hx hx' ha => ?_⟩
  · rcases hs k x hx with q | ⟨n, f, g, rfl, q, hf⟩
    · exact h.1 k x q
    · exact ⟨(h.1 k _ q).1, mi_cell_ext hf (h.at q)⟩
  · have key : ∀ j y, cg j = some y → ∃ y0, cf j = some y0 := by
      intro j y hy
      rcases hs j y hy with q | ⟨n, f, g, -, q, -⟩
      · exact ⟨_, q⟩
      · exact ⟨_, q⟩
    obtain ⟨y, hy⟩ := key k x hx
    obtain ⟨y', hy'⟩ := key k' x' hx'
    exact h.2 k k' y y' hy hy' ha
