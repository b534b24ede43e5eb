/-! a list of n objects: at role r, its row at role q; the i-th is the role g i -/
def mi_L (D : va_G) (ad : Nat → Nat) (cf : Nat → Option va_E) (r q n : Nat) (g : Nat → Nat) : Prop := ∃ mcn : Int32, (n = 0 ∧ cf r = some (.inr (0, [.int mcn, .ref (mi_de D), .int (nI 0)]))) ∨
  ∃ (cap : Nat) (f : Nat → Option Nat), 10 ≤ cap ∧ cap ≤ 100 ∧ n ≤ cap ∧ cf r = some (.inr (0, [.int mcn, .ref (ad q), .int (nI n)])) ∧ cf q = some (mi_aq D cap f) ∧ ∀ i, i < n → f i = some (ad (g i))
theorem mi_L.size {D : va_G} {ad : Nat → Nat} {cf : Nat → Option va_E} {r q n : Nat} {g : Nat → Nat} (h : mi_L D ad cf r q n g) : ∃ (mcn : Int32) (ea : Nat), cf r = some (.inr (0, [.int mcn, .ref ea, .int (nI n)])) := by
  obtain ⟨mcn, ⟨rfl, h2⟩ | ⟨cap, f, h1, h2, h3, h4, -⟩⟩ := h
  · exact ⟨mcn, _, h2⟩
  · exact ⟨mcn, _, h4⟩
theorem mi_L.row {D : va_G} {ad : Nat → Nat} {cf : Nat → Option va_E} {r q n : Nat} {g : Nat → Nat} (h : mi_L D ad cf r q n g) (hn : 0 < n) : ∃ (mcn : Int32) (cap : Nat) (f : Nat → Option Nat), cap < 2 ^ 31 ∧ n ≤ cap ∧ cf r = some (.inr (0, [.int mcn, .ref (ad q), .int (nI n)])) ∧ cf q = some (mi_aq D cap f) ∧ ∀ i, i < n → f i = some (ad (g i)) := by
  obtain ⟨mcn, ⟨rfl, h2⟩ | ⟨cap, f, h1, h2, h3, h4, h5, h6⟩⟩ := h
  · exact absurd hn (Nat.lt_irrefl 0)
  · exact ⟨mcn, cap, f, by omega, h3, h4, h5, h6⟩
/-- elsewhere things changed -/
theorem mi_L.keep {D : va_G} {ad ad1 : Nat → Nat} {cf cf1 : Nat → Option va_E} {r q n : Nat} {g : Nat → Nat} (h : mi_L D ad cf r q n g) (hr : cf1 r = cf r) (hq : cf1 q = cf q ∧ ad1 q = ad q) (hg : ∀ i, i < n → ad1 (g i) = ad (g i)) : mi_L D ad1 cf1 r q n g := by
  obtain ⟨mcn, ⟨rfl, h2⟩ | ⟨cap, f, h1, h2, h3, h4, h5, h6⟩⟩ := h
  · exact ⟨mcn, Or.inl ⟨rfl, by rw [hr]; exact h2⟩⟩
  · exact ⟨mcn, Or.inr ⟨cap, f, h1, h2, h3, by rw [hr, hq.2]; exact h4, by rw [hq.1]; exact h5, fun i hi => by rw [hg i hi]; exact h6 i hi⟩⟩
theorem c_addL (l : Launch) (D : va_G) (A : Nat → Prop) (hAu : ∀ a b, A a → a ≤ b → A b) {ad : Nat → Nat} {cf : Nat → Option va_E} {r q n ro ci : Nat} {g : Nat → Nat} {fo : List Value} {xo : vw_C} (hL : mi_L D ad cf r q n g) (hn : n ≤ 60) (hro : cf ro = some (.inr (ci, fo))) (hci : vwCl[ci]? = some xo) (hcast : (xo.1, mi_ob) ∈ mi_casts) (hr9 : r ≠ 999) (hq9 : q ≠ 999) (hrq : r ≠ q) (hor : ro ≠ r) (hoq : ro ≠ q) (ho9 : ro ≠ 999) (hf9 : cf 999 = none)
    (hg : ∀ i, i < n → (∃ fs, cf (g i) = some (.inr (ci, fs))) ∧ ad (g i) ≠ ad r ∧ g i ≠ q) : mi_Mi l yJx4a65c_add_9ea2d (Cond.code yJx4a65c_add_9ea2d cJx4a65c_add_9ea2d 2 (some Jvm.ClassFile.FieldType.boolean)) (mi_rq 6 1 1000) D A (mi_W D A ad cf) [.ref (ad r), .ref (ad ro)] 1 1000
      (fun x H => x = 1 ∧ ∃ ad1 cf1, mi_W D A ad1 cf1 H ∧ mi_L D ad1 cf1 r q (n + 1) (mi_un g n ro) ∧ (∀ k, k ≠ r → k ≠ q → cf1 k = cf k ∧ ad1 k = ad k) ∧ ad1 r = ad r) := by
  obtain ⟨mcn, ⟨rfl, h2⟩ | ⟨cap, f, h1, h2, h3, h4, h5, h6⟩⟩ := hL
  · refine mi_lessI (c_add_0 l D A hAu rfl h2 hr9 hrq rfl hro hci hcast hor hoq ho9) (fun x H hx => ?_)
    obtain ⟨hx, z, hW⟩ := hx
    refine ⟨hx, _, _, hW, ⟨mcn + nI 1, Or.inr ⟨10, va_up (fun _ => none) 0 (some (ad ro)), Nat.le_refl 10, by omega, by omega, ?_, (mi_up_n (Ne.symm hrq)).trans mi_up_s, fun i hi => ?_⟩⟩, fun k k1 k2 => ⟨(mi_up_n k1).trans (mi_up_n k2), mi_up_n k2⟩, mi_up_n hrq⟩
    · rw [mi_up_s, mi_up_s]
    · obtain rfl : i = 0 := by omega
      rw [mi_up_s, mi_un_s, mi_up_n hoq]
  · rcases Nat.lt_or_ge n cap with hc | hc
    · refine mi_lessI (c_add l D A hAu rfl rfl h4 h5 hc (by omega) hr9 hq9 hrq rfl hro hci hcast hor hoq ho9) (fun x H hx => ?_)
      obtain ⟨hx, hW⟩ := hx
      refine ⟨hx, _, _, hW, ⟨mcn + nI 1, Or.inr ⟨cap, va_up f n (some (ad ro)), h1, h2, by omega, mi_up_s, (mi_up_n (Ne.symm hrq)).trans mi_up_s, fun i hi => ?_⟩⟩, fun k k1 k2 => ⟨(mi_up_n k1).trans (mi_up_n k2), rfl⟩, rfl⟩
      by_cases e : i = n
      · rw [e, mi_up_s, mi_un_s]
      · rw [mi_up_n e, mi_un_n e]
        exact h6 i (by omega)
    · obtain rfl : n = cap := by omega
      refine mi_lessI (c_add_f l D A hAu rfl rfl h4 h5 (fun i hi y hy => ?_) h1 hn hr9 hq9 hrq hf9 rfl hro hci hcast hor hoq ho9 (fun i hi he => ?_)) (fun x H hx => ?_)
      · obtain ⟨⟨fs, e1⟩, -, -⟩ := hg i hi
        exact ⟨g i, ci, fs, xo, Option.some.inj (hy.symm.trans (h6 i hi)), e1, hci, hcast⟩
      · exact (hg i hi).2.1 (Option.some.inj ((h6 i hi).symm.trans he))
      · obtain ⟨hx, z, hW⟩ := hx
        refine ⟨hx, _, _, hW, ⟨mcn + nI 1, Or.inr ⟨n + n / 2, va_up (fun i => if i < n then f i else none) n (some (ad ro)), by omega, by omega, by omega, ?_, (mi_up_n (Ne.symm hrq)).trans mi_up_s, fun i hi => ?_⟩⟩, fun k k1 k2 => ⟨(mi_up_n k1).trans (mi_up_n k2), mi_up_n k2⟩, mi_up_n hrq⟩
        · rw [mi_up_s, mi_up_s]
        · by_cases e : i = n
          · rw [e, mi_up_s, mi_un_s, mi_up_n hoq]
          · rw [mi_up_n e, mi_un_n e, if_pos (by omega), mi_up_n (hg i (by omega)).2.2]
            exact h6 i (by omega)
