/-! the first state -/
def st_0 : sT := fun k i _ => if k = 0 ∧ i = 0 then 1 else 0
theorem mo_kd_0 {l : Nat} (hl : l < 8) : mo_kd 0 l = nI 0 := by
  refine mo_kd_ext (y := 0) ?_ ?_ |>.trans ?_
  · rfl
  · rfl
  · refine b_ext (fun i hi => ?_)
    rcases Nat.lt_or_ge i 2 with h | h
    · rw [mo_kd_bt hl h, b_0]
      exact (b_0 i).symm
    · rw [mo_kd_hi h]
      exact (b_0 i).symm
theorem st_ok_st0 : st_ok st_0 := by
  refine ⟨⟨by decide, by decide, by decide, by decide, by decide⟩, fun i h1 h2 => ?_, fun i p h1 h2 => ?_, fun d c h1 => ?_, fun d h1 => ?_, fun i c h1 => ?_, fun i h1 => ?_⟩
  · have h2 : i < 1 := h2
    omega
  · show 0 < 4
    omega
  · exact absurd h1 (Nat.not_lt_zero _)
  · exact absurd h1 (Nat.not_lt_zero _)
  · exact absurd h1 (Nat.not_lt_zero _)
  · exact absurd h1 (Nat.not_lt_zero _)
