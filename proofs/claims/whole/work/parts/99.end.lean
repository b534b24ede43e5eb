def G : List Cond := lw_tbl.filter goodWord
theorem inG {w : Cond} (i : Nat) (h : lw_tbl[i]? = some w) (hg : goodWord w = true) : w ∈ G := List.mem_filter.mpr ⟨List.mem_of_getElem? h, hg⟩
theorem tst1 : (.classLink RX4 9 RJx4a65c : Cond) ∈ G := inG 62 rfl rfl
theorem tst2 : (.classLink RX4 9 RJx4a65c : Cond) ∈ G := inG 62 (by decide +kernel) rfl
theorem tst3 : (.code yX4_init cX4_init 1 none : Cond) ∈ G := inG 58 rfl rfl
theorem i_vc : Claimed_1_1 ∧ Claimed_1_2 := sorry
