/-! THE CLAIM. -/
section LAST
theorem q_pure_ok : q_pure := fun _ _ hL => s_pure hL
theorem i_vc : Claimed_1_1 ∧ Claimed_1_2 := q_end q_checked_ok q_pure_ok
end LAST
