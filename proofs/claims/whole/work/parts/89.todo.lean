/-! what is still owed of single calls -/
theorem tw_o_weaveDraft {L : Nat} {xs : Nat → Int32} : tw_op L xs 158 235 [] := sorry
