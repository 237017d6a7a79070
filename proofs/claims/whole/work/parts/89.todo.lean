/-! what is still owed of single calls -/
theorem tw_o_draft {L : Nat} {xs : Nat → Int32} (x : Int32) (y : Int32) : tw_op L xs 155 233 [.int x, .int y] := sorry
theorem tw_o_fewest {L : Nat} {xs : Nat → Int32} (x : Int32) : tw_op L xs 156 234 [.int x] := sorry
theorem tw_o_weaveDraft {L : Nat} {xs : Nat → Int32} : tw_op L xs 158 235 [] := sorry
