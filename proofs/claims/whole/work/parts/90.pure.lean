theorem tw_pure (L : Nat) (xs : Nat → Int32) (hL : L ≤ 2048) : ∃ σ1, tw_R L xs 100 tw_LAW (0, tw_ent tw_LAW [.ref 0], [], some 0, fun _ _ => 0) (some (.int 1), none, σ1) := sorry
