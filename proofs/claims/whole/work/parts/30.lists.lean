/-! lists: list, set, get -/
section tw_s30
variable {L : Nat} {xs : Nat → Int32} {σ : tw_Mem} {x y w : Int32} {n r i c k h q a b e : Nat}
theorem tw_nne1 {s : Nat} (h : s < 2147483648) : ¬ nI s = (-1) := fun e => by
  have := congrArg Int32.toInt e
  rw [tw_ntoI h] at this
  have e2 : Int32.toInt (-1) = -1 := by decide
  omega
set_option maxHeartbeats 4000000 in
set_option maxRecDepth 100000 in
theorem tw_l_renew {L : Nat} {xs : Nat → Int32} {Q : Option Value → tw_Mem → Prop} {l s : Nat} (hl : l < 4) (hs : s ≤ 20) : ∀ (f : Nat) (j : Nat) (σ : tw_Mem), j + f = s → (∀ τ : tw_Mem, (∀ k i, ¬ (k = 86 ∧ l * 20 + j ≤ i ∧ i < l * 20 + s) → τ k i = σ k i) → (∀ i, j ≤ i → i < s → τ 86 (l * 20 + i) = nI 0) → Q none τ) → tw_P L xs 0 78 17 [.ref 85, .int (nI l), .int (nI s), .int (nI j)] [] σ Q := by
  intro f
  induction f with
  | zero =>
    intro j σ hf hQ
    refine tw_sg 2 (i1 := 19) (ls1 := [.ref 85, .int (nI l), .int (nI s), .int (nI j)]) (st1 := [.int (nI s), .int (nI j)]) (σ1 := σ) rfl ?_
    refine tw_biT (c := .ge) rfl (by rw [tw_cge, tw_nle (by omega) (by omega)] <;> omega) ?_
    show tw_P L xs _ 78 31 [.ref 85, .int (nI l), .int (nI s), .int (nI j)] [] σ _
    refine tw_rv rfl ?_
    exact hQ σ (fun _ _ _ => rfl) (fun i h1 h2 => by omega)
  | succ f ih =>
    intro j σ hf hQ
    refine tw_sg 2 (i1 := 19) (ls1 := [.ref 85, .int (nI l), .int (nI s), .int (nI j)]) (st1 := [.int (nI s), .int (nI j)]) (σ1 := σ) rfl ?_
    refine tw_biF (c := .ge) rfl (by rw [tw_cge', tw_nle (by omega) (by omega)] <;> omega) ?_
    show tw_P L xs _ 78 20 [.ref 85, .int (nI l), .int (nI s), .int (nI j)] [] σ _
    refine tw_sgn 8 (i1 := 28) (ls0 := [.ref 85, .int (nI l), .int (nI s), .int (nI j)]) (st0 := [.int (nI 0), .int ((nI l * nI 20) + nI j), .ref 86]) (σ0 := σ) (ls1 := [.ref 85, .int (nI l), .int (nI s), .int (nI j)]) (st1 := [.int (nI 0), .int (nI ((l * 20) + j)), .ref 86]) (σ1 := σ) rfl (rfl) (by simp only [tw_nadd, tw_nmul]) (rfl) ?_
    refine tw_as (k := 86) (j := ((l * 20) + j)) (len := 80) rfl rfl rfl (rfl) (by omega) (by decide) ?_
    refine tw_sgn 2 (i1 := 17) (ls0 := [.ref 85, .int (nI l), .int (nI s), .int (nI j + nI 1)]) (st0 := []) (σ0 := (tw_upd σ 86 ((l * 20) + j) (nI 0))) (ls1 := [.ref 85, .int (nI l), .int (nI s), .int (nI (j + 1))]) (st1 := []) (σ1 := (tw_upd σ 86 ((l * 20) + j) (nI 0))) rfl (by simp only [tw_nadd, tw_nmul]) (rfl) (rfl) ?_
    refine ih (j + 1) _ (by omega) (fun τ h1 h2 => hQ τ (fun k i h => ?_) (fun i h3 h4 => ?_))
    · rw [h1 k i (by omega), tw_upd_off (by omega)]
    · by_cases hij : i = j
      · subst hij; rw [h1 _ _ (by omega)]; exact tw_upd_at
      · exact h2 i (by omega) h4
set_option maxHeartbeats 4000000 in
set_option maxRecDepth 100000 in
theorem tw_l_list {L : Nat} {xs : Nat → Int32} {Q : Option Value → tw_Mem → Prop} {l : Nat} {y : Int32} (hl : l < 4) : ∀ (f : Nat) (j : Nat) (σ : tw_Mem), j + f = 20 → (∀ τ : tw_Mem, (∀ k i, ¬ (k = 119 ∧ 20 * l + j ≤ i ∧ i < 20 * l + 20) → τ k i = σ k i) → (∀ i, j ≤ i → i < 20 → τ 119 (20 * l + i) = nI 0) → Q (some (.int (nI 1))) τ) → tw_P L xs 0 251 26 [.ref 88, .int (nI l), .int y, .int (nI j)] [] σ Q := by
  intro f
  induction f with
  | zero =>
    intro j σ hf hQ
    refine tw_sg 2 (i1 := 28) (ls1 := [.ref 88, .int (nI l), .int y, .int (nI j)]) (st1 := [.int (nI 20), .int (nI j)]) (σ1 := σ) rfl ?_
    refine tw_biT (c := .ge) rfl (by rw [tw_cge, tw_nle (by omega) (by omega)] <;> omega) ?_
    show tw_P L xs _ 251 40 [.ref 88, .int (nI l), .int y, .int (nI j)] [] σ _
    refine tw_sg 1 (i1 := 41) (ls1 := [.ref 88, .int (nI l), .int y, .int (nI j)]) (st1 := [.int (nI 1)]) (σ1 := σ) rfl ?_
    refine tw_ri rfl (rfl) ?_
    exact hQ σ (fun _ _ _ => rfl) (fun i h1 h2 => by omega)
  | succ f ih =>
    intro j σ hf hQ
    refine tw_sg 2 (i1 := 28) (ls1 := [.ref 88, .int (nI l), .int y, .int (nI j)]) (st1 := [.int (nI 20), .int (nI j)]) (σ1 := σ) rfl ?_
    refine tw_biF (c := .ge) rfl (by rw [tw_cge', tw_nle (by omega) (by omega)] <;> omega) ?_
    show tw_P L xs _ 251 29 [.ref 88, .int (nI l), .int y, .int (nI j)] [] σ _
    refine tw_sgn 8 (i1 := 37) (ls0 := [.ref 88, .int (nI l), .int y, .int (nI j)]) (st0 := [.int (nI 0), .int ((nI 20 * nI l) + nI j), .ref 119]) (σ0 := σ) (ls1 := [.ref 88, .int (nI l), .int y, .int (nI j)]) (st1 := [.int (nI 0), .int (nI ((20 * l) + j)), .ref 119]) (σ1 := σ) rfl (rfl) (by simp only [tw_nadd, tw_nmul]) (rfl) ?_
    refine tw_as (k := 119) (j := ((20 * l) + j)) (len := 80) rfl rfl rfl (rfl) (by omega) (by decide) ?_
    refine tw_sgn 2 (i1 := 26) (ls0 := [.ref 88, .int (nI l), .int y, .int (nI j + nI 1)]) (st0 := []) (σ0 := (tw_upd σ 119 ((20 * l) + j) (nI 0))) (ls1 := [.ref 88, .int (nI l), .int y, .int (nI (j + 1))]) (st1 := []) (σ1 := (tw_upd σ 119 ((20 * l) + j) (nI 0))) rfl (by simp only [tw_nadd, tw_nmul]) (rfl) (rfl) ?_
    refine ih (j + 1) _ (by omega) (fun τ h1 h2 => hQ τ (fun k i h => ?_) (fun i h3 h4 => ?_))
    · rw [h1 k i (by omega), tw_upd_off (by omega)]
    · by_cases hij : i = j
      · subst hij; rw [h1 _ _ (by omega)]; exact tw_upd_at
      · exact h2 i (by omega) h4
set_option maxHeartbeats 4000000 in
set_option maxRecDepth 100000 in
theorem tw_o_set {L : Nat} {xs : Nat → Int32} (x : Int32) (y : Int32) (w : Int32) : tw_op L xs 171 252 [.int x, .int y, .int w] := by
  intro σ hI
  obtain ⟨hL, hT, hPp, hPc, hLs, hIm, hC14, hC46, hC72⟩ := id hI
  rcases tw_within x 4 (by decide) with ⟨l, hl, rfl⟩ | hx
  · rcases hLs l hl with ⟨e1, e2⟩ | ⟨s, hs, e1, e2, e3, e4⟩
    · skip
      show tw_P L xs _ 171 0 [.ref 1, .int (nI l), .int y, .int w] [] σ _
      refine tw_sg 3 (i1 := 3) (ls1 := [.ref 1, .int (nI l), .int y, .int w]) (st1 := [.int (nI l), .ref 85]) (σ1 := σ) rfl ?_
      refine tw_cl0 59 rfl (rfl) (by decide) ?_
      show tw_P L xs _ 74 0 [.ref 85, .int (nI l)] [] σ _
      refine tw_sg 1 (i1 := 1) (ls1 := [.ref 85, .int (nI l)]) (st1 := [.int (nI l)]) (σ1 := σ) rfl ?_
      refine tw_bzF (c := .lt) rfl (by rw [tw_clt', tw_nlt (by omega) (by omega)] <;> omega) ?_
      show tw_P L xs _ 74 2 [.ref 85, .int (nI l)] [] σ _
      refine tw_sg 2 (i1 := 4) (ls1 := [.ref 85, .int (nI l)]) (st1 := [.int (nI 4), .int (nI l)]) (σ1 := σ) rfl ?_
      refine tw_biF (c := .ge) rfl (by rw [tw_cge', tw_nle (by omega) (by omega)] <;> omega) ?_
      show tw_P L xs _ 74 5 [.ref 85, .int (nI l)] [] σ _
      refine tw_sg 2 (i1 := 8) (ls1 := [.ref 85, .int (nI l)]) (st1 := [.int (nI 1)]) (σ1 := σ) rfl ?_
      refine tw_ri rfl (rfl) ?_
      show tw_P L xs _ 171 4 [.ref 1, .int (nI l), .int y, .int w] [.int (nI 1)] σ _
      refine tw_bzT (c := .ne) rfl (by rw [tw_cne, tw_neq (by omega) (by omega)] <;> omega) ?_
      show tw_P L xs _ 171 7 [.ref 1, .int (nI l), .int y, .int w] [] σ _
      refine tw_sg 3 (i1 := 10) (ls1 := [.ref 1, .int (nI l), .int y, .int w]) (st1 := [.int (nI l), .ref 85]) (σ1 := σ) rfl ?_
      refine tw_cl0 59 rfl (rfl) (by decide) ?_
      show tw_P L xs _ 75 0 [.ref 85, .int (nI l)] [] σ _
      refine tw_sg 2 (i1 := 2) (ls1 := [.ref 85, .int (nI l)]) (st1 := [.int (nI l), .ref 85]) (σ1 := σ) rfl ?_
      refine tw_cl0 58 rfl (rfl) (by decide) ?_
      show tw_P L xs _ 74 0 [.ref 85, .int (nI l)] [] σ _
      refine tw_sg 1 (i1 := 1) (ls1 := [.ref 85, .int (nI l)]) (st1 := [.int (nI l)]) (σ1 := σ) rfl ?_
      refine tw_bzF (c := .lt) rfl (by rw [tw_clt', tw_nlt (by omega) (by omega)] <;> omega) ?_
      show tw_P L xs _ 74 2 [.ref 85, .int (nI l)] [] σ _
      refine tw_sg 2 (i1 := 4) (ls1 := [.ref 85, .int (nI l)]) (st1 := [.int (nI 4), .int (nI l)]) (σ1 := σ) rfl ?_
      refine tw_biF (c := .ge) rfl (by rw [tw_cge', tw_nle (by omega) (by omega)] <;> omega) ?_
      show tw_P L xs _ 74 5 [.ref 85, .int (nI l)] [] σ _
      refine tw_sg 2 (i1 := 8) (ls1 := [.ref 85, .int (nI l)]) (st1 := [.int (nI 1)]) (σ1 := σ) rfl ?_
      refine tw_ri rfl (rfl) ?_
      show tw_P L xs _ 75 3 [.ref 85, .int (nI l)] [.int (nI 1)] σ _
      refine tw_bzF (c := .eq) rfl (by rw [tw_ceq', tw_neq (by omega) (by omega)] <;> omega) ?_
      show tw_P L xs _ 75 4 [.ref 85, .int (nI l)] [] σ _
      refine tw_sg 3 (i1 := 7) (ls1 := [.ref 85, .int (nI l)]) (st1 := [.int (nI l), .ref 87]) (σ1 := σ) rfl ?_
      refine tw_al (k := 87) (j := l) (len := 4) rfl rfl rfl rfl (rfl) (by omega) (by decide) ?_
      rw [e1]
      refine tw_sg 1 (i1 := 9) (ls1 := [.ref 85, .int (nI l)]) (st1 := [.int (-1), .int (-1)]) (σ1 := σ) rfl ?_
      refine tw_biF (c := .ne) rfl (by rw [tw_cne'] <;> (exact rfl)) ?_
      show tw_P L xs _ 75 10 [.ref 85, .int (nI l)] [] σ _
      refine tw_sg 2 (i1 := 13) (ls1 := [.ref 85, .int (nI l)]) (st1 := [.int (nI 1)]) (σ1 := σ) rfl ?_
      refine tw_ri rfl (rfl) ?_
      show tw_P L xs _ 171 11 [.ref 1, .int (nI l), .int y, .int w] [.int (nI 1)] σ _
      refine tw_bzF (c := .eq) rfl (by rw [tw_ceq', tw_neq (by omega) (by omega)] <;> omega) ?_
      show tw_P L xs _ 171 12 [.ref 1, .int (nI l), .int y, .int w] [] σ _
      refine tw_sg 1 (i1 := 13) (ls1 := [.ref 1, .int (nI l), .int y, .int w]) (st1 := [.int (-11)]) (σ1 := σ) rfl ?_
      refine tw_ri rfl (rfl) ?_
      refine ⟨_, rfl, ?_⟩
      show tw_P L xs _ 252 0 [.ref 88, .int (nI l), .int y, .int w] [] σ _
      refine tw_sg 1 (i1 := 1) (ls1 := [.ref 88, .int (nI l), .int y, .int w]) (st1 := [.int (nI l)]) (σ1 := σ) rfl ?_
      refine tw_cl0 59 rfl (rfl) (by decide) ?_
      show tw_P L xs _ 250 0 [.int (nI l)] [] σ _
      refine tw_sg 3 (i1 := 3) (ls1 := [.int (nI l)]) (st1 := [.int (nI 3), .int (nI 0), .int (nI l)]) (σ1 := σ) rfl ?_
      refine tw_cl0 58 rfl (rfl) (by decide) ?_
      show tw_P L xs _ 182 0 [.int (nI l), .int (nI 0), .int (nI 3)] [] σ _
      refine tw_sg 2 (i1 := 2) (ls1 := [.int (nI l), .int (nI 0), .int (nI 3)]) (st1 := [.int (nI 0), .int (nI l)]) (σ1 := σ) rfl ?_
      refine tw_biF (c := .lt) rfl (by rw [tw_clt', tw_nlt (by omega) (by omega)] <;> omega) ?_
      show tw_P L xs _ 182 3 [.int (nI l), .int (nI 0), .int (nI 3)] [] σ _
      refine tw_sg 2 (i1 := 5) (ls1 := [.int (nI l), .int (nI 0), .int (nI 3)]) (st1 := [.int (nI 3), .int (nI l)]) (σ1 := σ) rfl ?_
      refine tw_biF (c := .gt) rfl (by rw [tw_cgt', tw_nlt (by omega) (by omega)] <;> omega) ?_
      show tw_P L xs _ 182 6 [.int (nI l), .int (nI 0), .int (nI 3)] [] σ _
      refine tw_sg 2 (i1 := 9) (ls1 := [.int (nI l), .int (nI 0), .int (nI 3)]) (st1 := [.int (nI 1)]) (σ1 := σ) rfl ?_
      refine tw_ri rfl (rfl) ?_
      show tw_P L xs _ 250 4 [.int (nI l)] [.int (nI 1)] σ _
      refine tw_ri rfl (rfl) ?_
      show tw_P L xs _ 252 2 [.ref 88, .int (nI l), .int y, .int w] [.int (nI 1)] σ _
      refine tw_bzT (c := .ne) rfl (by rw [tw_cne, tw_neq (by omega) (by omega)] <;> omega) ?_
      show tw_P L xs _ 252 5 [.ref 88, .int (nI l), .int y, .int w] [] σ _
      refine tw_sg 3 (i1 := 8) (ls1 := [.ref 88, .int (nI l), .int y, .int w]) (st1 := [.int (nI l), .ref 117]) (σ1 := σ) rfl ?_
      refine tw_alb (k := 117) (j := l) (len := 4) rfl rfl (by decide) rfl (rfl) (by omega) (by decide) ?_
      rw [e2]
      refine tw_bzF (c := .ne) rfl (by rw [tw_cne', tw_neq (by omega) (by omega)] <;> omega) ?_
      show tw_P L xs _ 252 10 [.ref 88, .int (nI l), .int y, .int w] [] σ _
      refine tw_sg 1 (i1 := 11) (ls1 := [.ref 88, .int (nI l), .int y, .int w]) (st1 := [.int (-11)]) (σ1 := σ) rfl ?_
      refine tw_ri rfl (rfl) ?_
      exact ⟨rfl, hI⟩
    · rcases tw_within y s (by omega) with ⟨i, hi, rfl⟩ | hy
      · skip
        show tw_P L xs _ 171 0 [.ref 1, .int (nI l), .int (nI i), .int w] [] σ _
        refine tw_sg 3 (i1 := 3) (ls1 := [.ref 1, .int (nI l), .int (nI i), .int w]) (st1 := [.int (nI l), .ref 85]) (σ1 := σ) rfl ?_
        refine tw_cl0 59 rfl (rfl) (by decide) ?_
        show tw_P L xs _ 74 0 [.ref 85, .int (nI l)] [] σ _
        refine tw_sg 1 (i1 := 1) (ls1 := [.ref 85, .int (nI l)]) (st1 := [.int (nI l)]) (σ1 := σ) rfl ?_
        refine tw_bzF (c := .lt) rfl (by rw [tw_clt', tw_nlt (by omega) (by omega)] <;> omega) ?_
        show tw_P L xs _ 74 2 [.ref 85, .int (nI l)] [] σ _
        refine tw_sg 2 (i1 := 4) (ls1 := [.ref 85, .int (nI l)]) (st1 := [.int (nI 4), .int (nI l)]) (σ1 := σ) rfl ?_
        refine tw_biF (c := .ge) rfl (by rw [tw_cge', tw_nle (by omega) (by omega)] <;> omega) ?_
        show tw_P L xs _ 74 5 [.ref 85, .int (nI l)] [] σ _
        refine tw_sg 2 (i1 := 8) (ls1 := [.ref 85, .int (nI l)]) (st1 := [.int (nI 1)]) (σ1 := σ) rfl ?_
        refine tw_ri rfl (rfl) ?_
        show tw_P L xs _ 171 4 [.ref 1, .int (nI l), .int (nI i), .int w] [.int (nI 1)] σ _
        refine tw_bzT (c := .ne) rfl (by rw [tw_cne, tw_neq (by omega) (by omega)] <;> omega) ?_
        show tw_P L xs _ 171 7 [.ref 1, .int (nI l), .int (nI i), .int w] [] σ _
        refine tw_sg 3 (i1 := 10) (ls1 := [.ref 1, .int (nI l), .int (nI i), .int w]) (st1 := [.int (nI l), .ref 85]) (σ1 := σ) rfl ?_
        refine tw_cl0 59 rfl (rfl) (by decide) ?_
        show tw_P L xs _ 75 0 [.ref 85, .int (nI l)] [] σ _
        refine tw_sg 2 (i1 := 2) (ls1 := [.ref 85, .int (nI l)]) (st1 := [.int (nI l), .ref 85]) (σ1 := σ) rfl ?_
        refine tw_cl0 58 rfl (rfl) (by decide) ?_
        show tw_P L xs _ 74 0 [.ref 85, .int (nI l)] [] σ _
        refine tw_sg 1 (i1 := 1) (ls1 := [.ref 85, .int (nI l)]) (st1 := [.int (nI l)]) (σ1 := σ) rfl ?_
        refine tw_bzF (c := .lt) rfl (by rw [tw_clt', tw_nlt (by omega) (by omega)] <;> omega) ?_
        show tw_P L xs _ 74 2 [.ref 85, .int (nI l)] [] σ _
        refine tw_sg 2 (i1 := 4) (ls1 := [.ref 85, .int (nI l)]) (st1 := [.int (nI 4), .int (nI l)]) (σ1 := σ) rfl ?_
        refine tw_biF (c := .ge) rfl (by rw [tw_cge', tw_nle (by omega) (by omega)] <;> omega) ?_
        show tw_P L xs _ 74 5 [.ref 85, .int (nI l)] [] σ _
        refine tw_sg 2 (i1 := 8) (ls1 := [.ref 85, .int (nI l)]) (st1 := [.int (nI 1)]) (σ1 := σ) rfl ?_
        refine tw_ri rfl (rfl) ?_
        show tw_P L xs _ 75 3 [.ref 85, .int (nI l)] [.int (nI 1)] σ _
        refine tw_bzF (c := .eq) rfl (by rw [tw_ceq', tw_neq (by omega) (by omega)] <;> omega) ?_
        show tw_P L xs _ 75 4 [.ref 85, .int (nI l)] [] σ _
        refine tw_sg 3 (i1 := 7) (ls1 := [.ref 85, .int (nI l)]) (st1 := [.int (nI l), .ref 87]) (σ1 := σ) rfl ?_
        refine tw_al (k := 87) (j := l) (len := 4) rfl rfl rfl rfl (rfl) (by omega) (by decide) ?_
        rw [e1]
        refine tw_sg 1 (i1 := 9) (ls1 := [.ref 85, .int (nI l)]) (st1 := [.int (-1), .int (nI s)]) (σ1 := σ) rfl ?_
        refine tw_biT (c := .ne) rfl (by rw [tw_cne] <;> (exact (tw_nne1 (by omega)))) ?_
        show tw_P L xs _ 75 12 [.ref 85, .int (nI l)] [] σ _
        refine tw_sg 1 (i1 := 13) (ls1 := [.ref 85, .int (nI l)]) (st1 := [.int (nI 0)]) (σ1 := σ) rfl ?_
        refine tw_ri rfl (rfl) ?_
        show tw_P L xs _ 171 11 [.ref 1, .int (nI l), .int (nI i), .int w] [.int (nI 0)] σ _
        refine tw_bzT (c := .eq) rfl (by rw [tw_ceq, tw_neq (by omega) (by omega)] <;> omega) ?_
        show tw_P L xs _ 171 14 [.ref 1, .int (nI l), .int (nI i), .int w] [] σ _
        refine tw_sg 4 (i1 := 18) (ls1 := [.ref 1, .int (nI l), .int (nI i), .int w]) (st1 := [.int (nI i), .int (nI l), .ref 85]) (σ1 := σ) rfl ?_
        refine tw_cl0 59 rfl (rfl) (by decide) ?_
        show tw_P L xs _ 76 0 [.ref 85, .int (nI l), .int (nI i)] [] σ _
        refine tw_sg 2 (i1 := 2) (ls1 := [.ref 85, .int (nI l), .int (nI i)]) (st1 := [.int (nI l), .ref 85]) (σ1 := σ) rfl ?_
        refine tw_cl0 58 rfl (rfl) (by decide) ?_
        show tw_P L xs _ 74 0 [.ref 85, .int (nI l)] [] σ _
        refine tw_sg 1 (i1 := 1) (ls1 := [.ref 85, .int (nI l)]) (st1 := [.int (nI l)]) (σ1 := σ) rfl ?_
        refine tw_bzF (c := .lt) rfl (by rw [tw_clt', tw_nlt (by omega) (by omega)] <;> omega) ?_
        show tw_P L xs _ 74 2 [.ref 85, .int (nI l)] [] σ _
        refine tw_sg 2 (i1 := 4) (ls1 := [.ref 85, .int (nI l)]) (st1 := [.int (nI 4), .int (nI l)]) (σ1 := σ) rfl ?_
        refine tw_biF (c := .ge) rfl (by rw [tw_cge', tw_nle (by omega) (by omega)] <;> omega) ?_
        show tw_P L xs _ 74 5 [.ref 85, .int (nI l)] [] σ _
        refine tw_sg 2 (i1 := 8) (ls1 := [.ref 85, .int (nI l)]) (st1 := [.int (nI 1)]) (σ1 := σ) rfl ?_
        refine tw_ri rfl (rfl) ?_
        show tw_P L xs _ 76 3 [.ref 85, .int (nI l), .int (nI i)] [.int (nI 1)] σ _
        refine tw_bzF (c := .eq) rfl (by rw [tw_ceq', tw_neq (by omega) (by omega)] <;> omega) ?_
        show tw_P L xs _ 76 4 [.ref 85, .int (nI l), .int (nI i)] [] σ _
        refine tw_sg 1 (i1 := 5) (ls1 := [.ref 85, .int (nI l), .int (nI i)]) (st1 := [.int (nI i)]) (σ1 := σ) rfl ?_
        refine tw_bzF (c := .lt) rfl (by rw [tw_clt', tw_nlt (by omega) (by omega)] <;> omega) ?_
        show tw_P L xs _ 76 6 [.ref 85, .int (nI l), .int (nI i)] [] σ _
        refine tw_sg 4 (i1 := 10) (ls1 := [.ref 85, .int (nI l), .int (nI i)]) (st1 := [.int (nI l), .ref 87, .int (nI i)]) (σ1 := σ) rfl ?_
        refine tw_al (k := 87) (j := l) (len := 4) rfl rfl rfl rfl (rfl) (by omega) (by decide) ?_
        rw [e1]
        refine tw_biF (c := .ge) rfl (by rw [tw_cge', tw_nle (by omega) (by omega)] <;> omega) ?_
        show tw_P L xs _ 76 12 [.ref 85, .int (nI l), .int (nI i)] [] σ _
        refine tw_sg 2 (i1 := 15) (ls1 := [.ref 85, .int (nI l), .int (nI i)]) (st1 := [.int (nI 1)]) (σ1 := σ) rfl ?_
        refine tw_ri rfl (rfl) ?_
        show tw_P L xs _ 171 19 [.ref 1, .int (nI l), .int (nI i), .int w] [.int (nI 1)] σ _
        refine tw_bzT (c := .ne) rfl (by rw [tw_cne, tw_neq (by omega) (by omega)] <;> omega) ?_
        show tw_P L xs _ 171 22 [.ref 1, .int (nI l), .int (nI i), .int w] [] σ _
        refine tw_sg 5 (i1 := 27) (ls1 := [.ref 1, .int (nI l), .int (nI i), .int w]) (st1 := [.int w, .int (nI i), .int (nI l), .ref 85]) (σ1 := σ) rfl ?_
        refine tw_cl0 59 rfl (rfl) (by decide) ?_
        show tw_P L xs _ 80 0 [.ref 85, .int (nI l), .int (nI i), .int w] [] σ _
        refine tw_sg 3 (i1 := 3) (ls1 := [.ref 85, .int (nI l), .int (nI i), .int w]) (st1 := [.int (nI i), .int (nI l), .ref 85]) (σ1 := σ) rfl ?_
        refine tw_cl0 58 rfl (rfl) (by decide) ?_
        show tw_P L xs _ 76 0 [.ref 85, .int (nI l), .int (nI i)] [] σ _
        refine tw_sg 2 (i1 := 2) (ls1 := [.ref 85, .int (nI l), .int (nI i)]) (st1 := [.int (nI l), .ref 85]) (σ1 := σ) rfl ?_
        refine tw_cl0 57 rfl (rfl) (by decide) ?_
        show tw_P L xs _ 74 0 [.ref 85, .int (nI l)] [] σ _
        refine tw_sg 1 (i1 := 1) (ls1 := [.ref 85, .int (nI l)]) (st1 := [.int (nI l)]) (σ1 := σ) rfl ?_
        refine tw_bzF (c := .lt) rfl (by rw [tw_clt', tw_nlt (by omega) (by omega)] <;> omega) ?_
        show tw_P L xs _ 74 2 [.ref 85, .int (nI l)] [] σ _
        refine tw_sg 2 (i1 := 4) (ls1 := [.ref 85, .int (nI l)]) (st1 := [.int (nI 4), .int (nI l)]) (σ1 := σ) rfl ?_
        refine tw_biF (c := .ge) rfl (by rw [tw_cge', tw_nle (by omega) (by omega)] <;> omega) ?_
        show tw_P L xs _ 74 5 [.ref 85, .int (nI l)] [] σ _
        refine tw_sg 2 (i1 := 8) (ls1 := [.ref 85, .int (nI l)]) (st1 := [.int (nI 1)]) (σ1 := σ) rfl ?_
        refine tw_ri rfl (rfl) ?_
        show tw_P L xs _ 76 3 [.ref 85, .int (nI l), .int (nI i)] [.int (nI 1)] σ _
        refine tw_bzF (c := .eq) rfl (by rw [tw_ceq', tw_neq (by omega) (by omega)] <;> omega) ?_
        show tw_P L xs _ 76 4 [.ref 85, .int (nI l), .int (nI i)] [] σ _
        refine tw_sg 1 (i1 := 5) (ls1 := [.ref 85, .int (nI l), .int (nI i)]) (st1 := [.int (nI i)]) (σ1 := σ) rfl ?_
        refine tw_bzF (c := .lt) rfl (by rw [tw_clt', tw_nlt (by omega) (by omega)] <;> omega) ?_
        show tw_P L xs _ 76 6 [.ref 85, .int (nI l), .int (nI i)] [] σ _
        refine tw_sg 4 (i1 := 10) (ls1 := [.ref 85, .int (nI l), .int (nI i)]) (st1 := [.int (nI l), .ref 87, .int (nI i)]) (σ1 := σ) rfl ?_
        refine tw_al (k := 87) (j := l) (len := 4) rfl rfl rfl rfl (rfl) (by omega) (by decide) ?_
        rw [e1]
        refine tw_biF (c := .ge) rfl (by rw [tw_cge', tw_nle (by omega) (by omega)] <;> omega) ?_
        show tw_P L xs _ 76 12 [.ref 85, .int (nI l), .int (nI i)] [] σ _
        refine tw_sg 2 (i1 := 15) (ls1 := [.ref 85, .int (nI l), .int (nI i)]) (st1 := [.int (nI 1)]) (σ1 := σ) rfl ?_
        refine tw_ri rfl (rfl) ?_
        show tw_P L xs _ 80 4 [.ref 85, .int (nI l), .int (nI i), .int w] [.int (nI 1)] σ _
        refine tw_bzF (c := .eq) rfl (by rw [tw_ceq', tw_neq (by omega) (by omega)] <;> omega) ?_
        show tw_P L xs _ 80 5 [.ref 85, .int (nI l), .int (nI i), .int w] [] σ _
        refine tw_sgn 8 (i1 := 13) (ls0 := [.ref 85, .int (nI l), .int (nI i), .int w]) (st0 := [.int w, .int ((nI l * nI 20) + nI i), .ref 86]) (σ0 := σ) (ls1 := [.ref 85, .int (nI l), .int (nI i), .int w]) (st1 := [.int w, .int (nI ((l * 20) + i)), .ref 86]) (σ1 := σ) rfl (rfl) (by simp only [tw_nadd, tw_nmul]) (rfl) ?_
        refine tw_as (k := 86) (j := ((l * 20) + i)) (len := 80) rfl rfl rfl (rfl) (by omega) (by decide) ?_
        refine tw_rv rfl ?_
        show tw_P L xs _ 171 28 [.ref 1, .int (nI l), .int (nI i), .int w] [] (tw_upd σ 86 ((l * 20) + i) w) _
        refine tw_sg 1 (i1 := 29) (ls1 := [.ref 1, .int (nI l), .int (nI i), .int w]) (st1 := [.int (nI 1)]) (σ1 := (tw_upd σ 86 ((l * 20) + i) w)) rfl ?_
        refine tw_ri rfl (rfl) ?_
        refine ⟨_, rfl, ?_⟩
        show tw_P L xs _ 252 0 [.ref 88, .int (nI l), .int (nI i), .int w] [] (tw_upd σ 86 ((l * 20) + i) w) _
        refine tw_sg 1 (i1 := 1) (ls1 := [.ref 88, .int (nI l), .int (nI i), .int w]) (st1 := [.int (nI l)]) (σ1 := (tw_upd σ 86 ((l * 20) + i) w)) rfl ?_
        refine tw_cl0 59 rfl (rfl) (by decide) ?_
        show tw_P L xs _ 250 0 [.int (nI l)] [] (tw_upd σ 86 ((l * 20) + i) w) _
        refine tw_sg 3 (i1 := 3) (ls1 := [.int (nI l)]) (st1 := [.int (nI 3), .int (nI 0), .int (nI l)]) (σ1 := (tw_upd σ 86 ((l * 20) + i) w)) rfl ?_
        refine tw_cl0 58 rfl (rfl) (by decide) ?_
        show tw_P L xs _ 182 0 [.int (nI l), .int (nI 0), .int (nI 3)] [] (tw_upd σ 86 ((l * 20) + i) w) _
        refine tw_sg 2 (i1 := 2) (ls1 := [.int (nI l), .int (nI 0), .int (nI 3)]) (st1 := [.int (nI 0), .int (nI l)]) (σ1 := (tw_upd σ 86 ((l * 20) + i) w)) rfl ?_
        refine tw_biF (c := .lt) rfl (by rw [tw_clt', tw_nlt (by omega) (by omega)] <;> omega) ?_
        show tw_P L xs _ 182 3 [.int (nI l), .int (nI 0), .int (nI 3)] [] (tw_upd σ 86 ((l * 20) + i) w) _
        refine tw_sg 2 (i1 := 5) (ls1 := [.int (nI l), .int (nI 0), .int (nI 3)]) (st1 := [.int (nI 3), .int (nI l)]) (σ1 := (tw_upd σ 86 ((l * 20) + i) w)) rfl ?_
        refine tw_biF (c := .gt) rfl (by rw [tw_cgt', tw_nlt (by omega) (by omega)] <;> omega) ?_
        show tw_P L xs _ 182 6 [.int (nI l), .int (nI 0), .int (nI 3)] [] (tw_upd σ 86 ((l * 20) + i) w) _
        refine tw_sg 2 (i1 := 9) (ls1 := [.int (nI l), .int (nI 0), .int (nI 3)]) (st1 := [.int (nI 1)]) (σ1 := (tw_upd σ 86 ((l * 20) + i) w)) rfl ?_
        refine tw_ri rfl (rfl) ?_
        show tw_P L xs _ 250 4 [.int (nI l)] [.int (nI 1)] (tw_upd σ 86 ((l * 20) + i) w) _
        refine tw_ri rfl (rfl) ?_
        show tw_P L xs _ 252 2 [.ref 88, .int (nI l), .int (nI i), .int w] [.int (nI 1)] (tw_upd σ 86 ((l * 20) + i) w) _
        refine tw_bzT (c := .ne) rfl (by rw [tw_cne, tw_neq (by omega) (by omega)] <;> omega) ?_
        show tw_P L xs _ 252 5 [.ref 88, .int (nI l), .int (nI i), .int w] [] (tw_upd σ 86 ((l * 20) + i) w) _
        refine tw_sg 3 (i1 := 8) (ls1 := [.ref 88, .int (nI l), .int (nI i), .int w]) (st1 := [.int (nI l), .ref 117]) (σ1 := (tw_upd σ 86 ((l * 20) + i) w)) rfl ?_
        refine tw_alb (k := 117) (j := l) (len := 4) rfl rfl (by decide) rfl (rfl) (by omega) (by decide) ?_
        rw [show (tw_upd σ 86 ((l * 20) + i) w) 117 l = σ 117 l from by repeat (first | exact rfl | exact tw_upd_at | rw [tw_upd_off (by omega)]), e2]
        refine tw_bzT (c := .ne) rfl (by rw [tw_cne, tw_neq (by omega) (by omega)] <;> omega) ?_
        show tw_P L xs _ 252 12 [.ref 88, .int (nI l), .int (nI i), .int w] [] (tw_upd σ 86 ((l * 20) + i) w) _
        refine tw_sg 5 (i1 := 17) (ls1 := [.ref 88, .int (nI l), .int (nI i), .int w]) (st1 := [.int (nI l), .ref 118, .int (nI 0), .int (nI i)]) (σ1 := (tw_upd σ 86 ((l * 20) + i) w)) rfl ?_
        refine tw_al (k := 118) (j := l) (len := 4) rfl rfl rfl rfl (rfl) (by omega) (by decide) ?_
        rw [show (tw_upd σ 86 ((l * 20) + i) w) 118 l = σ 118 l from by repeat (first | exact rfl | exact tw_upd_at | rw [tw_upd_off (by omega)]), e3]
        refine tw_sg 2 (i1 := 20) (ls1 := [.ref 88, .int (nI l), .int (nI i), .int w]) (st1 := [.int (nI s - nI 1), .int (nI 0), .int (nI i)]) (σ1 := (tw_upd σ 86 ((l * 20) + i) w)) rfl ?_
        refine tw_cl1 rfl (rfl) (by decide) (tw_e_inN1 hi (by omega)) ?_
        rintro _ _ ⟨rfl, rfl⟩
        show tw_P L xs _ 252 21 [.ref 88, .int (nI l), .int (nI i), .int w] [.int (nI 1)] (tw_upd σ 86 ((l * 20) + i) w) _
        refine tw_bzT (c := .ne) rfl (by rw [tw_cne, tw_neq (by omega) (by omega)] <;> omega) ?_
        show tw_P L xs _ 252 24 [.ref 88, .int (nI l), .int (nI i), .int w] [] (tw_upd σ 86 ((l * 20) + i) w) _
        refine tw_sgn 8 (i1 := 32) (ls0 := [.ref 88, .int (nI l), .int (nI i), .int w]) (st0 := [.int w, .int ((nI 20 * nI l) + nI i), .ref 119]) (σ0 := (tw_upd σ 86 ((l * 20) + i) w)) (ls1 := [.ref 88, .int (nI l), .int (nI i), .int w]) (st1 := [.int w, .int (nI ((20 * l) + i)), .ref 119]) (σ1 := (tw_upd σ 86 ((l * 20) + i) w)) rfl (rfl) (by simp only [tw_nadd, tw_nmul]) (rfl) ?_
        refine tw_as (k := 119) (j := ((20 * l) + i)) (len := 80) rfl rfl rfl (rfl) (by omega) (by decide) ?_
        refine tw_sg 1 (i1 := 34) (ls1 := [.ref 88, .int (nI l), .int (nI i), .int w]) (st1 := [.int (nI 1)]) (σ1 := (tw_upd (tw_upd σ 86 ((l * 20) + i) w) 119 ((20 * l) + i) w)) rfl ?_
        refine tw_ri rfl (rfl) ?_
        refine ⟨rfl, hI.lists (fun l2 hl2 => ?_) (fun k1 j h => by rw [tw_upd_off (fun g => h (by unfold tw_fLists; omega)), tw_upd_off (fun g => h (by unfold tw_fLists; omega))])⟩
        generalize hτ : (tw_upd (tw_upd σ 86 ((l * 20) + i) w) 119 ((20 * l) + i) w) = τ
        have t1 : τ 86 (l * 20 + i) = w := by rw [← hτ, tw_upd_off (by omega)]; exact tw_upd_at
        have t2 : τ 119 (20 * l + i) = w := by rw [← hτ]; exact tw_upd_at
        have t5 : ∀ k1 j, ¬ (k1 = 86 ∧ j = l * 20 + i) → ¬ (k1 = 119 ∧ j = 20 * l + i) → τ k1 j = σ k1 j := fun k1 j h1 h2 => by rw [← hτ, tw_upd_off h2, tw_upd_off h1]
        rw [t5 87 l2 (by omega) (by omega), t5 117 l2 (by omega) (by omega), t5 118 l2 (by omega) (by omega)]
        rcases hLs l2 hl2 with g | ⟨s2, g0, g1, g2, g3, g4⟩
        · exact Or.inl g
        · refine Or.inr ⟨s2, g0, g1, g2, g3, fun i2 hi2 => ?_⟩
          by_cases hz : l2 = l ∧ i2 = i
          · rw [hz.1, hz.2, t1, t2]
          · rw [t5 86 _ (by omega) (by omega), t5 119 _ (by omega) (by omega)]; exact g4 i2 hi2
      · have hy0 := hy
        rcases hy with hy | ⟨hy, hy2⟩
        · skip
          show tw_P L xs _ 171 0 [.ref 1, .int (nI l), .int y, .int w] [] σ _
          refine tw_sg 3 (i1 := 3) (ls1 := [.ref 1, .int (nI l), .int y, .int w]) (st1 := [.int (nI l), .ref 85]) (σ1 := σ) rfl ?_
          refine tw_cl0 59 rfl (rfl) (by decide) ?_
          show tw_P L xs _ 74 0 [.ref 85, .int (nI l)] [] σ _
          refine tw_sg 1 (i1 := 1) (ls1 := [.ref 85, .int (nI l)]) (st1 := [.int (nI l)]) (σ1 := σ) rfl ?_
          refine tw_bzF (c := .lt) rfl (by rw [tw_clt', tw_nlt (by omega) (by omega)] <;> omega) ?_
          show tw_P L xs _ 74 2 [.ref 85, .int (nI l)] [] σ _
          refine tw_sg 2 (i1 := 4) (ls1 := [.ref 85, .int (nI l)]) (st1 := [.int (nI 4), .int (nI l)]) (σ1 := σ) rfl ?_
          refine tw_biF (c := .ge) rfl (by rw [tw_cge', tw_nle (by omega) (by omega)] <;> omega) ?_
          show tw_P L xs _ 74 5 [.ref 85, .int (nI l)] [] σ _
          refine tw_sg 2 (i1 := 8) (ls1 := [.ref 85, .int (nI l)]) (st1 := [.int (nI 1)]) (σ1 := σ) rfl ?_
          refine tw_ri rfl (rfl) ?_
          show tw_P L xs _ 171 4 [.ref 1, .int (nI l), .int y, .int w] [.int (nI 1)] σ _
          refine tw_bzT (c := .ne) rfl (by rw [tw_cne, tw_neq (by omega) (by omega)] <;> omega) ?_
          show tw_P L xs _ 171 7 [.ref 1, .int (nI l), .int y, .int w] [] σ _
          refine tw_sg 3 (i1 := 10) (ls1 := [.ref 1, .int (nI l), .int y, .int w]) (st1 := [.int (nI l), .ref 85]) (σ1 := σ) rfl ?_
          refine tw_cl0 59 rfl (rfl) (by decide) ?_
          show tw_P L xs _ 75 0 [.ref 85, .int (nI l)] [] σ _
          refine tw_sg 2 (i1 := 2) (ls1 := [.ref 85, .int (nI l)]) (st1 := [.int (nI l), .ref 85]) (σ1 := σ) rfl ?_
          refine tw_cl0 58 rfl (rfl) (by decide) ?_
          show tw_P L xs _ 74 0 [.ref 85, .int (nI l)] [] σ _
          refine tw_sg 1 (i1 := 1) (ls1 := [.ref 85, .int (nI l)]) (st1 := [.int (nI l)]) (σ1 := σ) rfl ?_
          refine tw_bzF (c := .lt) rfl (by rw [tw_clt', tw_nlt (by omega) (by omega)] <;> omega) ?_
          show tw_P L xs _ 74 2 [.ref 85, .int (nI l)] [] σ _
          refine tw_sg 2 (i1 := 4) (ls1 := [.ref 85, .int (nI l)]) (st1 := [.int (nI 4), .int (nI l)]) (σ1 := σ) rfl ?_
          refine tw_biF (c := .ge) rfl (by rw [tw_cge', tw_nle (by omega) (by omega)] <;> omega) ?_
          show tw_P L xs _ 74 5 [.ref 85, .int (nI l)] [] σ _
          refine tw_sg 2 (i1 := 8) (ls1 := [.ref 85, .int (nI l)]) (st1 := [.int (nI 1)]) (σ1 := σ) rfl ?_
          refine tw_ri rfl (rfl) ?_
          show tw_P L xs _ 75 3 [.ref 85, .int (nI l)] [.int (nI 1)] σ _
          refine tw_bzF (c := .eq) rfl (by rw [tw_ceq', tw_neq (by omega) (by omega)] <;> omega) ?_
          show tw_P L xs _ 75 4 [.ref 85, .int (nI l)] [] σ _
          refine tw_sg 3 (i1 := 7) (ls1 := [.ref 85, .int (nI l)]) (st1 := [.int (nI l), .ref 87]) (σ1 := σ) rfl ?_
          refine tw_al (k := 87) (j := l) (len := 4) rfl rfl rfl rfl (rfl) (by omega) (by decide) ?_
          rw [e1]
          refine tw_sg 1 (i1 := 9) (ls1 := [.ref 85, .int (nI l)]) (st1 := [.int (-1), .int (nI s)]) (σ1 := σ) rfl ?_
          refine tw_biT (c := .ne) rfl (by rw [tw_cne] <;> (exact (tw_nne1 (by omega)))) ?_
          show tw_P L xs _ 75 12 [.ref 85, .int (nI l)] [] σ _
          refine tw_sg 1 (i1 := 13) (ls1 := [.ref 85, .int (nI l)]) (st1 := [.int (nI 0)]) (σ1 := σ) rfl ?_
          refine tw_ri rfl (rfl) ?_
          show tw_P L xs _ 171 11 [.ref 1, .int (nI l), .int y, .int w] [.int (nI 0)] σ _
          refine tw_bzT (c := .eq) rfl (by rw [tw_ceq, tw_neq (by omega) (by omega)] <;> omega) ?_
          show tw_P L xs _ 171 14 [.ref 1, .int (nI l), .int y, .int w] [] σ _
          refine tw_sg 4 (i1 := 18) (ls1 := [.ref 1, .int (nI l), .int y, .int w]) (st1 := [.int y, .int (nI l), .ref 85]) (σ1 := σ) rfl ?_
          refine tw_cl0 59 rfl (rfl) (by decide) ?_
          show tw_P L xs _ 76 0 [.ref 85, .int (nI l), .int y] [] σ _
          refine tw_sg 2 (i1 := 2) (ls1 := [.ref 85, .int (nI l), .int y]) (st1 := [.int (nI l), .ref 85]) (σ1 := σ) rfl ?_
          refine tw_cl0 58 rfl (rfl) (by decide) ?_
          show tw_P L xs _ 74 0 [.ref 85, .int (nI l)] [] σ _
          refine tw_sg 1 (i1 := 1) (ls1 := [.ref 85, .int (nI l)]) (st1 := [.int (nI l)]) (σ1 := σ) rfl ?_
          refine tw_bzF (c := .lt) rfl (by rw [tw_clt', tw_nlt (by omega) (by omega)] <;> omega) ?_
          show tw_P L xs _ 74 2 [.ref 85, .int (nI l)] [] σ _
          refine tw_sg 2 (i1 := 4) (ls1 := [.ref 85, .int (nI l)]) (st1 := [.int (nI 4), .int (nI l)]) (σ1 := σ) rfl ?_
          refine tw_biF (c := .ge) rfl (by rw [tw_cge', tw_nle (by omega) (by omega)] <;> omega) ?_
          show tw_P L xs _ 74 5 [.ref 85, .int (nI l)] [] σ _
          refine tw_sg 2 (i1 := 8) (ls1 := [.ref 85, .int (nI l)]) (st1 := [.int (nI 1)]) (σ1 := σ) rfl ?_
          refine tw_ri rfl (rfl) ?_
          show tw_P L xs _ 76 3 [.ref 85, .int (nI l), .int y] [.int (nI 1)] σ _
          refine tw_bzF (c := .eq) rfl (by rw [tw_ceq', tw_neq (by omega) (by omega)] <;> omega) ?_
          show tw_P L xs _ 76 4 [.ref 85, .int (nI l), .int y] [] σ _
          refine tw_sg 1 (i1 := 5) (ls1 := [.ref 85, .int (nI l), .int y]) (st1 := [.int y]) (σ1 := σ) rfl ?_
          refine tw_bzT (c := .lt) rfl (by rw [tw_clt] <;> (exact hy)) ?_
          show tw_P L xs _ 76 14 [.ref 85, .int (nI l), .int y] [] σ _
          refine tw_sg 1 (i1 := 15) (ls1 := [.ref 85, .int (nI l), .int y]) (st1 := [.int (nI 0)]) (σ1 := σ) rfl ?_
          refine tw_ri rfl (rfl) ?_
          show tw_P L xs _ 171 19 [.ref 1, .int (nI l), .int y, .int w] [.int (nI 0)] σ _
          refine tw_bzF (c := .ne) rfl (by rw [tw_cne', tw_neq (by omega) (by omega)] <;> omega) ?_
          show tw_P L xs _ 171 20 [.ref 1, .int (nI l), .int y, .int w] [] σ _
          refine tw_sg 1 (i1 := 21) (ls1 := [.ref 1, .int (nI l), .int y, .int w]) (st1 := [.int (-13)]) (σ1 := σ) rfl ?_
          refine tw_ri rfl (rfl) ?_
          refine ⟨_, rfl, ?_⟩
          show tw_P L xs _ 252 0 [.ref 88, .int (nI l), .int y, .int w] [] σ _
          refine tw_sg 1 (i1 := 1) (ls1 := [.ref 88, .int (nI l), .int y, .int w]) (st1 := [.int (nI l)]) (σ1 := σ) rfl ?_
          refine tw_cl0 59 rfl (rfl) (by decide) ?_
          show tw_P L xs _ 250 0 [.int (nI l)] [] σ _
          refine tw_sg 3 (i1 := 3) (ls1 := [.int (nI l)]) (st1 := [.int (nI 3), .int (nI 0), .int (nI l)]) (σ1 := σ) rfl ?_
          refine tw_cl0 58 rfl (rfl) (by decide) ?_
          show tw_P L xs _ 182 0 [.int (nI l), .int (nI 0), .int (nI 3)] [] σ _
          refine tw_sg 2 (i1 := 2) (ls1 := [.int (nI l), .int (nI 0), .int (nI 3)]) (st1 := [.int (nI 0), .int (nI l)]) (σ1 := σ) rfl ?_
          refine tw_biF (c := .lt) rfl (by rw [tw_clt', tw_nlt (by omega) (by omega)] <;> omega) ?_
          show tw_P L xs _ 182 3 [.int (nI l), .int (nI 0), .int (nI 3)] [] σ _
          refine tw_sg 2 (i1 := 5) (ls1 := [.int (nI l), .int (nI 0), .int (nI 3)]) (st1 := [.int (nI 3), .int (nI l)]) (σ1 := σ) rfl ?_
          refine tw_biF (c := .gt) rfl (by rw [tw_cgt', tw_nlt (by omega) (by omega)] <;> omega) ?_
          show tw_P L xs _ 182 6 [.int (nI l), .int (nI 0), .int (nI 3)] [] σ _
          refine tw_sg 2 (i1 := 9) (ls1 := [.int (nI l), .int (nI 0), .int (nI 3)]) (st1 := [.int (nI 1)]) (σ1 := σ) rfl ?_
          refine tw_ri rfl (rfl) ?_
          show tw_P L xs _ 250 4 [.int (nI l)] [.int (nI 1)] σ _
          refine tw_ri rfl (rfl) ?_
          show tw_P L xs _ 252 2 [.ref 88, .int (nI l), .int y, .int w] [.int (nI 1)] σ _
          refine tw_bzT (c := .ne) rfl (by rw [tw_cne, tw_neq (by omega) (by omega)] <;> omega) ?_
          show tw_P L xs _ 252 5 [.ref 88, .int (nI l), .int y, .int w] [] σ _
          refine tw_sg 3 (i1 := 8) (ls1 := [.ref 88, .int (nI l), .int y, .int w]) (st1 := [.int (nI l), .ref 117]) (σ1 := σ) rfl ?_
          refine tw_alb (k := 117) (j := l) (len := 4) rfl rfl (by decide) rfl (rfl) (by omega) (by decide) ?_
          rw [e2]
          refine tw_bzT (c := .ne) rfl (by rw [tw_cne, tw_neq (by omega) (by omega)] <;> omega) ?_
          show tw_P L xs _ 252 12 [.ref 88, .int (nI l), .int y, .int w] [] σ _
          refine tw_sg 5 (i1 := 17) (ls1 := [.ref 88, .int (nI l), .int y, .int w]) (st1 := [.int (nI l), .ref 118, .int (nI 0), .int y]) (σ1 := σ) rfl ?_
          refine tw_al (k := 118) (j := l) (len := 4) rfl rfl rfl rfl (rfl) (by omega) (by decide) ?_
          rw [e3]
          refine tw_sg 2 (i1 := 20) (ls1 := [.ref 88, .int (nI l), .int y, .int w]) (st1 := [.int (nI s - nI 1), .int (nI 0), .int y]) (σ1 := σ) rfl ?_
          refine tw_cl1 rfl (rfl) (by decide) (tw_e_inN0 (by omega) hy0) ?_
          rintro _ _ ⟨rfl, rfl⟩
          show tw_P L xs _ 252 21 [.ref 88, .int (nI l), .int y, .int w] [.int (nI 0)] σ _
          refine tw_bzF (c := .ne) rfl (by rw [tw_cne', tw_neq (by omega) (by omega)] <;> omega) ?_
          show tw_P L xs _ 252 22 [.ref 88, .int (nI l), .int y, .int w] [] σ _
          refine tw_sg 1 (i1 := 23) (ls1 := [.ref 88, .int (nI l), .int y, .int w]) (st1 := [.int (-13)]) (σ1 := σ) rfl ?_
          refine tw_ri rfl (rfl) ?_
          exact ⟨rfl, hI⟩
        · skip
          show tw_P L xs _ 171 0 [.ref 1, .int (nI l), .int y, .int w] [] σ _
          refine tw_sg 3 (i1 := 3) (ls1 := [.ref 1, .int (nI l), .int y, .int w]) (st1 := [.int (nI l), .ref 85]) (σ1 := σ) rfl ?_
          refine tw_cl0 59 rfl (rfl) (by decide) ?_
          show tw_P L xs _ 74 0 [.ref 85, .int (nI l)] [] σ _
          refine tw_sg 1 (i1 := 1) (ls1 := [.ref 85, .int (nI l)]) (st1 := [.int (nI l)]) (σ1 := σ) rfl ?_
          refine tw_bzF (c := .lt) rfl (by rw [tw_clt', tw_nlt (by omega) (by omega)] <;> omega) ?_
          show tw_P L xs _ 74 2 [.ref 85, .int (nI l)] [] σ _
          refine tw_sg 2 (i1 := 4) (ls1 := [.ref 85, .int (nI l)]) (st1 := [.int (nI 4), .int (nI l)]) (σ1 := σ) rfl ?_
          refine tw_biF (c := .ge) rfl (by rw [tw_cge', tw_nle (by omega) (by omega)] <;> omega) ?_
          show tw_P L xs _ 74 5 [.ref 85, .int (nI l)] [] σ _
          refine tw_sg 2 (i1 := 8) (ls1 := [.ref 85, .int (nI l)]) (st1 := [.int (nI 1)]) (σ1 := σ) rfl ?_
          refine tw_ri rfl (rfl) ?_
          show tw_P L xs _ 171 4 [.ref 1, .int (nI l), .int y, .int w] [.int (nI 1)] σ _
          refine tw_bzT (c := .ne) rfl (by rw [tw_cne, tw_neq (by omega) (by omega)] <;> omega) ?_
          show tw_P L xs _ 171 7 [.ref 1, .int (nI l), .int y, .int w] [] σ _
          refine tw_sg 3 (i1 := 10) (ls1 := [.ref 1, .int (nI l), .int y, .int w]) (st1 := [.int (nI l), .ref 85]) (σ1 := σ) rfl ?_
          refine tw_cl0 59 rfl (rfl) (by decide) ?_
          show tw_P L xs _ 75 0 [.ref 85, .int (nI l)] [] σ _
          refine tw_sg 2 (i1 := 2) (ls1 := [.ref 85, .int (nI l)]) (st1 := [.int (nI l), .ref 85]) (σ1 := σ) rfl ?_
          refine tw_cl0 58 rfl (rfl) (by decide) ?_
          show tw_P L xs _ 74 0 [.ref 85, .int (nI l)] [] σ _
          refine tw_sg 1 (i1 := 1) (ls1 := [.ref 85, .int (nI l)]) (st1 := [.int (nI l)]) (σ1 := σ) rfl ?_
          refine tw_bzF (c := .lt) rfl (by rw [tw_clt', tw_nlt (by omega) (by omega)] <;> omega) ?_
          show tw_P L xs _ 74 2 [.ref 85, .int (nI l)] [] σ _
          refine tw_sg 2 (i1 := 4) (ls1 := [.ref 85, .int (nI l)]) (st1 := [.int (nI 4), .int (nI l)]) (σ1 := σ) rfl ?_
          refine tw_biF (c := .ge) rfl (by rw [tw_cge', tw_nle (by omega) (by omega)] <;> omega) ?_
          show tw_P L xs _ 74 5 [.ref 85, .int (nI l)] [] σ _
          refine tw_sg 2 (i1 := 8) (ls1 := [.ref 85, .int (nI l)]) (st1 := [.int (nI 1)]) (σ1 := σ) rfl ?_
          refine tw_ri rfl (rfl) ?_
          show tw_P L xs _ 75 3 [.ref 85, .int (nI l)] [.int (nI 1)] σ _
          refine tw_bzF (c := .eq) rfl (by rw [tw_ceq', tw_neq (by omega) (by omega)] <;> omega) ?_
          show tw_P L xs _ 75 4 [.ref 85, .int (nI l)] [] σ _
          refine tw_sg 3 (i1 := 7) (ls1 := [.ref 85, .int (nI l)]) (st1 := [.int (nI l), .ref 87]) (σ1 := σ) rfl ?_
          refine tw_al (k := 87) (j := l) (len := 4) rfl rfl rfl rfl (rfl) (by omega) (by decide) ?_
          rw [e1]
          refine tw_sg 1 (i1 := 9) (ls1 := [.ref 85, .int (nI l)]) (st1 := [.int (-1), .int (nI s)]) (σ1 := σ) rfl ?_
          refine tw_biT (c := .ne) rfl (by rw [tw_cne] <;> (exact (tw_nne1 (by omega)))) ?_
          show tw_P L xs _ 75 12 [.ref 85, .int (nI l)] [] σ _
          refine tw_sg 1 (i1 := 13) (ls1 := [.ref 85, .int (nI l)]) (st1 := [.int (nI 0)]) (σ1 := σ) rfl ?_
          refine tw_ri rfl (rfl) ?_
          show tw_P L xs _ 171 11 [.ref 1, .int (nI l), .int y, .int w] [.int (nI 0)] σ _
          refine tw_bzT (c := .eq) rfl (by rw [tw_ceq, tw_neq (by omega) (by omega)] <;> omega) ?_
          show tw_P L xs _ 171 14 [.ref 1, .int (nI l), .int y, .int w] [] σ _
          refine tw_sg 4 (i1 := 18) (ls1 := [.ref 1, .int (nI l), .int y, .int w]) (st1 := [.int y, .int (nI l), .ref 85]) (σ1 := σ) rfl ?_
          refine tw_cl0 59 rfl (rfl) (by decide) ?_
          show tw_P L xs _ 76 0 [.ref 85, .int (nI l), .int y] [] σ _
          refine tw_sg 2 (i1 := 2) (ls1 := [.ref 85, .int (nI l), .int y]) (st1 := [.int (nI l), .ref 85]) (σ1 := σ) rfl ?_
          refine tw_cl0 58 rfl (rfl) (by decide) ?_
          show tw_P L xs _ 74 0 [.ref 85, .int (nI l)] [] σ _
          refine tw_sg 1 (i1 := 1) (ls1 := [.ref 85, .int (nI l)]) (st1 := [.int (nI l)]) (σ1 := σ) rfl ?_
          refine tw_bzF (c := .lt) rfl (by rw [tw_clt', tw_nlt (by omega) (by omega)] <;> omega) ?_
          show tw_P L xs _ 74 2 [.ref 85, .int (nI l)] [] σ _
          refine tw_sg 2 (i1 := 4) (ls1 := [.ref 85, .int (nI l)]) (st1 := [.int (nI 4), .int (nI l)]) (σ1 := σ) rfl ?_
          refine tw_biF (c := .ge) rfl (by rw [tw_cge', tw_nle (by omega) (by omega)] <;> omega) ?_
          show tw_P L xs _ 74 5 [.ref 85, .int (nI l)] [] σ _
          refine tw_sg 2 (i1 := 8) (ls1 := [.ref 85, .int (nI l)]) (st1 := [.int (nI 1)]) (σ1 := σ) rfl ?_
          refine tw_ri rfl (rfl) ?_
          show tw_P L xs _ 76 3 [.ref 85, .int (nI l), .int y] [.int (nI 1)] σ _
          refine tw_bzF (c := .eq) rfl (by rw [tw_ceq', tw_neq (by omega) (by omega)] <;> omega) ?_
          show tw_P L xs _ 76 4 [.ref 85, .int (nI l), .int y] [] σ _
          refine tw_sg 1 (i1 := 5) (ls1 := [.ref 85, .int (nI l), .int y]) (st1 := [.int y]) (σ1 := σ) rfl ?_
          refine tw_bzF (c := .lt) rfl (by rw [tw_clt'] <;> (exact hy)) ?_
          show tw_P L xs _ 76 6 [.ref 85, .int (nI l), .int y] [] σ _
          refine tw_sg 4 (i1 := 10) (ls1 := [.ref 85, .int (nI l), .int y]) (st1 := [.int (nI l), .ref 87, .int y]) (σ1 := σ) rfl ?_
          refine tw_al (k := 87) (j := l) (len := 4) rfl rfl rfl rfl (rfl) (by omega) (by decide) ?_
          rw [e1]
          refine tw_biT (c := .ge) rfl (by rw [tw_cge] <;> (exact tw_not_lt.mp (tw_not_lt.mpr hy2))) ?_
          show tw_P L xs _ 76 14 [.ref 85, .int (nI l), .int y] [] σ _
          refine tw_sg 1 (i1 := 15) (ls1 := [.ref 85, .int (nI l), .int y]) (st1 := [.int (nI 0)]) (σ1 := σ) rfl ?_
          refine tw_ri rfl (rfl) ?_
          show tw_P L xs _ 171 19 [.ref 1, .int (nI l), .int y, .int w] [.int (nI 0)] σ _
          refine tw_bzF (c := .ne) rfl (by rw [tw_cne', tw_neq (by omega) (by omega)] <;> omega) ?_
          show tw_P L xs _ 171 20 [.ref 1, .int (nI l), .int y, .int w] [] σ _
          refine tw_sg 1 (i1 := 21) (ls1 := [.ref 1, .int (nI l), .int y, .int w]) (st1 := [.int (-13)]) (σ1 := σ) rfl ?_
          refine tw_ri rfl (rfl) ?_
          refine ⟨_, rfl, ?_⟩
          show tw_P L xs _ 252 0 [.ref 88, .int (nI l), .int y, .int w] [] σ _
          refine tw_sg 1 (i1 := 1) (ls1 := [.ref 88, .int (nI l), .int y, .int w]) (st1 := [.int (nI l)]) (σ1 := σ) rfl ?_
          refine tw_cl0 59 rfl (rfl) (by decide) ?_
          show tw_P L xs _ 250 0 [.int (nI l)] [] σ _
          refine tw_sg 3 (i1 := 3) (ls1 := [.int (nI l)]) (st1 := [.int (nI 3), .int (nI 0), .int (nI l)]) (σ1 := σ) rfl ?_
          refine tw_cl0 58 rfl (rfl) (by decide) ?_
          show tw_P L xs _ 182 0 [.int (nI l), .int (nI 0), .int (nI 3)] [] σ _
          refine tw_sg 2 (i1 := 2) (ls1 := [.int (nI l), .int (nI 0), .int (nI 3)]) (st1 := [.int (nI 0), .int (nI l)]) (σ1 := σ) rfl ?_
          refine tw_biF (c := .lt) rfl (by rw [tw_clt', tw_nlt (by omega) (by omega)] <;> omega) ?_
          show tw_P L xs _ 182 3 [.int (nI l), .int (nI 0), .int (nI 3)] [] σ _
          refine tw_sg 2 (i1 := 5) (ls1 := [.int (nI l), .int (nI 0), .int (nI 3)]) (st1 := [.int (nI 3), .int (nI l)]) (σ1 := σ) rfl ?_
          refine tw_biF (c := .gt) rfl (by rw [tw_cgt', tw_nlt (by omega) (by omega)] <;> omega) ?_
          show tw_P L xs _ 182 6 [.int (nI l), .int (nI 0), .int (nI 3)] [] σ _
          refine tw_sg 2 (i1 := 9) (ls1 := [.int (nI l), .int (nI 0), .int (nI 3)]) (st1 := [.int (nI 1)]) (σ1 := σ) rfl ?_
          refine tw_ri rfl (rfl) ?_
          show tw_P L xs _ 250 4 [.int (nI l)] [.int (nI 1)] σ _
          refine tw_ri rfl (rfl) ?_
          show tw_P L xs _ 252 2 [.ref 88, .int (nI l), .int y, .int w] [.int (nI 1)] σ _
          refine tw_bzT (c := .ne) rfl (by rw [tw_cne, tw_neq (by omega) (by omega)] <;> omega) ?_
          show tw_P L xs _ 252 5 [.ref 88, .int (nI l), .int y, .int w] [] σ _
          refine tw_sg 3 (i1 := 8) (ls1 := [.ref 88, .int (nI l), .int y, .int w]) (st1 := [.int (nI l), .ref 117]) (σ1 := σ) rfl ?_
          refine tw_alb (k := 117) (j := l) (len := 4) rfl rfl (by decide) rfl (rfl) (by omega) (by decide) ?_
          rw [e2]
          refine tw_bzT (c := .ne) rfl (by rw [tw_cne, tw_neq (by omega) (by omega)] <;> omega) ?_
          show tw_P L xs _ 252 12 [.ref 88, .int (nI l), .int y, .int w] [] σ _
          refine tw_sg 5 (i1 := 17) (ls1 := [.ref 88, .int (nI l), .int y, .int w]) (st1 := [.int (nI l), .ref 118, .int (nI 0), .int y]) (σ1 := σ) rfl ?_
          refine tw_al (k := 118) (j := l) (len := 4) rfl rfl rfl rfl (rfl) (by omega) (by decide) ?_
          rw [e3]
          refine tw_sg 2 (i1 := 20) (ls1 := [.ref 88, .int (nI l), .int y, .int w]) (st1 := [.int (nI s - nI 1), .int (nI 0), .int y]) (σ1 := σ) rfl ?_
          refine tw_cl1 rfl (rfl) (by decide) (tw_e_inN0 (by omega) hy0) ?_
          rintro _ _ ⟨rfl, rfl⟩
          show tw_P L xs _ 252 21 [.ref 88, .int (nI l), .int y, .int w] [.int (nI 0)] σ _
          refine tw_bzF (c := .ne) rfl (by rw [tw_cne', tw_neq (by omega) (by omega)] <;> omega) ?_
          show tw_P L xs _ 252 22 [.ref 88, .int (nI l), .int y, .int w] [] σ _
          refine tw_sg 1 (i1 := 23) (ls1 := [.ref 88, .int (nI l), .int y, .int w]) (st1 := [.int (-13)]) (σ1 := σ) rfl ?_
          refine tw_ri rfl (rfl) ?_
          exact ⟨rfl, hI⟩
  · rcases hx with hx | ⟨hx, hx2⟩
    · skip
      show tw_P L xs _ 171 0 [.ref 1, .int x, .int y, .int w] [] σ _
      refine tw_sg 3 (i1 := 3) (ls1 := [.ref 1, .int x, .int y, .int w]) (st1 := [.int x, .ref 85]) (σ1 := σ) rfl ?_
      refine tw_cl0 59 rfl (rfl) (by decide) ?_
      show tw_P L xs _ 74 0 [.ref 85, .int x] [] σ _
      refine tw_sg 1 (i1 := 1) (ls1 := [.ref 85, .int x]) (st1 := [.int x]) (σ1 := σ) rfl ?_
      refine tw_bzT (c := .lt) rfl (by rw [tw_clt] <;> (exact hx)) ?_
      show tw_P L xs _ 74 7 [.ref 85, .int x] [] σ _
      refine tw_sg 1 (i1 := 8) (ls1 := [.ref 85, .int x]) (st1 := [.int (nI 0)]) (σ1 := σ) rfl ?_
      refine tw_ri rfl (rfl) ?_
      show tw_P L xs _ 171 4 [.ref 1, .int x, .int y, .int w] [.int (nI 0)] σ _
      refine tw_bzF (c := .ne) rfl (by rw [tw_cne', tw_neq (by omega) (by omega)] <;> omega) ?_
      show tw_P L xs _ 171 5 [.ref 1, .int x, .int y, .int w] [] σ _
      refine tw_sg 1 (i1 := 6) (ls1 := [.ref 1, .int x, .int y, .int w]) (st1 := [.int (-1)]) (σ1 := σ) rfl ?_
      refine tw_ri rfl (rfl) ?_
      refine ⟨_, rfl, ?_⟩
      show tw_P L xs _ 252 0 [.ref 88, .int x, .int y, .int w] [] σ _
      refine tw_sg 1 (i1 := 1) (ls1 := [.ref 88, .int x, .int y, .int w]) (st1 := [.int x]) (σ1 := σ) rfl ?_
      refine tw_cl0 59 rfl (rfl) (by decide) ?_
      show tw_P L xs _ 250 0 [.int x] [] σ _
      refine tw_sg 3 (i1 := 3) (ls1 := [.int x]) (st1 := [.int (nI 3), .int (nI 0), .int x]) (σ1 := σ) rfl ?_
      refine tw_cl0 58 rfl (rfl) (by decide) ?_
      show tw_P L xs _ 182 0 [.int x, .int (nI 0), .int (nI 3)] [] σ _
      refine tw_sg 2 (i1 := 2) (ls1 := [.int x, .int (nI 0), .int (nI 3)]) (st1 := [.int (nI 0), .int x]) (σ1 := σ) rfl ?_
      refine tw_biT (c := .lt) rfl (by rw [tw_clt] <;> (exact hx)) ?_
      show tw_P L xs _ 182 8 [.int x, .int (nI 0), .int (nI 3)] [] σ _
      refine tw_sg 1 (i1 := 9) (ls1 := [.int x, .int (nI 0), .int (nI 3)]) (st1 := [.int (nI 0)]) (σ1 := σ) rfl ?_
      refine tw_ri rfl (rfl) ?_
      show tw_P L xs _ 250 4 [.int x] [.int (nI 0)] σ _
      refine tw_ri rfl (rfl) ?_
      show tw_P L xs _ 252 2 [.ref 88, .int x, .int y, .int w] [.int (nI 0)] σ _
      refine tw_bzF (c := .ne) rfl (by rw [tw_cne', tw_neq (by omega) (by omega)] <;> omega) ?_
      show tw_P L xs _ 252 3 [.ref 88, .int x, .int y, .int w] [] σ _
      refine tw_sg 1 (i1 := 4) (ls1 := [.ref 88, .int x, .int y, .int w]) (st1 := [.int (-1)]) (σ1 := σ) rfl ?_
      refine tw_ri rfl (rfl) ?_
      exact ⟨rfl, hI⟩
    · skip
      show tw_P L xs _ 171 0 [.ref 1, .int x, .int y, .int w] [] σ _
      refine tw_sg 3 (i1 := 3) (ls1 := [.ref 1, .int x, .int y, .int w]) (st1 := [.int x, .ref 85]) (σ1 := σ) rfl ?_
      refine tw_cl0 59 rfl (rfl) (by decide) ?_
      show tw_P L xs _ 74 0 [.ref 85, .int x] [] σ _
      refine tw_sg 1 (i1 := 1) (ls1 := [.ref 85, .int x]) (st1 := [.int x]) (σ1 := σ) rfl ?_
      refine tw_bzF (c := .lt) rfl (by rw [tw_clt'] <;> (exact hx)) ?_
      show tw_P L xs _ 74 2 [.ref 85, .int x] [] σ _
      refine tw_sg 2 (i1 := 4) (ls1 := [.ref 85, .int x]) (st1 := [.int (nI 4), .int x]) (σ1 := σ) rfl ?_
      refine tw_biT (c := .ge) rfl (by rw [tw_cge] <;> (exact tw_not_lt.mp (tw_not_lt.mpr hx2))) ?_
      show tw_P L xs _ 74 7 [.ref 85, .int x] [] σ _
      refine tw_sg 1 (i1 := 8) (ls1 := [.ref 85, .int x]) (st1 := [.int (nI 0)]) (σ1 := σ) rfl ?_
      refine tw_ri rfl (rfl) ?_
      show tw_P L xs _ 171 4 [.ref 1, .int x, .int y, .int w] [.int (nI 0)] σ _
      refine tw_bzF (c := .ne) rfl (by rw [tw_cne', tw_neq (by omega) (by omega)] <;> omega) ?_
      show tw_P L xs _ 171 5 [.ref 1, .int x, .int y, .int w] [] σ _
      refine tw_sg 1 (i1 := 6) (ls1 := [.ref 1, .int x, .int y, .int w]) (st1 := [.int (-1)]) (σ1 := σ) rfl ?_
      refine tw_ri rfl (rfl) ?_
      refine ⟨_, rfl, ?_⟩
      show tw_P L xs _ 252 0 [.ref 88, .int x, .int y, .int w] [] σ _
      refine tw_sg 1 (i1 := 1) (ls1 := [.ref 88, .int x, .int y, .int w]) (st1 := [.int x]) (σ1 := σ) rfl ?_
      refine tw_cl0 59 rfl (rfl) (by decide) ?_
      show tw_P L xs _ 250 0 [.int x] [] σ _
      refine tw_sg 3 (i1 := 3) (ls1 := [.int x]) (st1 := [.int (nI 3), .int (nI 0), .int x]) (σ1 := σ) rfl ?_
      refine tw_cl0 58 rfl (rfl) (by decide) ?_
      show tw_P L xs _ 182 0 [.int x, .int (nI 0), .int (nI 3)] [] σ _
      refine tw_sg 2 (i1 := 2) (ls1 := [.int x, .int (nI 0), .int (nI 3)]) (st1 := [.int (nI 0), .int x]) (σ1 := σ) rfl ?_
      refine tw_biF (c := .lt) rfl (by rw [tw_clt'] <;> (exact hx)) ?_
      show tw_P L xs _ 182 3 [.int x, .int (nI 0), .int (nI 3)] [] σ _
      refine tw_sg 2 (i1 := 5) (ls1 := [.int x, .int (nI 0), .int (nI 3)]) (st1 := [.int (nI 3), .int x]) (σ1 := σ) rfl ?_
      refine tw_biT (c := .gt) rfl (by rw [tw_cgt] <;> (exact (tw_lt_le1 (n := 3) (by decide) hx2))) ?_
      show tw_P L xs _ 182 8 [.int x, .int (nI 0), .int (nI 3)] [] σ _
      refine tw_sg 1 (i1 := 9) (ls1 := [.int x, .int (nI 0), .int (nI 3)]) (st1 := [.int (nI 0)]) (σ1 := σ) rfl ?_
      refine tw_ri rfl (rfl) ?_
      show tw_P L xs _ 250 4 [.int x] [.int (nI 0)] σ _
      refine tw_ri rfl (rfl) ?_
      show tw_P L xs _ 252 2 [.ref 88, .int x, .int y, .int w] [.int (nI 0)] σ _
      refine tw_bzF (c := .ne) rfl (by rw [tw_cne', tw_neq (by omega) (by omega)] <;> omega) ?_
      show tw_P L xs _ 252 3 [.ref 88, .int x, .int y, .int w] [] σ _
      refine tw_sg 1 (i1 := 4) (ls1 := [.ref 88, .int x, .int y, .int w]) (st1 := [.int (-1)]) (σ1 := σ) rfl ?_
      refine tw_ri rfl (rfl) ?_
      exact ⟨rfl, hI⟩
theorem tw_lt_tr {x y w : Int32} (h1 : x < y) (h2 : y < w) : x < w := by
  rw [Int32.lt_iff_toInt_lt] at *
  omega
set_option maxHeartbeats 4000000 in
set_option maxRecDepth 100000 in
theorem tw_o_get {L : Nat} {xs : Nat → Int32} (x : Int32) (y : Int32) : tw_op L xs 172 253 [.int x, .int y] := by
  intro σ hI
  obtain ⟨hL, hT, hPp, hPc, hLs, hIm, hC14, hC46, hC72⟩ := id hI
  rcases tw_within x 4 (by decide) with ⟨l, hl, rfl⟩ | hx
  · rcases hLs l hl with ⟨e1, e2⟩ | ⟨s, hs, e1, e2, e3, e4⟩
    · by_cases hy : y < nI 0
      · skip
        show tw_P L xs _ 172 0 [.ref 1, .int (nI l), .int y] [] σ _
        refine tw_sg 4 (i1 := 4) (ls1 := [.ref 1, .int (nI l), .int y]) (st1 := [.int y, .int (nI l), .ref 85]) (σ1 := σ) rfl ?_
        refine tw_cl0 59 rfl (rfl) (by decide) ?_
        show tw_P L xs _ 76 0 [.ref 85, .int (nI l), .int y] [] σ _
        refine tw_sg 2 (i1 := 2) (ls1 := [.ref 85, .int (nI l), .int y]) (st1 := [.int (nI l), .ref 85]) (σ1 := σ) rfl ?_
        refine tw_cl0 58 rfl (rfl) (by decide) ?_
        show tw_P L xs _ 74 0 [.ref 85, .int (nI l)] [] σ _
        refine tw_sg 1 (i1 := 1) (ls1 := [.ref 85, .int (nI l)]) (st1 := [.int (nI l)]) (σ1 := σ) rfl ?_
        refine tw_bzF (c := .lt) rfl (by rw [tw_clt', tw_nlt (by omega) (by omega)] <;> omega) ?_
        show tw_P L xs _ 74 2 [.ref 85, .int (nI l)] [] σ _
        refine tw_sg 2 (i1 := 4) (ls1 := [.ref 85, .int (nI l)]) (st1 := [.int (nI 4), .int (nI l)]) (σ1 := σ) rfl ?_
        refine tw_biF (c := .ge) rfl (by rw [tw_cge', tw_nle (by omega) (by omega)] <;> omega) ?_
        show tw_P L xs _ 74 5 [.ref 85, .int (nI l)] [] σ _
        refine tw_sg 2 (i1 := 8) (ls1 := [.ref 85, .int (nI l)]) (st1 := [.int (nI 1)]) (σ1 := σ) rfl ?_
        refine tw_ri rfl (rfl) ?_
        show tw_P L xs _ 76 3 [.ref 85, .int (nI l), .int y] [.int (nI 1)] σ _
        refine tw_bzF (c := .eq) rfl (by rw [tw_ceq', tw_neq (by omega) (by omega)] <;> omega) ?_
        show tw_P L xs _ 76 4 [.ref 85, .int (nI l), .int y] [] σ _
        refine tw_sg 1 (i1 := 5) (ls1 := [.ref 85, .int (nI l), .int y]) (st1 := [.int y]) (σ1 := σ) rfl ?_
        refine tw_bzT (c := .lt) rfl (by rw [tw_clt] <;> (exact hy)) ?_
        show tw_P L xs _ 76 14 [.ref 85, .int (nI l), .int y] [] σ _
        refine tw_sg 1 (i1 := 15) (ls1 := [.ref 85, .int (nI l), .int y]) (st1 := [.int (nI 0)]) (σ1 := σ) rfl ?_
        refine tw_ri rfl (rfl) ?_
        show tw_P L xs _ 172 5 [.ref 1, .int (nI l), .int y] [.int (nI 0)] σ _
        refine tw_bzT (c := .eq) rfl (by rw [tw_ceq, tw_neq (by omega) (by omega)] <;> omega) ?_
        show tw_P L xs _ 172 12 [.ref 1, .int (nI l), .int y] [] σ _
        refine tw_sg 1 (i1 := 13) (ls1 := [.ref 1, .int (nI l), .int y]) (st1 := [.int (-2000000000)]) (σ1 := σ) rfl ?_
        refine tw_ri rfl (rfl) ?_
        refine ⟨_, rfl, ?_⟩
        show tw_P L xs _ 253 0 [.ref 88, .int (nI l), .int y] [] σ _
        refine tw_sg 1 (i1 := 1) (ls1 := [.ref 88, .int (nI l), .int y]) (st1 := [.int (nI l)]) (σ1 := σ) rfl ?_
        refine tw_cl0 59 rfl (rfl) (by decide) ?_
        show tw_P L xs _ 250 0 [.int (nI l)] [] σ _
        refine tw_sg 3 (i1 := 3) (ls1 := [.int (nI l)]) (st1 := [.int (nI 3), .int (nI 0), .int (nI l)]) (σ1 := σ) rfl ?_
        refine tw_cl0 58 rfl (rfl) (by decide) ?_
        show tw_P L xs _ 182 0 [.int (nI l), .int (nI 0), .int (nI 3)] [] σ _
        refine tw_sg 2 (i1 := 2) (ls1 := [.int (nI l), .int (nI 0), .int (nI 3)]) (st1 := [.int (nI 0), .int (nI l)]) (σ1 := σ) rfl ?_
        refine tw_biF (c := .lt) rfl (by rw [tw_clt', tw_nlt (by omega) (by omega)] <;> omega) ?_
        show tw_P L xs _ 182 3 [.int (nI l), .int (nI 0), .int (nI 3)] [] σ _
        refine tw_sg 2 (i1 := 5) (ls1 := [.int (nI l), .int (nI 0), .int (nI 3)]) (st1 := [.int (nI 3), .int (nI l)]) (σ1 := σ) rfl ?_
        refine tw_biF (c := .gt) rfl (by rw [tw_cgt', tw_nlt (by omega) (by omega)] <;> omega) ?_
        show tw_P L xs _ 182 6 [.int (nI l), .int (nI 0), .int (nI 3)] [] σ _
        refine tw_sg 2 (i1 := 9) (ls1 := [.int (nI l), .int (nI 0), .int (nI 3)]) (st1 := [.int (nI 1)]) (σ1 := σ) rfl ?_
        refine tw_ri rfl (rfl) ?_
        show tw_P L xs _ 250 4 [.int (nI l)] [.int (nI 1)] σ _
        refine tw_ri rfl (rfl) ?_
        show tw_P L xs _ 253 2 [.ref 88, .int (nI l), .int y] [.int (nI 1)] σ _
        refine tw_bzF (c := .eq) rfl (by rw [tw_ceq', tw_neq (by omega) (by omega)] <;> omega) ?_
        show tw_P L xs _ 253 3 [.ref 88, .int (nI l), .int y] [] σ _
        refine tw_sg 3 (i1 := 6) (ls1 := [.ref 88, .int (nI l), .int y]) (st1 := [.int (nI l), .ref 117]) (σ1 := σ) rfl ?_
        refine tw_alb (k := 117) (j := l) (len := 4) rfl rfl (by decide) rfl (rfl) (by omega) (by decide) ?_
        rw [e2]
        refine tw_bzT (c := .eq) rfl (by rw [tw_ceq, tw_neq (by omega) (by omega)] <;> omega) ?_
        show tw_P L xs _ 253 27 [.ref 88, .int (nI l), .int y] [] σ _
        refine tw_sg 1 (i1 := 28) (ls1 := [.ref 88, .int (nI l), .int y]) (st1 := [.int (-2000000000)]) (σ1 := σ) rfl ?_
        refine tw_ri rfl (rfl) ?_
        exact ⟨rfl, hI⟩
      · skip
        show tw_P L xs _ 172 0 [.ref 1, .int (nI l), .int y] [] σ _
        refine tw_sg 4 (i1 := 4) (ls1 := [.ref 1, .int (nI l), .int y]) (st1 := [.int y, .int (nI l), .ref 85]) (σ1 := σ) rfl ?_
        refine tw_cl0 59 rfl (rfl) (by decide) ?_
        show tw_P L xs _ 76 0 [.ref 85, .int (nI l), .int y] [] σ _
        refine tw_sg 2 (i1 := 2) (ls1 := [.ref 85, .int (nI l), .int y]) (st1 := [.int (nI l), .ref 85]) (σ1 := σ) rfl ?_
        refine tw_cl0 58 rfl (rfl) (by decide) ?_
        show tw_P L xs _ 74 0 [.ref 85, .int (nI l)] [] σ _
        refine tw_sg 1 (i1 := 1) (ls1 := [.ref 85, .int (nI l)]) (st1 := [.int (nI l)]) (σ1 := σ) rfl ?_
        refine tw_bzF (c := .lt) rfl (by rw [tw_clt', tw_nlt (by omega) (by omega)] <;> omega) ?_
        show tw_P L xs _ 74 2 [.ref 85, .int (nI l)] [] σ _
        refine tw_sg 2 (i1 := 4) (ls1 := [.ref 85, .int (nI l)]) (st1 := [.int (nI 4), .int (nI l)]) (σ1 := σ) rfl ?_
        refine tw_biF (c := .ge) rfl (by rw [tw_cge', tw_nle (by omega) (by omega)] <;> omega) ?_
        show tw_P L xs _ 74 5 [.ref 85, .int (nI l)] [] σ _
        refine tw_sg 2 (i1 := 8) (ls1 := [.ref 85, .int (nI l)]) (st1 := [.int (nI 1)]) (σ1 := σ) rfl ?_
        refine tw_ri rfl (rfl) ?_
        show tw_P L xs _ 76 3 [.ref 85, .int (nI l), .int y] [.int (nI 1)] σ _
        refine tw_bzF (c := .eq) rfl (by rw [tw_ceq', tw_neq (by omega) (by omega)] <;> omega) ?_
        show tw_P L xs _ 76 4 [.ref 85, .int (nI l), .int y] [] σ _
        refine tw_sg 1 (i1 := 5) (ls1 := [.ref 85, .int (nI l), .int y]) (st1 := [.int y]) (σ1 := σ) rfl ?_
        refine tw_bzF (c := .lt) rfl (by rw [tw_clt'] <;> (exact hy)) ?_
        show tw_P L xs _ 76 6 [.ref 85, .int (nI l), .int y] [] σ _
        refine tw_sg 4 (i1 := 10) (ls1 := [.ref 85, .int (nI l), .int y]) (st1 := [.int (nI l), .ref 87, .int y]) (σ1 := σ) rfl ?_
        refine tw_al (k := 87) (j := l) (len := 4) rfl rfl rfl rfl (rfl) (by omega) (by decide) ?_
        rw [e1]
        refine tw_biT (c := .ge) rfl (by rw [tw_cge] <;> (exact tw_not_lt.mp (fun h => hy (tw_lt_tr h (by decide))))) ?_
        show tw_P L xs _ 76 14 [.ref 85, .int (nI l), .int y] [] σ _
        refine tw_sg 1 (i1 := 15) (ls1 := [.ref 85, .int (nI l), .int y]) (st1 := [.int (nI 0)]) (σ1 := σ) rfl ?_
        refine tw_ri rfl (rfl) ?_
        show tw_P L xs _ 172 5 [.ref 1, .int (nI l), .int y] [.int (nI 0)] σ _
        refine tw_bzT (c := .eq) rfl (by rw [tw_ceq, tw_neq (by omega) (by omega)] <;> omega) ?_
        show tw_P L xs _ 172 12 [.ref 1, .int (nI l), .int y] [] σ _
        refine tw_sg 1 (i1 := 13) (ls1 := [.ref 1, .int (nI l), .int y]) (st1 := [.int (-2000000000)]) (σ1 := σ) rfl ?_
        refine tw_ri rfl (rfl) ?_
        refine ⟨_, rfl, ?_⟩
        show tw_P L xs _ 253 0 [.ref 88, .int (nI l), .int y] [] σ _
        refine tw_sg 1 (i1 := 1) (ls1 := [.ref 88, .int (nI l), .int y]) (st1 := [.int (nI l)]) (σ1 := σ) rfl ?_
        refine tw_cl0 59 rfl (rfl) (by decide) ?_
        show tw_P L xs _ 250 0 [.int (nI l)] [] σ _
        refine tw_sg 3 (i1 := 3) (ls1 := [.int (nI l)]) (st1 := [.int (nI 3), .int (nI 0), .int (nI l)]) (σ1 := σ) rfl ?_
        refine tw_cl0 58 rfl (rfl) (by decide) ?_
        show tw_P L xs _ 182 0 [.int (nI l), .int (nI 0), .int (nI 3)] [] σ _
        refine tw_sg 2 (i1 := 2) (ls1 := [.int (nI l), .int (nI 0), .int (nI 3)]) (st1 := [.int (nI 0), .int (nI l)]) (σ1 := σ) rfl ?_
        refine tw_biF (c := .lt) rfl (by rw [tw_clt', tw_nlt (by omega) (by omega)] <;> omega) ?_
        show tw_P L xs _ 182 3 [.int (nI l), .int (nI 0), .int (nI 3)] [] σ _
        refine tw_sg 2 (i1 := 5) (ls1 := [.int (nI l), .int (nI 0), .int (nI 3)]) (st1 := [.int (nI 3), .int (nI l)]) (σ1 := σ) rfl ?_
        refine tw_biF (c := .gt) rfl (by rw [tw_cgt', tw_nlt (by omega) (by omega)] <;> omega) ?_
        show tw_P L xs _ 182 6 [.int (nI l), .int (nI 0), .int (nI 3)] [] σ _
        refine tw_sg 2 (i1 := 9) (ls1 := [.int (nI l), .int (nI 0), .int (nI 3)]) (st1 := [.int (nI 1)]) (σ1 := σ) rfl ?_
        refine tw_ri rfl (rfl) ?_
        show tw_P L xs _ 250 4 [.int (nI l)] [.int (nI 1)] σ _
        refine tw_ri rfl (rfl) ?_
        show tw_P L xs _ 253 2 [.ref 88, .int (nI l), .int y] [.int (nI 1)] σ _
        refine tw_bzF (c := .eq) rfl (by rw [tw_ceq', tw_neq (by omega) (by omega)] <;> omega) ?_
        show tw_P L xs _ 253 3 [.ref 88, .int (nI l), .int y] [] σ _
        refine tw_sg 3 (i1 := 6) (ls1 := [.ref 88, .int (nI l), .int y]) (st1 := [.int (nI l), .ref 117]) (σ1 := σ) rfl ?_
        refine tw_alb (k := 117) (j := l) (len := 4) rfl rfl (by decide) rfl (rfl) (by omega) (by decide) ?_
        rw [e2]
        refine tw_bzT (c := .eq) rfl (by rw [tw_ceq, tw_neq (by omega) (by omega)] <;> omega) ?_
        show tw_P L xs _ 253 27 [.ref 88, .int (nI l), .int y] [] σ _
        refine tw_sg 1 (i1 := 28) (ls1 := [.ref 88, .int (nI l), .int y]) (st1 := [.int (-2000000000)]) (σ1 := σ) rfl ?_
        refine tw_ri rfl (rfl) ?_
        exact ⟨rfl, hI⟩
    · rcases tw_within y s (by omega) with ⟨i, hi, rfl⟩ | hy
      · skip
        show tw_P L xs _ 172 0 [.ref 1, .int (nI l), .int (nI i)] [] σ _
        refine tw_sg 4 (i1 := 4) (ls1 := [.ref 1, .int (nI l), .int (nI i)]) (st1 := [.int (nI i), .int (nI l), .ref 85]) (σ1 := σ) rfl ?_
        refine tw_cl0 59 rfl (rfl) (by decide) ?_
        show tw_P L xs _ 76 0 [.ref 85, .int (nI l), .int (nI i)] [] σ _
        refine tw_sg 2 (i1 := 2) (ls1 := [.ref 85, .int (nI l), .int (nI i)]) (st1 := [.int (nI l), .ref 85]) (σ1 := σ) rfl ?_
        refine tw_cl0 58 rfl (rfl) (by decide) ?_
        show tw_P L xs _ 74 0 [.ref 85, .int (nI l)] [] σ _
        refine tw_sg 1 (i1 := 1) (ls1 := [.ref 85, .int (nI l)]) (st1 := [.int (nI l)]) (σ1 := σ) rfl ?_
        refine tw_bzF (c := .lt) rfl (by rw [tw_clt', tw_nlt (by omega) (by omega)] <;> omega) ?_
        show tw_P L xs _ 74 2 [.ref 85, .int (nI l)] [] σ _
        refine tw_sg 2 (i1 := 4) (ls1 := [.ref 85, .int (nI l)]) (st1 := [.int (nI 4), .int (nI l)]) (σ1 := σ) rfl ?_
        refine tw_biF (c := .ge) rfl (by rw [tw_cge', tw_nle (by omega) (by omega)] <;> omega) ?_
        show tw_P L xs _ 74 5 [.ref 85, .int (nI l)] [] σ _
        refine tw_sg 2 (i1 := 8) (ls1 := [.ref 85, .int (nI l)]) (st1 := [.int (nI 1)]) (σ1 := σ) rfl ?_
        refine tw_ri rfl (rfl) ?_
        show tw_P L xs _ 76 3 [.ref 85, .int (nI l), .int (nI i)] [.int (nI 1)] σ _
        refine tw_bzF (c := .eq) rfl (by rw [tw_ceq', tw_neq (by omega) (by omega)] <;> omega) ?_
        show tw_P L xs _ 76 4 [.ref 85, .int (nI l), .int (nI i)] [] σ _
        refine tw_sg 1 (i1 := 5) (ls1 := [.ref 85, .int (nI l), .int (nI i)]) (st1 := [.int (nI i)]) (σ1 := σ) rfl ?_
        refine tw_bzF (c := .lt) rfl (by rw [tw_clt', tw_nlt (by omega) (by omega)] <;> omega) ?_
        show tw_P L xs _ 76 6 [.ref 85, .int (nI l), .int (nI i)] [] σ _
        refine tw_sg 4 (i1 := 10) (ls1 := [.ref 85, .int (nI l), .int (nI i)]) (st1 := [.int (nI l), .ref 87, .int (nI i)]) (σ1 := σ) rfl ?_
        refine tw_al (k := 87) (j := l) (len := 4) rfl rfl rfl rfl (rfl) (by omega) (by decide) ?_
        rw [e1]
        refine tw_biF (c := .ge) rfl (by rw [tw_cge', tw_nle (by omega) (by omega)] <;> omega) ?_
        show tw_P L xs _ 76 12 [.ref 85, .int (nI l), .int (nI i)] [] σ _
        refine tw_sg 2 (i1 := 15) (ls1 := [.ref 85, .int (nI l), .int (nI i)]) (st1 := [.int (nI 1)]) (σ1 := σ) rfl ?_
        refine tw_ri rfl (rfl) ?_
        show tw_P L xs _ 172 5 [.ref 1, .int (nI l), .int (nI i)] [.int (nI 1)] σ _
        refine tw_bzF (c := .eq) rfl (by rw [tw_ceq', tw_neq (by omega) (by omega)] <;> omega) ?_
        show tw_P L xs _ 172 6 [.ref 1, .int (nI l), .int (nI i)] [] σ _
        refine tw_sg 4 (i1 := 10) (ls1 := [.ref 1, .int (nI l), .int (nI i)]) (st1 := [.int (nI i), .int (nI l), .ref 85]) (σ1 := σ) rfl ?_
        refine tw_cl0 59 rfl (rfl) (by decide) ?_
        show tw_P L xs _ 79 0 [.ref 85, .int (nI l), .int (nI i)] [] σ _
        refine tw_sg 3 (i1 := 3) (ls1 := [.ref 85, .int (nI l), .int (nI i)]) (st1 := [.int (nI i), .int (nI l), .ref 85]) (σ1 := σ) rfl ?_
        refine tw_cl0 58 rfl (rfl) (by decide) ?_
        show tw_P L xs _ 76 0 [.ref 85, .int (nI l), .int (nI i)] [] σ _
        refine tw_sg 2 (i1 := 2) (ls1 := [.ref 85, .int (nI l), .int (nI i)]) (st1 := [.int (nI l), .ref 85]) (σ1 := σ) rfl ?_
        refine tw_cl0 57 rfl (rfl) (by decide) ?_
        show tw_P L xs _ 74 0 [.ref 85, .int (nI l)] [] σ _
        refine tw_sg 1 (i1 := 1) (ls1 := [.ref 85, .int (nI l)]) (st1 := [.int (nI l)]) (σ1 := σ) rfl ?_
        refine tw_bzF (c := .lt) rfl (by rw [tw_clt', tw_nlt (by omega) (by omega)] <;> omega) ?_
        show tw_P L xs _ 74 2 [.ref 85, .int (nI l)] [] σ _
        refine tw_sg 2 (i1 := 4) (ls1 := [.ref 85, .int (nI l)]) (st1 := [.int (nI 4), .int (nI l)]) (σ1 := σ) rfl ?_
        refine tw_biF (c := .ge) rfl (by rw [tw_cge', tw_nle (by omega) (by omega)] <;> omega) ?_
        show tw_P L xs _ 74 5 [.ref 85, .int (nI l)] [] σ _
        refine tw_sg 2 (i1 := 8) (ls1 := [.ref 85, .int (nI l)]) (st1 := [.int (nI 1)]) (σ1 := σ) rfl ?_
        refine tw_ri rfl (rfl) ?_
        show tw_P L xs _ 76 3 [.ref 85, .int (nI l), .int (nI i)] [.int (nI 1)] σ _
        refine tw_bzF (c := .eq) rfl (by rw [tw_ceq', tw_neq (by omega) (by omega)] <;> omega) ?_
        show tw_P L xs _ 76 4 [.ref 85, .int (nI l), .int (nI i)] [] σ _
        refine tw_sg 1 (i1 := 5) (ls1 := [.ref 85, .int (nI l), .int (nI i)]) (st1 := [.int (nI i)]) (σ1 := σ) rfl ?_
        refine tw_bzF (c := .lt) rfl (by rw [tw_clt', tw_nlt (by omega) (by omega)] <;> omega) ?_
        show tw_P L xs _ 76 6 [.ref 85, .int (nI l), .int (nI i)] [] σ _
        refine tw_sg 4 (i1 := 10) (ls1 := [.ref 85, .int (nI l), .int (nI i)]) (st1 := [.int (nI l), .ref 87, .int (nI i)]) (σ1 := σ) rfl ?_
        refine tw_al (k := 87) (j := l) (len := 4) rfl rfl rfl rfl (rfl) (by omega) (by decide) ?_
        rw [e1]
        refine tw_biF (c := .ge) rfl (by rw [tw_cge', tw_nle (by omega) (by omega)] <;> omega) ?_
        show tw_P L xs _ 76 12 [.ref 85, .int (nI l), .int (nI i)] [] σ _
        refine tw_sg 2 (i1 := 15) (ls1 := [.ref 85, .int (nI l), .int (nI i)]) (st1 := [.int (nI 1)]) (σ1 := σ) rfl ?_
        refine tw_ri rfl (rfl) ?_
        show tw_P L xs _ 79 4 [.ref 85, .int (nI l), .int (nI i)] [.int (nI 1)] σ _
        refine tw_bzF (c := .eq) rfl (by rw [tw_ceq', tw_neq (by omega) (by omega)] <;> omega) ?_
        show tw_P L xs _ 79 5 [.ref 85, .int (nI l), .int (nI i)] [] σ _
        refine tw_sgn 7 (i1 := 12) (ls0 := [.ref 85, .int (nI l), .int (nI i)]) (st0 := [.int ((nI l * nI 20) + nI i), .ref 86]) (σ0 := σ) (ls1 := [.ref 85, .int (nI l), .int (nI i)]) (st1 := [.int (nI ((l * 20) + i)), .ref 86]) (σ1 := σ) rfl (rfl) (by simp only [tw_nadd, tw_nmul]) (rfl) ?_
        refine tw_al (k := 86) (j := ((l * 20) + i)) (len := 80) rfl rfl rfl rfl (rfl) (by omega) (by decide) ?_
        refine tw_sg 1 (i1 := 15) (ls1 := [.ref 85, .int (nI l), .int (nI i)]) (st1 := [.int (σ 86 ((l * 20) + i))]) (σ1 := σ) rfl ?_
        refine tw_ri rfl (rfl) ?_
        show tw_P L xs _ 172 11 [.ref 1, .int (nI l), .int (nI i)] [.int (σ 86 ((l * 20) + i))] σ _
        refine tw_sg 1 (i1 := 13) (ls1 := [.ref 1, .int (nI l), .int (nI i)]) (st1 := [.int (σ 86 ((l * 20) + i))]) (σ1 := σ) rfl ?_
        refine tw_ri rfl (rfl) ?_
        refine ⟨_, rfl, ?_⟩
        show tw_P L xs _ 253 0 [.ref 88, .int (nI l), .int (nI i)] [] σ _
        refine tw_sg 1 (i1 := 1) (ls1 := [.ref 88, .int (nI l), .int (nI i)]) (st1 := [.int (nI l)]) (σ1 := σ) rfl ?_
        refine tw_cl0 59 rfl (rfl) (by decide) ?_
        show tw_P L xs _ 250 0 [.int (nI l)] [] σ _
        refine tw_sg 3 (i1 := 3) (ls1 := [.int (nI l)]) (st1 := [.int (nI 3), .int (nI 0), .int (nI l)]) (σ1 := σ) rfl ?_
        refine tw_cl0 58 rfl (rfl) (by decide) ?_
        show tw_P L xs _ 182 0 [.int (nI l), .int (nI 0), .int (nI 3)] [] σ _
        refine tw_sg 2 (i1 := 2) (ls1 := [.int (nI l), .int (nI 0), .int (nI 3)]) (st1 := [.int (nI 0), .int (nI l)]) (σ1 := σ) rfl ?_
        refine tw_biF (c := .lt) rfl (by rw [tw_clt', tw_nlt (by omega) (by omega)] <;> omega) ?_
        show tw_P L xs _ 182 3 [.int (nI l), .int (nI 0), .int (nI 3)] [] σ _
        refine tw_sg 2 (i1 := 5) (ls1 := [.int (nI l), .int (nI 0), .int (nI 3)]) (st1 := [.int (nI 3), .int (nI l)]) (σ1 := σ) rfl ?_
        refine tw_biF (c := .gt) rfl (by rw [tw_cgt', tw_nlt (by omega) (by omega)] <;> omega) ?_
        show tw_P L xs _ 182 6 [.int (nI l), .int (nI 0), .int (nI 3)] [] σ _
        refine tw_sg 2 (i1 := 9) (ls1 := [.int (nI l), .int (nI 0), .int (nI 3)]) (st1 := [.int (nI 1)]) (σ1 := σ) rfl ?_
        refine tw_ri rfl (rfl) ?_
        show tw_P L xs _ 250 4 [.int (nI l)] [.int (nI 1)] σ _
        refine tw_ri rfl (rfl) ?_
        show tw_P L xs _ 253 2 [.ref 88, .int (nI l), .int (nI i)] [.int (nI 1)] σ _
        refine tw_bzF (c := .eq) rfl (by rw [tw_ceq', tw_neq (by omega) (by omega)] <;> omega) ?_
        show tw_P L xs _ 253 3 [.ref 88, .int (nI l), .int (nI i)] [] σ _
        refine tw_sg 3 (i1 := 6) (ls1 := [.ref 88, .int (nI l), .int (nI i)]) (st1 := [.int (nI l), .ref 117]) (σ1 := σ) rfl ?_
        refine tw_alb (k := 117) (j := l) (len := 4) rfl rfl (by decide) rfl (rfl) (by omega) (by decide) ?_
        rw [e2]
        refine tw_bzF (c := .eq) rfl (by rw [tw_ceq', tw_neq (by omega) (by omega)] <;> omega) ?_
        show tw_P L xs _ 253 8 [.ref 88, .int (nI l), .int (nI i)] [] σ _
        refine tw_sg 5 (i1 := 13) (ls1 := [.ref 88, .int (nI l), .int (nI i)]) (st1 := [.int (nI l), .ref 118, .int (nI 0), .int (nI i)]) (σ1 := σ) rfl ?_
        refine tw_al (k := 118) (j := l) (len := 4) rfl rfl rfl rfl (rfl) (by omega) (by decide) ?_
        rw [e3]
        refine tw_sg 2 (i1 := 16) (ls1 := [.ref 88, .int (nI l), .int (nI i)]) (st1 := [.int (nI s - nI 1), .int (nI 0), .int (nI i)]) (σ1 := σ) rfl ?_
        refine tw_cl1 rfl (rfl) (by decide) (tw_e_inN1 hi (by omega)) ?_
        rintro _ _ ⟨rfl, rfl⟩
        show tw_P L xs _ 253 17 [.ref 88, .int (nI l), .int (nI i)] [.int (nI 1)] σ _
        refine tw_bzF (c := .eq) rfl (by rw [tw_ceq', tw_neq (by omega) (by omega)] <;> omega) ?_
        show tw_P L xs _ 253 18 [.ref 88, .int (nI l), .int (nI i)] [] σ _
        refine tw_sgn 7 (i1 := 25) (ls0 := [.ref 88, .int (nI l), .int (nI i)]) (st0 := [.int ((nI 20 * nI l) + nI i), .ref 119]) (σ0 := σ) (ls1 := [.ref 88, .int (nI l), .int (nI i)]) (st1 := [.int (nI ((20 * l) + i)), .ref 119]) (σ1 := σ) rfl (rfl) (by simp only [tw_nadd, tw_nmul]) (rfl) ?_
        refine tw_al (k := 119) (j := ((20 * l) + i)) (len := 80) rfl rfl rfl rfl (rfl) (by omega) (by decide) ?_
        refine tw_sg 1 (i1 := 28) (ls1 := [.ref 88, .int (nI l), .int (nI i)]) (st1 := [.int (σ 119 ((20 * l) + i))]) (σ1 := σ) rfl ?_
        refine tw_ri rfl (rfl) ?_
        exact ⟨by rw [e4 i hi], hI⟩
      · have hy0 := hy
        rcases hy with hy | ⟨hy, hy2⟩
        · skip
          show tw_P L xs _ 172 0 [.ref 1, .int (nI l), .int y] [] σ _
          refine tw_sg 4 (i1 := 4) (ls1 := [.ref 1, .int (nI l), .int y]) (st1 := [.int y, .int (nI l), .ref 85]) (σ1 := σ) rfl ?_
          refine tw_cl0 59 rfl (rfl) (by decide) ?_
          show tw_P L xs _ 76 0 [.ref 85, .int (nI l), .int y] [] σ _
          refine tw_sg 2 (i1 := 2) (ls1 := [.ref 85, .int (nI l), .int y]) (st1 := [.int (nI l), .ref 85]) (σ1 := σ) rfl ?_
          refine tw_cl0 58 rfl (rfl) (by decide) ?_
          show tw_P L xs _ 74 0 [.ref 85, .int (nI l)] [] σ _
          refine tw_sg 1 (i1 := 1) (ls1 := [.ref 85, .int (nI l)]) (st1 := [.int (nI l)]) (σ1 := σ) rfl ?_
          refine tw_bzF (c := .lt) rfl (by rw [tw_clt', tw_nlt (by omega) (by omega)] <;> omega) ?_
          show tw_P L xs _ 74 2 [.ref 85, .int (nI l)] [] σ _
          refine tw_sg 2 (i1 := 4) (ls1 := [.ref 85, .int (nI l)]) (st1 := [.int (nI 4), .int (nI l)]) (σ1 := σ) rfl ?_
          refine tw_biF (c := .ge) rfl (by rw [tw_cge', tw_nle (by omega) (by omega)] <;> omega) ?_
          show tw_P L xs _ 74 5 [.ref 85, .int (nI l)] [] σ _
          refine tw_sg 2 (i1 := 8) (ls1 := [.ref 85, .int (nI l)]) (st1 := [.int (nI 1)]) (σ1 := σ) rfl ?_
          refine tw_ri rfl (rfl) ?_
          show tw_P L xs _ 76 3 [.ref 85, .int (nI l), .int y] [.int (nI 1)] σ _
          refine tw_bzF (c := .eq) rfl (by rw [tw_ceq', tw_neq (by omega) (by omega)] <;> omega) ?_
          show tw_P L xs _ 76 4 [.ref 85, .int (nI l), .int y] [] σ _
          refine tw_sg 1 (i1 := 5) (ls1 := [.ref 85, .int (nI l), .int y]) (st1 := [.int y]) (σ1 := σ) rfl ?_
          refine tw_bzT (c := .lt) rfl (by rw [tw_clt] <;> (exact hy)) ?_
          show tw_P L xs _ 76 14 [.ref 85, .int (nI l), .int y] [] σ _
          refine tw_sg 1 (i1 := 15) (ls1 := [.ref 85, .int (nI l), .int y]) (st1 := [.int (nI 0)]) (σ1 := σ) rfl ?_
          refine tw_ri rfl (rfl) ?_
          show tw_P L xs _ 172 5 [.ref 1, .int (nI l), .int y] [.int (nI 0)] σ _
          refine tw_bzT (c := .eq) rfl (by rw [tw_ceq, tw_neq (by omega) (by omega)] <;> omega) ?_
          show tw_P L xs _ 172 12 [.ref 1, .int (nI l), .int y] [] σ _
          refine tw_sg 1 (i1 := 13) (ls1 := [.ref 1, .int (nI l), .int y]) (st1 := [.int (-2000000000)]) (σ1 := σ) rfl ?_
          refine tw_ri rfl (rfl) ?_
          refine ⟨_, rfl, ?_⟩
          show tw_P L xs _ 253 0 [.ref 88, .int (nI l), .int y] [] σ _
          refine tw_sg 1 (i1 := 1) (ls1 := [.ref 88, .int (nI l), .int y]) (st1 := [.int (nI l)]) (σ1 := σ) rfl ?_
          refine tw_cl0 59 rfl (rfl) (by decide) ?_
          show tw_P L xs _ 250 0 [.int (nI l)] [] σ _
          refine tw_sg 3 (i1 := 3) (ls1 := [.int (nI l)]) (st1 := [.int (nI 3), .int (nI 0), .int (nI l)]) (σ1 := σ) rfl ?_
          refine tw_cl0 58 rfl (rfl) (by decide) ?_
          show tw_P L xs _ 182 0 [.int (nI l), .int (nI 0), .int (nI 3)] [] σ _
          refine tw_sg 2 (i1 := 2) (ls1 := [.int (nI l), .int (nI 0), .int (nI 3)]) (st1 := [.int (nI 0), .int (nI l)]) (σ1 := σ) rfl ?_
          refine tw_biF (c := .lt) rfl (by rw [tw_clt', tw_nlt (by omega) (by omega)] <;> omega) ?_
          show tw_P L xs _ 182 3 [.int (nI l), .int (nI 0), .int (nI 3)] [] σ _
          refine tw_sg 2 (i1 := 5) (ls1 := [.int (nI l), .int (nI 0), .int (nI 3)]) (st1 := [.int (nI 3), .int (nI l)]) (σ1 := σ) rfl ?_
          refine tw_biF (c := .gt) rfl (by rw [tw_cgt', tw_nlt (by omega) (by omega)] <;> omega) ?_
          show tw_P L xs _ 182 6 [.int (nI l), .int (nI 0), .int (nI 3)] [] σ _
          refine tw_sg 2 (i1 := 9) (ls1 := [.int (nI l), .int (nI 0), .int (nI 3)]) (st1 := [.int (nI 1)]) (σ1 := σ) rfl ?_
          refine tw_ri rfl (rfl) ?_
          show tw_P L xs _ 250 4 [.int (nI l)] [.int (nI 1)] σ _
          refine tw_ri rfl (rfl) ?_
          show tw_P L xs _ 253 2 [.ref 88, .int (nI l), .int y] [.int (nI 1)] σ _
          refine tw_bzF (c := .eq) rfl (by rw [tw_ceq', tw_neq (by omega) (by omega)] <;> omega) ?_
          show tw_P L xs _ 253 3 [.ref 88, .int (nI l), .int y] [] σ _
          refine tw_sg 3 (i1 := 6) (ls1 := [.ref 88, .int (nI l), .int y]) (st1 := [.int (nI l), .ref 117]) (σ1 := σ) rfl ?_
          refine tw_alb (k := 117) (j := l) (len := 4) rfl rfl (by decide) rfl (rfl) (by omega) (by decide) ?_
          rw [e2]
          refine tw_bzF (c := .eq) rfl (by rw [tw_ceq', tw_neq (by omega) (by omega)] <;> omega) ?_
          show tw_P L xs _ 253 8 [.ref 88, .int (nI l), .int y] [] σ _
          refine tw_sg 5 (i1 := 13) (ls1 := [.ref 88, .int (nI l), .int y]) (st1 := [.int (nI l), .ref 118, .int (nI 0), .int y]) (σ1 := σ) rfl ?_
          refine tw_al (k := 118) (j := l) (len := 4) rfl rfl rfl rfl (rfl) (by omega) (by decide) ?_
          rw [e3]
          refine tw_sg 2 (i1 := 16) (ls1 := [.ref 88, .int (nI l), .int y]) (st1 := [.int (nI s - nI 1), .int (nI 0), .int y]) (σ1 := σ) rfl ?_
          refine tw_cl1 rfl (rfl) (by decide) (tw_e_inN0 (by omega) hy0) ?_
          rintro _ _ ⟨rfl, rfl⟩
          show tw_P L xs _ 253 17 [.ref 88, .int (nI l), .int y] [.int (nI 0)] σ _
          refine tw_bzT (c := .eq) rfl (by rw [tw_ceq, tw_neq (by omega) (by omega)] <;> omega) ?_
          show tw_P L xs _ 253 27 [.ref 88, .int (nI l), .int y] [] σ _
          refine tw_sg 1 (i1 := 28) (ls1 := [.ref 88, .int (nI l), .int y]) (st1 := [.int (-2000000000)]) (σ1 := σ) rfl ?_
          refine tw_ri rfl (rfl) ?_
          exact ⟨rfl, hI⟩
        · skip
          show tw_P L xs _ 172 0 [.ref 1, .int (nI l), .int y] [] σ _
          refine tw_sg 4 (i1 := 4) (ls1 := [.ref 1, .int (nI l), .int y]) (st1 := [.int y, .int (nI l), .ref 85]) (σ1 := σ) rfl ?_
          refine tw_cl0 59 rfl (rfl) (by decide) ?_
          show tw_P L xs _ 76 0 [.ref 85, .int (nI l), .int y] [] σ _
          refine tw_sg 2 (i1 := 2) (ls1 := [.ref 85, .int (nI l), .int y]) (st1 := [.int (nI l), .ref 85]) (σ1 := σ) rfl ?_
          refine tw_cl0 58 rfl (rfl) (by decide) ?_
          show tw_P L xs _ 74 0 [.ref 85, .int (nI l)] [] σ _
          refine tw_sg 1 (i1 := 1) (ls1 := [.ref 85, .int (nI l)]) (st1 := [.int (nI l)]) (σ1 := σ) rfl ?_
          refine tw_bzF (c := .lt) rfl (by rw [tw_clt', tw_nlt (by omega) (by omega)] <;> omega) ?_
          show tw_P L xs _ 74 2 [.ref 85, .int (nI l)] [] σ _
          refine tw_sg 2 (i1 := 4) (ls1 := [.ref 85, .int (nI l)]) (st1 := [.int (nI 4), .int (nI l)]) (σ1 := σ) rfl ?_
          refine tw_biF (c := .ge) rfl (by rw [tw_cge', tw_nle (by omega) (by omega)] <;> omega) ?_
          show tw_P L xs _ 74 5 [.ref 85, .int (nI l)] [] σ _
          refine tw_sg 2 (i1 := 8) (ls1 := [.ref 85, .int (nI l)]) (st1 := [.int (nI 1)]) (σ1 := σ) rfl ?_
          refine tw_ri rfl (rfl) ?_
          show tw_P L xs _ 76 3 [.ref 85, .int (nI l), .int y] [.int (nI 1)] σ _
          refine tw_bzF (c := .eq) rfl (by rw [tw_ceq', tw_neq (by omega) (by omega)] <;> omega) ?_
          show tw_P L xs _ 76 4 [.ref 85, .int (nI l), .int y] [] σ _
          refine tw_sg 1 (i1 := 5) (ls1 := [.ref 85, .int (nI l), .int y]) (st1 := [.int y]) (σ1 := σ) rfl ?_
          refine tw_bzF (c := .lt) rfl (by rw [tw_clt'] <;> (exact hy)) ?_
          show tw_P L xs _ 76 6 [.ref 85, .int (nI l), .int y] [] σ _
          refine tw_sg 4 (i1 := 10) (ls1 := [.ref 85, .int (nI l), .int y]) (st1 := [.int (nI l), .ref 87, .int y]) (σ1 := σ) rfl ?_
          refine tw_al (k := 87) (j := l) (len := 4) rfl rfl rfl rfl (rfl) (by omega) (by decide) ?_
          rw [e1]
          refine tw_biT (c := .ge) rfl (by rw [tw_cge] <;> (exact tw_not_lt.mp (tw_not_lt.mpr hy2))) ?_
          show tw_P L xs _ 76 14 [.ref 85, .int (nI l), .int y] [] σ _
          refine tw_sg 1 (i1 := 15) (ls1 := [.ref 85, .int (nI l), .int y]) (st1 := [.int (nI 0)]) (σ1 := σ) rfl ?_
          refine tw_ri rfl (rfl) ?_
          show tw_P L xs _ 172 5 [.ref 1, .int (nI l), .int y] [.int (nI 0)] σ _
          refine tw_bzT (c := .eq) rfl (by rw [tw_ceq, tw_neq (by omega) (by omega)] <;> omega) ?_
          show tw_P L xs _ 172 12 [.ref 1, .int (nI l), .int y] [] σ _
          refine tw_sg 1 (i1 := 13) (ls1 := [.ref 1, .int (nI l), .int y]) (st1 := [.int (-2000000000)]) (σ1 := σ) rfl ?_
          refine tw_ri rfl (rfl) ?_
          refine ⟨_, rfl, ?_⟩
          show tw_P L xs _ 253 0 [.ref 88, .int (nI l), .int y] [] σ _
          refine tw_sg 1 (i1 := 1) (ls1 := [.ref 88, .int (nI l), .int y]) (st1 := [.int (nI l)]) (σ1 := σ) rfl ?_
          refine tw_cl0 59 rfl (rfl) (by decide) ?_
          show tw_P L xs _ 250 0 [.int (nI l)] [] σ _
          refine tw_sg 3 (i1 := 3) (ls1 := [.int (nI l)]) (st1 := [.int (nI 3), .int (nI 0), .int (nI l)]) (σ1 := σ) rfl ?_
          refine tw_cl0 58 rfl (rfl) (by decide) ?_
          show tw_P L xs _ 182 0 [.int (nI l), .int (nI 0), .int (nI 3)] [] σ _
          refine tw_sg 2 (i1 := 2) (ls1 := [.int (nI l), .int (nI 0), .int (nI 3)]) (st1 := [.int (nI 0), .int (nI l)]) (σ1 := σ) rfl ?_
          refine tw_biF (c := .lt) rfl (by rw [tw_clt', tw_nlt (by omega) (by omega)] <;> omega) ?_
          show tw_P L xs _ 182 3 [.int (nI l), .int (nI 0), .int (nI 3)] [] σ _
          refine tw_sg 2 (i1 := 5) (ls1 := [.int (nI l), .int (nI 0), .int (nI 3)]) (st1 := [.int (nI 3), .int (nI l)]) (σ1 := σ) rfl ?_
          refine tw_biF (c := .gt) rfl (by rw [tw_cgt', tw_nlt (by omega) (by omega)] <;> omega) ?_
          show tw_P L xs _ 182 6 [.int (nI l), .int (nI 0), .int (nI 3)] [] σ _
          refine tw_sg 2 (i1 := 9) (ls1 := [.int (nI l), .int (nI 0), .int (nI 3)]) (st1 := [.int (nI 1)]) (σ1 := σ) rfl ?_
          refine tw_ri rfl (rfl) ?_
          show tw_P L xs _ 250 4 [.int (nI l)] [.int (nI 1)] σ _
          refine tw_ri rfl (rfl) ?_
          show tw_P L xs _ 253 2 [.ref 88, .int (nI l), .int y] [.int (nI 1)] σ _
          refine tw_bzF (c := .eq) rfl (by rw [tw_ceq', tw_neq (by omega) (by omega)] <;> omega) ?_
          show tw_P L xs _ 253 3 [.ref 88, .int (nI l), .int y] [] σ _
          refine tw_sg 3 (i1 := 6) (ls1 := [.ref 88, .int (nI l), .int y]) (st1 := [.int (nI l), .ref 117]) (σ1 := σ) rfl ?_
          refine tw_alb (k := 117) (j := l) (len := 4) rfl rfl (by decide) rfl (rfl) (by omega) (by decide) ?_
          rw [e2]
          refine tw_bzF (c := .eq) rfl (by rw [tw_ceq', tw_neq (by omega) (by omega)] <;> omega) ?_
          show tw_P L xs _ 253 8 [.ref 88, .int (nI l), .int y] [] σ _
          refine tw_sg 5 (i1 := 13) (ls1 := [.ref 88, .int (nI l), .int y]) (st1 := [.int (nI l), .ref 118, .int (nI 0), .int y]) (σ1 := σ) rfl ?_
          refine tw_al (k := 118) (j := l) (len := 4) rfl rfl rfl rfl (rfl) (by omega) (by decide) ?_
          rw [e3]
          refine tw_sg 2 (i1 := 16) (ls1 := [.ref 88, .int (nI l), .int y]) (st1 := [.int (nI s - nI 1), .int (nI 0), .int y]) (σ1 := σ) rfl ?_
          refine tw_cl1 rfl (rfl) (by decide) (tw_e_inN0 (by omega) hy0) ?_
          rintro _ _ ⟨rfl, rfl⟩
          show tw_P L xs _ 253 17 [.ref 88, .int (nI l), .int y] [.int (nI 0)] σ _
          refine tw_bzT (c := .eq) rfl (by rw [tw_ceq, tw_neq (by omega) (by omega)] <;> omega) ?_
          show tw_P L xs _ 253 27 [.ref 88, .int (nI l), .int y] [] σ _
          refine tw_sg 1 (i1 := 28) (ls1 := [.ref 88, .int (nI l), .int y]) (st1 := [.int (-2000000000)]) (σ1 := σ) rfl ?_
          refine tw_ri rfl (rfl) ?_
          exact ⟨rfl, hI⟩
  · rcases hx with hx | ⟨hx, hx2⟩
    · skip
      show tw_P L xs _ 172 0 [.ref 1, .int x, .int y] [] σ _
      refine tw_sg 4 (i1 := 4) (ls1 := [.ref 1, .int x, .int y]) (st1 := [.int y, .int x, .ref 85]) (σ1 := σ) rfl ?_
      refine tw_cl0 59 rfl (rfl) (by decide) ?_
      show tw_P L xs _ 76 0 [.ref 85, .int x, .int y] [] σ _
      refine tw_sg 2 (i1 := 2) (ls1 := [.ref 85, .int x, .int y]) (st1 := [.int x, .ref 85]) (σ1 := σ) rfl ?_
      refine tw_cl0 58 rfl (rfl) (by decide) ?_
      show tw_P L xs _ 74 0 [.ref 85, .int x] [] σ _
      refine tw_sg 1 (i1 := 1) (ls1 := [.ref 85, .int x]) (st1 := [.int x]) (σ1 := σ) rfl ?_
      refine tw_bzT (c := .lt) rfl (by rw [tw_clt] <;> (exact hx)) ?_
      show tw_P L xs _ 74 7 [.ref 85, .int x] [] σ _
      refine tw_sg 1 (i1 := 8) (ls1 := [.ref 85, .int x]) (st1 := [.int (nI 0)]) (σ1 := σ) rfl ?_
      refine tw_ri rfl (rfl) ?_
      show tw_P L xs _ 76 3 [.ref 85, .int x, .int y] [.int (nI 0)] σ _
      refine tw_bzT (c := .eq) rfl (by rw [tw_ceq, tw_neq (by omega) (by omega)] <;> omega) ?_
      show tw_P L xs _ 76 14 [.ref 85, .int x, .int y] [] σ _
      refine tw_sg 1 (i1 := 15) (ls1 := [.ref 85, .int x, .int y]) (st1 := [.int (nI 0)]) (σ1 := σ) rfl ?_
      refine tw_ri rfl (rfl) ?_
      show tw_P L xs _ 172 5 [.ref 1, .int x, .int y] [.int (nI 0)] σ _
      refine tw_bzT (c := .eq) rfl (by rw [tw_ceq, tw_neq (by omega) (by omega)] <;> omega) ?_
      show tw_P L xs _ 172 12 [.ref 1, .int x, .int y] [] σ _
      refine tw_sg 1 (i1 := 13) (ls1 := [.ref 1, .int x, .int y]) (st1 := [.int (-2000000000)]) (σ1 := σ) rfl ?_
      refine tw_ri rfl (rfl) ?_
      refine ⟨_, rfl, ?_⟩
      show tw_P L xs _ 253 0 [.ref 88, .int x, .int y] [] σ _
      refine tw_sg 1 (i1 := 1) (ls1 := [.ref 88, .int x, .int y]) (st1 := [.int x]) (σ1 := σ) rfl ?_
      refine tw_cl0 59 rfl (rfl) (by decide) ?_
      show tw_P L xs _ 250 0 [.int x] [] σ _
      refine tw_sg 3 (i1 := 3) (ls1 := [.int x]) (st1 := [.int (nI 3), .int (nI 0), .int x]) (σ1 := σ) rfl ?_
      refine tw_cl0 58 rfl (rfl) (by decide) ?_
      show tw_P L xs _ 182 0 [.int x, .int (nI 0), .int (nI 3)] [] σ _
      refine tw_sg 2 (i1 := 2) (ls1 := [.int x, .int (nI 0), .int (nI 3)]) (st1 := [.int (nI 0), .int x]) (σ1 := σ) rfl ?_
      refine tw_biT (c := .lt) rfl (by rw [tw_clt] <;> (exact hx)) ?_
      show tw_P L xs _ 182 8 [.int x, .int (nI 0), .int (nI 3)] [] σ _
      refine tw_sg 1 (i1 := 9) (ls1 := [.int x, .int (nI 0), .int (nI 3)]) (st1 := [.int (nI 0)]) (σ1 := σ) rfl ?_
      refine tw_ri rfl (rfl) ?_
      show tw_P L xs _ 250 4 [.int x] [.int (nI 0)] σ _
      refine tw_ri rfl (rfl) ?_
      show tw_P L xs _ 253 2 [.ref 88, .int x, .int y] [.int (nI 0)] σ _
      refine tw_bzT (c := .eq) rfl (by rw [tw_ceq, tw_neq (by omega) (by omega)] <;> omega) ?_
      show tw_P L xs _ 253 27 [.ref 88, .int x, .int y] [] σ _
      refine tw_sg 1 (i1 := 28) (ls1 := [.ref 88, .int x, .int y]) (st1 := [.int (-2000000000)]) (σ1 := σ) rfl ?_
      refine tw_ri rfl (rfl) ?_
      exact ⟨rfl, hI⟩
    · skip
      show tw_P L xs _ 172 0 [.ref 1, .int x, .int y] [] σ _
      refine tw_sg 4 (i1 := 4) (ls1 := [.ref 1, .int x, .int y]) (st1 := [.int y, .int x, .ref 85]) (σ1 := σ) rfl ?_
      refine tw_cl0 59 rfl (rfl) (by decide) ?_
      show tw_P L xs _ 76 0 [.ref 85, .int x, .int y] [] σ _
      refine tw_sg 2 (i1 := 2) (ls1 := [.ref 85, .int x, .int y]) (st1 := [.int x, .ref 85]) (σ1 := σ) rfl ?_
      refine tw_cl0 58 rfl (rfl) (by decide) ?_
      show tw_P L xs _ 74 0 [.ref 85, .int x] [] σ _
      refine tw_sg 1 (i1 := 1) (ls1 := [.ref 85, .int x]) (st1 := [.int x]) (σ1 := σ) rfl ?_
      refine tw_bzF (c := .lt) rfl (by rw [tw_clt'] <;> (exact hx)) ?_
      show tw_P L xs _ 74 2 [.ref 85, .int x] [] σ _
      refine tw_sg 2 (i1 := 4) (ls1 := [.ref 85, .int x]) (st1 := [.int (nI 4), .int x]) (σ1 := σ) rfl ?_
      refine tw_biT (c := .ge) rfl (by rw [tw_cge] <;> (exact tw_not_lt.mp (tw_not_lt.mpr hx2))) ?_
      show tw_P L xs _ 74 7 [.ref 85, .int x] [] σ _
      refine tw_sg 1 (i1 := 8) (ls1 := [.ref 85, .int x]) (st1 := [.int (nI 0)]) (σ1 := σ) rfl ?_
      refine tw_ri rfl (rfl) ?_
      show tw_P L xs _ 76 3 [.ref 85, .int x, .int y] [.int (nI 0)] σ _
      refine tw_bzT (c := .eq) rfl (by rw [tw_ceq, tw_neq (by omega) (by omega)] <;> omega) ?_
      show tw_P L xs _ 76 14 [.ref 85, .int x, .int y] [] σ _
      refine tw_sg 1 (i1 := 15) (ls1 := [.ref 85, .int x, .int y]) (st1 := [.int (nI 0)]) (σ1 := σ) rfl ?_
      refine tw_ri rfl (rfl) ?_
      show tw_P L xs _ 172 5 [.ref 1, .int x, .int y] [.int (nI 0)] σ _
      refine tw_bzT (c := .eq) rfl (by rw [tw_ceq, tw_neq (by omega) (by omega)] <;> omega) ?_
      show tw_P L xs _ 172 12 [.ref 1, .int x, .int y] [] σ _
      refine tw_sg 1 (i1 := 13) (ls1 := [.ref 1, .int x, .int y]) (st1 := [.int (-2000000000)]) (σ1 := σ) rfl ?_
      refine tw_ri rfl (rfl) ?_
      refine ⟨_, rfl, ?_⟩
      show tw_P L xs _ 253 0 [.ref 88, .int x, .int y] [] σ _
      refine tw_sg 1 (i1 := 1) (ls1 := [.ref 88, .int x, .int y]) (st1 := [.int x]) (σ1 := σ) rfl ?_
      refine tw_cl0 59 rfl (rfl) (by decide) ?_
      show tw_P L xs _ 250 0 [.int x] [] σ _
      refine tw_sg 3 (i1 := 3) (ls1 := [.int x]) (st1 := [.int (nI 3), .int (nI 0), .int x]) (σ1 := σ) rfl ?_
      refine tw_cl0 58 rfl (rfl) (by decide) ?_
      show tw_P L xs _ 182 0 [.int x, .int (nI 0), .int (nI 3)] [] σ _
      refine tw_sg 2 (i1 := 2) (ls1 := [.int x, .int (nI 0), .int (nI 3)]) (st1 := [.int (nI 0), .int x]) (σ1 := σ) rfl ?_
      refine tw_biF (c := .lt) rfl (by rw [tw_clt'] <;> (exact hx)) ?_
      show tw_P L xs _ 182 3 [.int x, .int (nI 0), .int (nI 3)] [] σ _
      refine tw_sg 2 (i1 := 5) (ls1 := [.int x, .int (nI 0), .int (nI 3)]) (st1 := [.int (nI 3), .int x]) (σ1 := σ) rfl ?_
      refine tw_biT (c := .gt) rfl (by rw [tw_cgt] <;> (exact (tw_lt_le1 (n := 3) (by decide) hx2))) ?_
      show tw_P L xs _ 182 8 [.int x, .int (nI 0), .int (nI 3)] [] σ _
      refine tw_sg 1 (i1 := 9) (ls1 := [.int x, .int (nI 0), .int (nI 3)]) (st1 := [.int (nI 0)]) (σ1 := σ) rfl ?_
      refine tw_ri rfl (rfl) ?_
      show tw_P L xs _ 250 4 [.int x] [.int (nI 0)] σ _
      refine tw_ri rfl (rfl) ?_
      show tw_P L xs _ 253 2 [.ref 88, .int x, .int y] [.int (nI 0)] σ _
      refine tw_bzT (c := .eq) rfl (by rw [tw_ceq, tw_neq (by omega) (by omega)] <;> omega) ?_
      show tw_P L xs _ 253 27 [.ref 88, .int x, .int y] [] σ _
      refine tw_sg 1 (i1 := 28) (ls1 := [.ref 88, .int x, .int y]) (st1 := [.int (-2000000000)]) (σ1 := σ) rfl ?_
      refine tw_ri rfl (rfl) ?_
      exact ⟨rfl, hI⟩
set_option maxHeartbeats 4000000 in
set_option maxRecDepth 100000 in
theorem tw_e_renew {Q : Option Value → tw_Mem → Prop} {l s : Nat} (hl : l < 4) (hs : s ≤ 20) (hQ : ∀ τ : tw_Mem, (∀ k i, ¬ (k = 86 ∧ l * 20 ≤ i ∧ i < l * 20 + s) → τ k i = tw_upd σ 87 l (nI s) k i) → (∀ i, i < s → τ 86 (l * 20 + i) = nI 0) → Q none τ) : tw_E L xs 1 78 [.ref 85, .int (nI l), .int (nI s)] σ Q := by
  show tw_P L xs _ 78 0 [.ref 85, .int (nI l), .int (nI s), tw_U] [] σ _
  refine tw_sg 2 (i1 := 2) (ls1 := [.ref 85, .int (nI l), .int (nI s), tw_U]) (st1 := [.int (nI l), .ref 85]) (σ1 := σ) rfl ?_
  refine tw_cl0 0 rfl (rfl) (by decide) ?_
  show tw_P L xs _ 74 0 [.ref 85, .int (nI l)] [] σ _
  refine tw_sg 1 (i1 := 1) (ls1 := [.ref 85, .int (nI l)]) (st1 := [.int (nI l)]) (σ1 := σ) rfl ?_
  refine tw_bzF (c := .lt) rfl (by rw [tw_clt', tw_nlt (by omega) (by omega)] <;> omega) ?_
  show tw_P L xs _ 74 2 [.ref 85, .int (nI l)] [] σ _
  refine tw_sg 2 (i1 := 4) (ls1 := [.ref 85, .int (nI l)]) (st1 := [.int (nI 4), .int (nI l)]) (σ1 := σ) rfl ?_
  refine tw_biF (c := .ge) rfl (by rw [tw_cge', tw_nle (by omega) (by omega)] <;> omega) ?_
  show tw_P L xs _ 74 5 [.ref 85, .int (nI l)] [] σ _
  refine tw_sg 2 (i1 := 8) (ls1 := [.ref 85, .int (nI l)]) (st1 := [.int (nI 1)]) (σ1 := σ) rfl ?_
  refine tw_ri rfl (rfl) ?_
  show tw_P L xs _ 78 3 [.ref 85, .int (nI l), .int (nI s), tw_U] [.int (nI 1)] σ _
  refine tw_bzF (c := .eq) rfl (by rw [tw_ceq', tw_neq (by omega) (by omega)] <;> omega) ?_
  show tw_P L xs _ 78 4 [.ref 85, .int (nI l), .int (nI s), tw_U] [] σ _
  refine tw_sg 1 (i1 := 5) (ls1 := [.ref 85, .int (nI l), .int (nI s), tw_U]) (st1 := [.int (nI s)]) (σ1 := σ) rfl ?_
  refine tw_bzF (c := .lt) rfl (by rw [tw_clt', tw_nlt (by omega) (by omega)] <;> omega) ?_
  show tw_P L xs _ 78 6 [.ref 85, .int (nI l), .int (nI s), tw_U] [] σ _
  refine tw_sg 2 (i1 := 8) (ls1 := [.ref 85, .int (nI l), .int (nI s), tw_U]) (st1 := [.int (nI 20), .int (nI s)]) (σ1 := σ) rfl ?_
  refine tw_biT (c := .le) rfl (by rw [tw_cle, tw_nle (by omega) (by omega)] <;> omega) ?_
  show tw_P L xs _ 78 10 [.ref 85, .int (nI l), .int (nI s), tw_U] [] σ _
  refine tw_sg 4 (i1 := 14) (ls1 := [.ref 85, .int (nI l), .int (nI s), tw_U]) (st1 := [.int (nI s), .int (nI l), .ref 87]) (σ1 := σ) rfl ?_
  refine tw_as (k := 87) (j := l) (len := 4) rfl rfl rfl (rfl) (by omega) (by decide) ?_
  refine tw_sg 2 (i1 := 17) (ls1 := [.ref 85, .int (nI l), .int (nI s), .int (nI 0)]) (st1 := []) (σ1 := (tw_upd σ 87 l (nI s))) rfl ?_
  exact tw_P_le (tw_l_renew hl hs s 0 _ (by omega) (fun τ h1 h2 => hQ τ (fun k i h => h1 k i (by omega)) (fun i h => h2 i (by omega) h))) (by decide)
set_option maxHeartbeats 4000000 in
set_option maxRecDepth 100000 in
theorem tw_o_list {L : Nat} {xs : Nat → Int32} (x : Int32) (y : Int32) : tw_op L xs 170 251 [.int x, .int y] := by
  intro σ hI
  obtain ⟨hL, hT, hPp, hPc, hLs, hIm, hC14, hC46, hC72⟩ := id hI
  rcases tw_within x 4 (by decide) with ⟨l, hl, rfl⟩ | hx
  · by_cases hy20 : nI 20 < y
    · skip
      show tw_P L xs _ 170 0 [.ref 1, .int (nI l), .int y] [] σ _
      refine tw_sg 3 (i1 := 3) (ls1 := [.ref 1, .int (nI l), .int y]) (st1 := [.int (nI l), .ref 85]) (σ1 := σ) rfl ?_
      refine tw_cl0 59 rfl (rfl) (by decide) ?_
      show tw_P L xs _ 74 0 [.ref 85, .int (nI l)] [] σ _
      refine tw_sg 1 (i1 := 1) (ls1 := [.ref 85, .int (nI l)]) (st1 := [.int (nI l)]) (σ1 := σ) rfl ?_
      refine tw_bzF (c := .lt) rfl (by rw [tw_clt', tw_nlt (by omega) (by omega)] <;> omega) ?_
      show tw_P L xs _ 74 2 [.ref 85, .int (nI l)] [] σ _
      refine tw_sg 2 (i1 := 4) (ls1 := [.ref 85, .int (nI l)]) (st1 := [.int (nI 4), .int (nI l)]) (σ1 := σ) rfl ?_
      refine tw_biF (c := .ge) rfl (by rw [tw_cge', tw_nle (by omega) (by omega)] <;> omega) ?_
      show tw_P L xs _ 74 5 [.ref 85, .int (nI l)] [] σ _
      refine tw_sg 2 (i1 := 8) (ls1 := [.ref 85, .int (nI l)]) (st1 := [.int (nI 1)]) (σ1 := σ) rfl ?_
      refine tw_ri rfl (rfl) ?_
      show tw_P L xs _ 170 4 [.ref 1, .int (nI l), .int y] [.int (nI 1)] σ _
      refine tw_bzT (c := .ne) rfl (by rw [tw_cne, tw_neq (by omega) (by omega)] <;> omega) ?_
      show tw_P L xs _ 170 7 [.ref 1, .int (nI l), .int y] [] σ _
      refine tw_sg 2 (i1 := 9) (ls1 := [.ref 1, .int (nI l), .int y]) (st1 := [.int (nI 20), .int y]) (σ1 := σ) rfl ?_
      refine tw_biF (c := .le) rfl (by rw [tw_cle'] <;> (exact tw_not_le.mpr hy20)) ?_
      show tw_P L xs _ 170 10 [.ref 1, .int (nI l), .int y] [] σ _
      refine tw_sg 1 (i1 := 11) (ls1 := [.ref 1, .int (nI l), .int y]) (st1 := [.int (-2)]) (σ1 := σ) rfl ?_
      refine tw_ri rfl (rfl) ?_
      refine ⟨_, rfl, ?_⟩
      show tw_P L xs _ 251 0 [.ref 88, .int (nI l), .int y, tw_U] [] σ _
      refine tw_sg 1 (i1 := 1) (ls1 := [.ref 88, .int (nI l), .int y, tw_U]) (st1 := [.int (nI l)]) (σ1 := σ) rfl ?_
      refine tw_cl0 59 rfl (rfl) (by decide) ?_
      show tw_P L xs _ 250 0 [.int (nI l)] [] σ _
      refine tw_sg 3 (i1 := 3) (ls1 := [.int (nI l)]) (st1 := [.int (nI 3), .int (nI 0), .int (nI l)]) (σ1 := σ) rfl ?_
      refine tw_cl0 58 rfl (rfl) (by decide) ?_
      show tw_P L xs _ 182 0 [.int (nI l), .int (nI 0), .int (nI 3)] [] σ _
      refine tw_sg 2 (i1 := 2) (ls1 := [.int (nI l), .int (nI 0), .int (nI 3)]) (st1 := [.int (nI 0), .int (nI l)]) (σ1 := σ) rfl ?_
      refine tw_biF (c := .lt) rfl (by rw [tw_clt', tw_nlt (by omega) (by omega)] <;> omega) ?_
      show tw_P L xs _ 182 3 [.int (nI l), .int (nI 0), .int (nI 3)] [] σ _
      refine tw_sg 2 (i1 := 5) (ls1 := [.int (nI l), .int (nI 0), .int (nI 3)]) (st1 := [.int (nI 3), .int (nI l)]) (σ1 := σ) rfl ?_
      refine tw_biF (c := .gt) rfl (by rw [tw_cgt', tw_nlt (by omega) (by omega)] <;> omega) ?_
      show tw_P L xs _ 182 6 [.int (nI l), .int (nI 0), .int (nI 3)] [] σ _
      refine tw_sg 2 (i1 := 9) (ls1 := [.int (nI l), .int (nI 0), .int (nI 3)]) (st1 := [.int (nI 1)]) (σ1 := σ) rfl ?_
      refine tw_ri rfl (rfl) ?_
      show tw_P L xs _ 250 4 [.int (nI l)] [.int (nI 1)] σ _
      refine tw_ri rfl (rfl) ?_
      show tw_P L xs _ 251 2 [.ref 88, .int (nI l), .int y, tw_U] [.int (nI 1)] σ _
      refine tw_bzT (c := .ne) rfl (by rw [tw_cne, tw_neq (by omega) (by omega)] <;> omega) ?_
      show tw_P L xs _ 251 5 [.ref 88, .int (nI l), .int y, tw_U] [] σ _
      refine tw_sg 2 (i1 := 7) (ls1 := [.ref 88, .int (nI l), .int y, tw_U]) (st1 := [.int (nI 20), .int y]) (σ1 := σ) rfl ?_
      refine tw_biF (c := .le) rfl (by rw [tw_cle'] <;> (exact tw_not_le.mpr hy20)) ?_
      show tw_P L xs _ 251 8 [.ref 88, .int (nI l), .int y, tw_U] [] σ _
      refine tw_sg 1 (i1 := 9) (ls1 := [.ref 88, .int (nI l), .int y, tw_U]) (st1 := [.int (-2)]) (σ1 := σ) rfl ?_
      refine tw_ri rfl (rfl) ?_
      exact ⟨rfl, hI⟩
    · by_cases hy : y < nI 0
      · skip
        show tw_P L xs _ 170 0 [.ref 1, .int (nI l), .int y] [] σ _
        refine tw_sg 3 (i1 := 3) (ls1 := [.ref 1, .int (nI l), .int y]) (st1 := [.int (nI l), .ref 85]) (σ1 := σ) rfl ?_
        refine tw_cl0 59 rfl (rfl) (by decide) ?_
        show tw_P L xs _ 74 0 [.ref 85, .int (nI l)] [] σ _
        refine tw_sg 1 (i1 := 1) (ls1 := [.ref 85, .int (nI l)]) (st1 := [.int (nI l)]) (σ1 := σ) rfl ?_
        refine tw_bzF (c := .lt) rfl (by rw [tw_clt', tw_nlt (by omega) (by omega)] <;> omega) ?_
        show tw_P L xs _ 74 2 [.ref 85, .int (nI l)] [] σ _
        refine tw_sg 2 (i1 := 4) (ls1 := [.ref 85, .int (nI l)]) (st1 := [.int (nI 4), .int (nI l)]) (σ1 := σ) rfl ?_
        refine tw_biF (c := .ge) rfl (by rw [tw_cge', tw_nle (by omega) (by omega)] <;> omega) ?_
        show tw_P L xs _ 74 5 [.ref 85, .int (nI l)] [] σ _
        refine tw_sg 2 (i1 := 8) (ls1 := [.ref 85, .int (nI l)]) (st1 := [.int (nI 1)]) (σ1 := σ) rfl ?_
        refine tw_ri rfl (rfl) ?_
        show tw_P L xs _ 170 4 [.ref 1, .int (nI l), .int y] [.int (nI 1)] σ _
        refine tw_bzT (c := .ne) rfl (by rw [tw_cne, tw_neq (by omega) (by omega)] <;> omega) ?_
        show tw_P L xs _ 170 7 [.ref 1, .int (nI l), .int y] [] σ _
        refine tw_sg 2 (i1 := 9) (ls1 := [.ref 1, .int (nI l), .int y]) (st1 := [.int (nI 20), .int y]) (σ1 := σ) rfl ?_
        refine tw_biT (c := .le) rfl (by rw [tw_cle] <;> (exact tw_not_lt.mp hy20)) ?_
        show tw_P L xs _ 170 12 [.ref 1, .int (nI l), .int y] [] σ _
        refine tw_sg 1 (i1 := 13) (ls1 := [.ref 1, .int (nI l), .int y]) (st1 := [.int y]) (σ1 := σ) rfl ?_
        refine tw_bzF (c := .ge) rfl (by rw [tw_cge'] <;> (exact tw_not_le.mpr hy)) ?_
        show tw_P L xs _ 170 14 [.ref 1, .int (nI l), .int y] [] σ _
        refine tw_sg 1 (i1 := 15) (ls1 := [.ref 1, .int (nI l), .int y]) (st1 := [.int (-14)]) (σ1 := σ) rfl ?_
        refine tw_ri rfl (rfl) ?_
        refine ⟨_, rfl, ?_⟩
        show tw_P L xs _ 251 0 [.ref 88, .int (nI l), .int y, tw_U] [] σ _
        refine tw_sg 1 (i1 := 1) (ls1 := [.ref 88, .int (nI l), .int y, tw_U]) (st1 := [.int (nI l)]) (σ1 := σ) rfl ?_
        refine tw_cl0 59 rfl (rfl) (by decide) ?_
        show tw_P L xs _ 250 0 [.int (nI l)] [] σ _
        refine tw_sg 3 (i1 := 3) (ls1 := [.int (nI l)]) (st1 := [.int (nI 3), .int (nI 0), .int (nI l)]) (σ1 := σ) rfl ?_
        refine tw_cl0 58 rfl (rfl) (by decide) ?_
        show tw_P L xs _ 182 0 [.int (nI l), .int (nI 0), .int (nI 3)] [] σ _
        refine tw_sg 2 (i1 := 2) (ls1 := [.int (nI l), .int (nI 0), .int (nI 3)]) (st1 := [.int (nI 0), .int (nI l)]) (σ1 := σ) rfl ?_
        refine tw_biF (c := .lt) rfl (by rw [tw_clt', tw_nlt (by omega) (by omega)] <;> omega) ?_
        show tw_P L xs _ 182 3 [.int (nI l), .int (nI 0), .int (nI 3)] [] σ _
        refine tw_sg 2 (i1 := 5) (ls1 := [.int (nI l), .int (nI 0), .int (nI 3)]) (st1 := [.int (nI 3), .int (nI l)]) (σ1 := σ) rfl ?_
        refine tw_biF (c := .gt) rfl (by rw [tw_cgt', tw_nlt (by omega) (by omega)] <;> omega) ?_
        show tw_P L xs _ 182 6 [.int (nI l), .int (nI 0), .int (nI 3)] [] σ _
        refine tw_sg 2 (i1 := 9) (ls1 := [.int (nI l), .int (nI 0), .int (nI 3)]) (st1 := [.int (nI 1)]) (σ1 := σ) rfl ?_
        refine tw_ri rfl (rfl) ?_
        show tw_P L xs _ 250 4 [.int (nI l)] [.int (nI 1)] σ _
        refine tw_ri rfl (rfl) ?_
        show tw_P L xs _ 251 2 [.ref 88, .int (nI l), .int y, tw_U] [.int (nI 1)] σ _
        refine tw_bzT (c := .ne) rfl (by rw [tw_cne, tw_neq (by omega) (by omega)] <;> omega) ?_
        show tw_P L xs _ 251 5 [.ref 88, .int (nI l), .int y, tw_U] [] σ _
        refine tw_sg 2 (i1 := 7) (ls1 := [.ref 88, .int (nI l), .int y, tw_U]) (st1 := [.int (nI 20), .int y]) (σ1 := σ) rfl ?_
        refine tw_biT (c := .le) rfl (by rw [tw_cle] <;> (exact tw_not_lt.mp hy20)) ?_
        show tw_P L xs _ 251 10 [.ref 88, .int (nI l), .int y, tw_U] [] σ _
        refine tw_sg 1 (i1 := 11) (ls1 := [.ref 88, .int (nI l), .int y, tw_U]) (st1 := [.int y]) (σ1 := σ) rfl ?_
        refine tw_bzF (c := .ge) rfl (by rw [tw_cge'] <;> (exact tw_not_le.mpr hy)) ?_
        show tw_P L xs _ 251 12 [.ref 88, .int (nI l), .int y, tw_U] [] σ _
        refine tw_sg 1 (i1 := 13) (ls1 := [.ref 88, .int (nI l), .int y, tw_U]) (st1 := [.int (-14)]) (σ1 := σ) rfl ?_
        refine tw_ri rfl (rfl) ?_
        exact ⟨rfl, hI⟩
      · obtain ⟨s, hs, rfl⟩ : ∃ s, s ≤ 20 ∧ y = nI s := by
          rcases tw_nany y with h | ⟨s, h1, h2⟩
          · exact absurd h hy
          · rw [h2, tw_nlt (by omega) h1] at hy20; exact ⟨s, by omega, h2⟩
        rw [tw_nlt (by omega) (by omega)] at hy20
        show tw_P L xs _ 170 0 [.ref 1, .int (nI l), .int (nI s)] [] σ _
        refine tw_sg 3 (i1 := 3) (ls1 := [.ref 1, .int (nI l), .int (nI s)]) (st1 := [.int (nI l), .ref 85]) (σ1 := σ) rfl ?_
        refine tw_cl0 59 rfl (rfl) (by decide) ?_
        show tw_P L xs _ 74 0 [.ref 85, .int (nI l)] [] σ _
        refine tw_sg 1 (i1 := 1) (ls1 := [.ref 85, .int (nI l)]) (st1 := [.int (nI l)]) (σ1 := σ) rfl ?_
        refine tw_bzF (c := .lt) rfl (by rw [tw_clt', tw_nlt (by omega) (by omega)] <;> omega) ?_
        show tw_P L xs _ 74 2 [.ref 85, .int (nI l)] [] σ _
        refine tw_sg 2 (i1 := 4) (ls1 := [.ref 85, .int (nI l)]) (st1 := [.int (nI 4), .int (nI l)]) (σ1 := σ) rfl ?_
        refine tw_biF (c := .ge) rfl (by rw [tw_cge', tw_nle (by omega) (by omega)] <;> omega) ?_
        show tw_P L xs _ 74 5 [.ref 85, .int (nI l)] [] σ _
        refine tw_sg 2 (i1 := 8) (ls1 := [.ref 85, .int (nI l)]) (st1 := [.int (nI 1)]) (σ1 := σ) rfl ?_
        refine tw_ri rfl (rfl) ?_
        show tw_P L xs _ 170 4 [.ref 1, .int (nI l), .int (nI s)] [.int (nI 1)] σ _
        refine tw_bzT (c := .ne) rfl (by rw [tw_cne, tw_neq (by omega) (by omega)] <;> omega) ?_
        show tw_P L xs _ 170 7 [.ref 1, .int (nI l), .int (nI s)] [] σ _
        refine tw_sg 2 (i1 := 9) (ls1 := [.ref 1, .int (nI l), .int (nI s)]) (st1 := [.int (nI 20), .int (nI s)]) (σ1 := σ) rfl ?_
        refine tw_biT (c := .le) rfl (by rw [tw_cle, tw_nle (by omega) (by omega)] <;> omega) ?_
        show tw_P L xs _ 170 12 [.ref 1, .int (nI l), .int (nI s)] [] σ _
        refine tw_sg 1 (i1 := 13) (ls1 := [.ref 1, .int (nI l), .int (nI s)]) (st1 := [.int (nI s)]) (σ1 := σ) rfl ?_
        refine tw_bzT (c := .ge) rfl (by rw [tw_cge, tw_nle (by omega) (by omega)] <;> omega) ?_
        show tw_P L xs _ 170 16 [.ref 1, .int (nI l), .int (nI s)] [] σ _
        refine tw_sg 4 (i1 := 20) (ls1 := [.ref 1, .int (nI l), .int (nI s)]) (st1 := [.int (nI s), .int (nI l), .ref 85]) (σ1 := σ) rfl ?_
        refine tw_cl1 rfl (rfl) (by decide) (tw_e_renew (Q := fun v τ => v = none ∧ (∀ k i, ¬ (k = 86 ∧ l * 20 ≤ i ∧ i < l * 20 + s) → τ k i = tw_upd σ 87 l (nI s) k i) ∧ (∀ i, i < s → τ 86 (l * 20 + i) = nI 0)) hl hs (fun τ h1 h2 => ⟨rfl, h1, h2⟩)) ?_
        rintro _ τ ⟨rfl, h1, h2⟩
        show tw_P L xs _ 170 21 [.ref 1, .int (nI l), .int (nI s)] [] τ _
        refine tw_sg 1 (i1 := 22) (ls1 := [.ref 1, .int (nI l), .int (nI s)]) (st1 := [.int (nI 1)]) (σ1 := τ) rfl ?_
        refine tw_ri rfl (rfl) ?_
        refine ⟨_, rfl, ?_⟩
        show tw_P L xs _ 251 0 [.ref 88, .int (nI l), .int (nI s), tw_U] [] τ _
        refine tw_sg 1 (i1 := 1) (ls1 := [.ref 88, .int (nI l), .int (nI s), tw_U]) (st1 := [.int (nI l)]) (σ1 := τ) rfl ?_
        refine tw_cl0 59 rfl (rfl) (by decide) ?_
        show tw_P L xs _ 250 0 [.int (nI l)] [] τ _
        refine tw_sg 3 (i1 := 3) (ls1 := [.int (nI l)]) (st1 := [.int (nI 3), .int (nI 0), .int (nI l)]) (σ1 := τ) rfl ?_
        refine tw_cl0 58 rfl (rfl) (by decide) ?_
        show tw_P L xs _ 182 0 [.int (nI l), .int (nI 0), .int (nI 3)] [] τ _
        refine tw_sg 2 (i1 := 2) (ls1 := [.int (nI l), .int (nI 0), .int (nI 3)]) (st1 := [.int (nI 0), .int (nI l)]) (σ1 := τ) rfl ?_
        refine tw_biF (c := .lt) rfl (by rw [tw_clt', tw_nlt (by omega) (by omega)] <;> omega) ?_
        show tw_P L xs _ 182 3 [.int (nI l), .int (nI 0), .int (nI 3)] [] τ _
        refine tw_sg 2 (i1 := 5) (ls1 := [.int (nI l), .int (nI 0), .int (nI 3)]) (st1 := [.int (nI 3), .int (nI l)]) (σ1 := τ) rfl ?_
        refine tw_biF (c := .gt) rfl (by rw [tw_cgt', tw_nlt (by omega) (by omega)] <;> omega) ?_
        show tw_P L xs _ 182 6 [.int (nI l), .int (nI 0), .int (nI 3)] [] τ _
        refine tw_sg 2 (i1 := 9) (ls1 := [.int (nI l), .int (nI 0), .int (nI 3)]) (st1 := [.int (nI 1)]) (σ1 := τ) rfl ?_
        refine tw_ri rfl (rfl) ?_
        show tw_P L xs _ 250 4 [.int (nI l)] [.int (nI 1)] τ _
        refine tw_ri rfl (rfl) ?_
        show tw_P L xs _ 251 2 [.ref 88, .int (nI l), .int (nI s), tw_U] [.int (nI 1)] τ _
        refine tw_bzT (c := .ne) rfl (by rw [tw_cne, tw_neq (by omega) (by omega)] <;> omega) ?_
        show tw_P L xs _ 251 5 [.ref 88, .int (nI l), .int (nI s), tw_U] [] τ _
        refine tw_sg 2 (i1 := 7) (ls1 := [.ref 88, .int (nI l), .int (nI s), tw_U]) (st1 := [.int (nI 20), .int (nI s)]) (σ1 := τ) rfl ?_
        refine tw_biT (c := .le) rfl (by rw [tw_cle, tw_nle (by omega) (by omega)] <;> omega) ?_
        show tw_P L xs _ 251 10 [.ref 88, .int (nI l), .int (nI s), tw_U] [] τ _
        refine tw_sg 1 (i1 := 11) (ls1 := [.ref 88, .int (nI l), .int (nI s), tw_U]) (st1 := [.int (nI s)]) (σ1 := τ) rfl ?_
        refine tw_bzT (c := .ge) rfl (by rw [tw_cge, tw_nle (by omega) (by omega)] <;> omega) ?_
        show tw_P L xs _ 251 14 [.ref 88, .int (nI l), .int (nI s), tw_U] [] τ _
        refine tw_sg 4 (i1 := 18) (ls1 := [.ref 88, .int (nI l), .int (nI s), tw_U]) (st1 := [.int (nI 1), .int (nI l), .ref 117]) (σ1 := τ) rfl ?_
        refine tw_asb (k := 117) (j := l) (len := 4) (w := (nI 1)) rfl rfl rfl (rfl) (by omega) (by decide) (by decide) ?_
        refine tw_sg 4 (i1 := 23) (ls1 := [.ref 88, .int (nI l), .int (nI s), tw_U]) (st1 := [.int (nI s), .int (nI l), .ref 118]) (σ1 := (tw_upd τ 117 l (nI 1))) rfl ?_
        refine tw_as (k := 118) (j := l) (len := 4) rfl rfl rfl (rfl) (by omega) (by decide) ?_
        refine tw_sg 2 (i1 := 26) (ls1 := [.ref 88, .int (nI l), .int (nI s), .int (nI 0)]) (st1 := []) (σ1 := (tw_upd (tw_upd τ 117 l (nI 1)) 118 l (nI s))) rfl ?_
        refine tw_P_le (d := 0) (tw_l_list hl 20 0 _ (by omega) (fun υ h3 h4 => ⟨rfl, hI.lists (fun l2 hl2 => ?_) (fun k1 j h => ?_)⟩)) (by decide)
        · by_cases hz : l2 = l
          · subst hz
            refine Or.inr ⟨s, hs, ?_, ?_, ?_, fun i hi => ?_⟩
            · rw [h3 _ _ (by omega), tw_upd_off (by omega), tw_upd_off (by omega), h1 _ _ (by omega)]; exact tw_upd_at
            · rw [h3 _ _ (by omega), tw_upd_off (by omega)]; exact tw_upd_at
            · rw [h3 _ _ (by omega)]; exact tw_upd_at
            · rw [h4 i (by omega) (by omega), h3 _ _ (by omega), tw_upd_off (by omega), tw_upd_off (by omega)]; exact h2 i hi
          · rcases hLs l2 hl2 with ⟨g1, g2⟩ | ⟨s2, g0, g1, g2, g3, g4⟩
            · exact Or.inl ⟨by rw [h3 _ _ (by omega), tw_upd_off (by omega), tw_upd_off (by omega), h1 _ _ (by omega), tw_upd_off (by omega)]; exact g1, by rw [h3 _ _ (by omega), tw_upd_off (by omega), tw_upd_off (by omega), h1 _ _ (by omega), tw_upd_off (by omega)]; exact g2⟩
            · refine Or.inr ⟨s2, g0, ?_, ?_, ?_, fun i hi => ?_⟩
              · rw [h3 _ _ (by omega), tw_upd_off (by omega), tw_upd_off (by omega), h1 _ _ (by omega), tw_upd_off (by omega)]; exact g1
              · rw [h3 _ _ (by omega), tw_upd_off (by omega), tw_upd_off (by omega), h1 _ _ (by omega), tw_upd_off (by omega)]; exact g2
              · rw [h3 _ _ (by omega), tw_upd_off (by omega), tw_upd_off (by omega), h1 _ _ (by omega), tw_upd_off (by omega)]; exact g3
              · rw [h3 _ _ (by omega), tw_upd_off (by omega), tw_upd_off (by omega), h1 _ _ (by omega), tw_upd_off (by omega), h3 _ _ (by omega), tw_upd_off (by omega), tw_upd_off (by omega), h1 _ _ (by omega), tw_upd_off (by omega)]; exact g4 i hi
        · unfold tw_fLists at h
          rw [h3 _ _ (by omega), tw_upd_off (by omega), tw_upd_off (by omega), h1 _ _ (by omega), tw_upd_off (by omega)]
  · rcases hx with hx | ⟨hx, hx2⟩
    · skip
      show tw_P L xs _ 170 0 [.ref 1, .int x, .int y] [] σ _
      refine tw_sg 3 (i1 := 3) (ls1 := [.ref 1, .int x, .int y]) (st1 := [.int x, .ref 85]) (σ1 := σ) rfl ?_
      refine tw_cl0 59 rfl (rfl) (by decide) ?_
      show tw_P L xs _ 74 0 [.ref 85, .int x] [] σ _
      refine tw_sg 1 (i1 := 1) (ls1 := [.ref 85, .int x]) (st1 := [.int x]) (σ1 := σ) rfl ?_
      refine tw_bzT (c := .lt) rfl (by rw [tw_clt] <;> (exact hx)) ?_
      show tw_P L xs _ 74 7 [.ref 85, .int x] [] σ _
      refine tw_sg 1 (i1 := 8) (ls1 := [.ref 85, .int x]) (st1 := [.int (nI 0)]) (σ1 := σ) rfl ?_
      refine tw_ri rfl (rfl) ?_
      show tw_P L xs _ 170 4 [.ref 1, .int x, .int y] [.int (nI 0)] σ _
      refine tw_bzF (c := .ne) rfl (by rw [tw_cne', tw_neq (by omega) (by omega)] <;> omega) ?_
      show tw_P L xs _ 170 5 [.ref 1, .int x, .int y] [] σ _
      refine tw_sg 1 (i1 := 6) (ls1 := [.ref 1, .int x, .int y]) (st1 := [.int (-1)]) (σ1 := σ) rfl ?_
      refine tw_ri rfl (rfl) ?_
      refine ⟨_, rfl, ?_⟩
      show tw_P L xs _ 251 0 [.ref 88, .int x, .int y, tw_U] [] σ _
      refine tw_sg 1 (i1 := 1) (ls1 := [.ref 88, .int x, .int y, tw_U]) (st1 := [.int x]) (σ1 := σ) rfl ?_
      refine tw_cl0 59 rfl (rfl) (by decide) ?_
      show tw_P L xs _ 250 0 [.int x] [] σ _
      refine tw_sg 3 (i1 := 3) (ls1 := [.int x]) (st1 := [.int (nI 3), .int (nI 0), .int x]) (σ1 := σ) rfl ?_
      refine tw_cl0 58 rfl (rfl) (by decide) ?_
      show tw_P L xs _ 182 0 [.int x, .int (nI 0), .int (nI 3)] [] σ _
      refine tw_sg 2 (i1 := 2) (ls1 := [.int x, .int (nI 0), .int (nI 3)]) (st1 := [.int (nI 0), .int x]) (σ1 := σ) rfl ?_
      refine tw_biT (c := .lt) rfl (by rw [tw_clt] <;> (exact hx)) ?_
      show tw_P L xs _ 182 8 [.int x, .int (nI 0), .int (nI 3)] [] σ _
      refine tw_sg 1 (i1 := 9) (ls1 := [.int x, .int (nI 0), .int (nI 3)]) (st1 := [.int (nI 0)]) (σ1 := σ) rfl ?_
      refine tw_ri rfl (rfl) ?_
      show tw_P L xs _ 250 4 [.int x] [.int (nI 0)] σ _
      refine tw_ri rfl (rfl) ?_
      show tw_P L xs _ 251 2 [.ref 88, .int x, .int y, tw_U] [.int (nI 0)] σ _
      refine tw_bzF (c := .ne) rfl (by rw [tw_cne', tw_neq (by omega) (by omega)] <;> omega) ?_
      show tw_P L xs _ 251 3 [.ref 88, .int x, .int y, tw_U] [] σ _
      refine tw_sg 1 (i1 := 4) (ls1 := [.ref 88, .int x, .int y, tw_U]) (st1 := [.int (-1)]) (σ1 := σ) rfl ?_
      refine tw_ri rfl (rfl) ?_
      exact ⟨rfl, hI⟩
    · skip
      show tw_P L xs _ 170 0 [.ref 1, .int x, .int y] [] σ _
      refine tw_sg 3 (i1 := 3) (ls1 := [.ref 1, .int x, .int y]) (st1 := [.int x, .ref 85]) (σ1 := σ) rfl ?_
      refine tw_cl0 59 rfl (rfl) (by decide) ?_
      show tw_P L xs _ 74 0 [.ref 85, .int x] [] σ _
      refine tw_sg 1 (i1 := 1) (ls1 := [.ref 85, .int x]) (st1 := [.int x]) (σ1 := σ) rfl ?_
      refine tw_bzF (c := .lt) rfl (by rw [tw_clt'] <;> (exact hx)) ?_
      show tw_P L xs _ 74 2 [.ref 85, .int x] [] σ _
      refine tw_sg 2 (i1 := 4) (ls1 := [.ref 85, .int x]) (st1 := [.int (nI 4), .int x]) (σ1 := σ) rfl ?_
      refine tw_biT (c := .ge) rfl (by rw [tw_cge] <;> (exact tw_not_lt.mp (tw_not_lt.mpr hx2))) ?_
      show tw_P L xs _ 74 7 [.ref 85, .int x] [] σ _
      refine tw_sg 1 (i1 := 8) (ls1 := [.ref 85, .int x]) (st1 := [.int (nI 0)]) (σ1 := σ) rfl ?_
      refine tw_ri rfl (rfl) ?_
      show tw_P L xs _ 170 4 [.ref 1, .int x, .int y] [.int (nI 0)] σ _
      refine tw_bzF (c := .ne) rfl (by rw [tw_cne', tw_neq (by omega) (by omega)] <;> omega) ?_
      show tw_P L xs _ 170 5 [.ref 1, .int x, .int y] [] σ _
      refine tw_sg 1 (i1 := 6) (ls1 := [.ref 1, .int x, .int y]) (st1 := [.int (-1)]) (σ1 := σ) rfl ?_
      refine tw_ri rfl (rfl) ?_
      refine ⟨_, rfl, ?_⟩
      show tw_P L xs _ 251 0 [.ref 88, .int x, .int y, tw_U] [] σ _
      refine tw_sg 1 (i1 := 1) (ls1 := [.ref 88, .int x, .int y, tw_U]) (st1 := [.int x]) (σ1 := σ) rfl ?_
      refine tw_cl0 59 rfl (rfl) (by decide) ?_
      show tw_P L xs _ 250 0 [.int x] [] σ _
      refine tw_sg 3 (i1 := 3) (ls1 := [.int x]) (st1 := [.int (nI 3), .int (nI 0), .int x]) (σ1 := σ) rfl ?_
      refine tw_cl0 58 rfl (rfl) (by decide) ?_
      show tw_P L xs _ 182 0 [.int x, .int (nI 0), .int (nI 3)] [] σ _
      refine tw_sg 2 (i1 := 2) (ls1 := [.int x, .int (nI 0), .int (nI 3)]) (st1 := [.int (nI 0), .int x]) (σ1 := σ) rfl ?_
      refine tw_biF (c := .lt) rfl (by rw [tw_clt'] <;> (exact hx)) ?_
      show tw_P L xs _ 182 3 [.int x, .int (nI 0), .int (nI 3)] [] σ _
      refine tw_sg 2 (i1 := 5) (ls1 := [.int x, .int (nI 0), .int (nI 3)]) (st1 := [.int (nI 3), .int x]) (σ1 := σ) rfl ?_
      refine tw_biT (c := .gt) rfl (by rw [tw_cgt] <;> (exact (tw_lt_le1 (n := 3) (by decide) hx2))) ?_
      show tw_P L xs _ 182 8 [.int x, .int (nI 0), .int (nI 3)] [] σ _
      refine tw_sg 1 (i1 := 9) (ls1 := [.int x, .int (nI 0), .int (nI 3)]) (st1 := [.int (nI 0)]) (σ1 := σ) rfl ?_
      refine tw_ri rfl (rfl) ?_
      show tw_P L xs _ 250 4 [.int x] [.int (nI 0)] σ _
      refine tw_ri rfl (rfl) ?_
      show tw_P L xs _ 251 2 [.ref 88, .int x, .int y, tw_U] [.int (nI 0)] σ _
      refine tw_bzF (c := .ne) rfl (by rw [tw_cne', tw_neq (by omega) (by omega)] <;> omega) ?_
      show tw_P L xs _ 251 3 [.ref 88, .int x, .int y, tw_U] [] σ _
      refine tw_sg 1 (i1 := 4) (ls1 := [.ref 88, .int x, .int y, tw_U]) (st1 := [.int (-1)]) (σ1 := σ) rfl ?_
      refine tw_ri rfl (rfl) ?_
      exact ⟨rfl, hI⟩
end tw_s30
