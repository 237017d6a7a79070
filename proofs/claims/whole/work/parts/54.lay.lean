/-! lay -/
section tw_s54
variable {L : Nat} {xs : Nat → Int32} {σ : tw_Mem} {x y w : Int32} {n r i c k h q a b e : Nat}
set_option maxHeartbeats 4000000 in
set_option maxRecDepth 100000 in
theorem tw_l_layC {L : Nat} {xs : Nat → Int32} {σ0 : tw_Mem} {r n l s y i m : Nat} {A : Int32} {Q : Option Value → tw_Mem → Prop} (hl : l < 4) (hs : s ≤ 20) (hy : y < 2147483648) (hi : i < r) (h50 : r ≤ 50) (h10 : n ≤ 10) (m1 : m ≤ n) (m2 : m = 0 ∨ y + m ≤ s) (m3 : m = n ∨ s ≤ y + m) (A1 : m = n → A = nI n) (A2 : m < n → A = (-13)) (e1 : σ0 87 l = nI s) (hr9 : σ0 9 3 = nI r) (hw9 : σ0 9 4 = nI n) (hF : tw_isF σ0 0 r n (σ0 95)) : ∀ (f c : Nat) (σ : tw_Mem), c + f = m → (∀ k j, ¬ k = 86 → σ k j = σ0 k j) → (∀ τ : tw_Mem, (∀ k j, ¬ (k = 86 ∧ l * 20 + (y + c) ≤ j ∧ j < l * 20 + (y + m)) → τ k j = σ k j) → (∀ q, c ≤ q → q < m → τ 86 (l * 20 + (y + q)) = σ0 95 (10 * i + q)) → Q (some (.int A)) τ) → tw_P L xs 5 173 24 [.ref 1, .int (nI l), .int (nI y), .int (nI i), .ref 9, .int (nI c)] [] σ Q := by
  intro f
  induction f with
  | zero =>
    intro c σ hf hg hQ
    have hf : c = m := hf
    have hE : Q (some (.int A)) σ := hQ σ (fun _ _ _ => rfl) (fun q h1 h2 => by omega)
    rcases (show m = n ∨ (m < n ∧ y < s ∧ y + m = s) ∨ (m < n ∧ s ≤ y) by omega) with hz | hz | hz
    · rw [A1 hz] at hE
      refine tw_sg 2 (i1 := 26) (ls1 := [.ref 1, .int (nI l), .int (nI y), .int (nI i), .ref 9, .int (nI c)]) (st1 := [.ref 9, .int (nI c)]) (σ1 := σ) rfl ?_
      refine tw_cl0 4 rfl (rfl) (by decide) ?_
      show tw_P L xs _ 18 0 [.ref 9] [] σ _
      refine tw_sgn 2 (i1 := 2) (ls0 := [.ref 9]) (st0 := [.int (σ 9 4)]) (σ0 := σ) (ls1 := [.ref 9]) (st1 := [.int (nI n)]) (σ1 := σ) rfl (rfl) (by simp only [((hg 9 4 (by omega)).trans hw9), tw_nadd, tw_nmul]) (rfl) ?_
      refine tw_ri rfl (rfl) ?_
      show tw_P L xs _ 173 27 [.ref 1, .int (nI l), .int (nI y), .int (nI i), .ref 9, .int (nI c)] [.int (nI n), .int (nI c)] σ _
      refine tw_biT (c := .ge) rfl (by rw [tw_cge, tw_nle (by omega) (by omega)] <;> omega) ?_
      show tw_P L xs _ 173 51 [.ref 1, .int (nI l), .int (nI y), .int (nI i), .ref 9, .int (nI c)] [] σ _
      refine tw_sg 1 (i1 := 52) (ls1 := [.ref 1, .int (nI l), .int (nI y), .int (nI i), .ref 9, .int (nI c)]) (st1 := [.ref 9]) (σ1 := σ) rfl ?_
      refine tw_cl0 4 rfl (rfl) (by decide) ?_
      show tw_P L xs _ 18 0 [.ref 9] [] σ _
      refine tw_sgn 2 (i1 := 2) (ls0 := [.ref 9]) (st0 := [.int (σ 9 4)]) (σ0 := σ) (ls1 := [.ref 9]) (st1 := [.int (nI n)]) (σ1 := σ) rfl (rfl) (by simp only [((hg 9 4 (by omega)).trans hw9), tw_nadd, tw_nmul]) (rfl) ?_
      refine tw_ri rfl (rfl) ?_
      show tw_P L xs _ 173 53 [.ref 1, .int (nI l), .int (nI y), .int (nI i), .ref 9, .int (nI c)] [.int (nI n)] σ _
      refine tw_ri rfl (rfl) ?_
      exact hE
    · rw [A2 hz.1] at hE
      refine tw_sg 2 (i1 := 26) (ls1 := [.ref 1, .int (nI l), .int (nI y), .int (nI i), .ref 9, .int (nI c)]) (st1 := [.ref 9, .int (nI c)]) (σ1 := σ) rfl ?_
      refine tw_cl0 4 rfl (rfl) (by decide) ?_
      show tw_P L xs _ 18 0 [.ref 9] [] σ _
      refine tw_sgn 2 (i1 := 2) (ls0 := [.ref 9]) (st0 := [.int (σ 9 4)]) (σ0 := σ) (ls1 := [.ref 9]) (st1 := [.int (nI n)]) (σ1 := σ) rfl (rfl) (by simp only [((hg 9 4 (by omega)).trans hw9), tw_nadd, tw_nmul]) (rfl) ?_
      refine tw_ri rfl (rfl) ?_
      show tw_P L xs _ 173 27 [.ref 1, .int (nI l), .int (nI y), .int (nI i), .ref 9, .int (nI c)] [.int (nI n), .int (nI c)] σ _
      refine tw_biF (c := .ge) rfl (by rw [tw_cge', tw_nle (by omega) (by omega)] <;> omega) ?_
      show tw_P L xs _ 173 28 [.ref 1, .int (nI l), .int (nI y), .int (nI i), .ref 9, .int (nI c)] [] σ _
      refine tw_sg 5 (i1 := 33) (ls1 := [.ref 1, .int (nI l), .int (nI y), .int (nI i), .ref 9, .int (nI c)]) (st1 := [.int (nI c), .int (nI y), .int (nI l), .ref 85]) (σ1 := σ) rfl ?_
      refine tw_cl0 4 rfl (rfl) (by decide) ?_
      show tw_P L xs _ 77 0 [.ref 85, .int (nI l), .int (nI y), .int (nI c)] [] σ _
      refine tw_sg 3 (i1 := 3) (ls1 := [.ref 85, .int (nI l), .int (nI y), .int (nI c)]) (st1 := [.int (nI y), .int (nI l), .ref 85]) (σ1 := σ) rfl ?_
      refine tw_cl0 3 rfl (rfl) (by decide) ?_
      show tw_P L xs _ 76 0 [.ref 85, .int (nI l), .int (nI y)] [] σ _
      refine tw_sg 2 (i1 := 2) (ls1 := [.ref 85, .int (nI l), .int (nI y)]) (st1 := [.int (nI l), .ref 85]) (σ1 := σ) rfl ?_
      refine tw_cl0 2 rfl (rfl) (by decide) ?_
      show tw_P L xs _ 74 0 [.ref 85, .int (nI l)] [] σ _
      refine tw_sg 1 (i1 := 1) (ls1 := [.ref 85, .int (nI l)]) (st1 := [.int (nI l)]) (σ1 := σ) rfl ?_
      refine tw_bzF (c := .lt) rfl (by rw [tw_clt', tw_nlt (by omega) (by omega)] <;> omega) ?_
      show tw_P L xs _ 74 2 [.ref 85, .int (nI l)] [] σ _
      refine tw_sg 2 (i1 := 4) (ls1 := [.ref 85, .int (nI l)]) (st1 := [.int (nI 4), .int (nI l)]) (σ1 := σ) rfl ?_
      refine tw_biF (c := .ge) rfl (by rw [tw_cge', tw_nle (by omega) (by omega)] <;> omega) ?_
      show tw_P L xs _ 74 5 [.ref 85, .int (nI l)] [] σ _
      refine tw_sg 2 (i1 := 8) (ls1 := [.ref 85, .int (nI l)]) (st1 := [.int (nI 1)]) (σ1 := σ) rfl ?_
      refine tw_ri rfl (rfl) ?_
      show tw_P L xs _ 76 3 [.ref 85, .int (nI l), .int (nI y)] [.int (nI 1)] σ _
      refine tw_bzF (c := .eq) rfl (by rw [tw_ceq', tw_neq (by omega) (by omega)] <;> omega) ?_
      show tw_P L xs _ 76 4 [.ref 85, .int (nI l), .int (nI y)] [] σ _
      refine tw_sg 1 (i1 := 5) (ls1 := [.ref 85, .int (nI l), .int (nI y)]) (st1 := [.int (nI y)]) (σ1 := σ) rfl ?_
      refine tw_bzF (c := .lt) rfl (by rw [tw_clt', tw_nlt (by omega) (by omega)] <;> omega) ?_
      show tw_P L xs _ 76 6 [.ref 85, .int (nI l), .int (nI y)] [] σ _
      refine tw_sg 4 (i1 := 10) (ls1 := [.ref 85, .int (nI l), .int (nI y)]) (st1 := [.int (nI l), .ref 87, .int (nI y)]) (σ1 := σ) rfl ?_
      refine tw_al (k := 87) (j := l) (len := 4) rfl rfl rfl rfl (rfl) (by omega) (by decide) ?_
      rw [((hg 87 l (by omega)).trans e1)]
      refine tw_biF (c := .ge) rfl (by rw [tw_cge', tw_nle (by omega) (by omega)] <;> omega) ?_
      show tw_P L xs _ 76 12 [.ref 85, .int (nI l), .int (nI y)] [] σ _
      refine tw_sg 2 (i1 := 15) (ls1 := [.ref 85, .int (nI l), .int (nI y)]) (st1 := [.int (nI 1)]) (σ1 := σ) rfl ?_
      refine tw_ri rfl (rfl) ?_
      show tw_P L xs _ 77 4 [.ref 85, .int (nI l), .int (nI y), .int (nI c)] [.int (nI 1)] σ _
      refine tw_bzF (c := .eq) rfl (by rw [tw_ceq', tw_neq (by omega) (by omega)] <;> omega) ?_
      show tw_P L xs _ 77 5 [.ref 85, .int (nI l), .int (nI y), .int (nI c)] [] σ _
      refine tw_sgn 5 (i1 := 10) (ls0 := [.ref 85, .int (nI l), .int (nI y), .int (nI c)]) (st0 := [.int (nI y + nI c), .int (nI l), .ref 85]) (σ0 := σ) (ls1 := [.ref 85, .int (nI l), .int (nI y), .int (nI c)]) (st1 := [.int (nI (y + c)), .int (nI l), .ref 85]) (σ1 := σ) rfl (rfl) (by simp only [tw_nadd, tw_nmul]) (rfl) ?_
      refine tw_cl0 3 rfl (rfl) (by decide) ?_
      show tw_P L xs _ 76 0 [.ref 85, .int (nI l), .int (nI (y + c))] [] σ _
      refine tw_sg 2 (i1 := 2) (ls1 := [.ref 85, .int (nI l), .int (nI (y + c))]) (st1 := [.int (nI l), .ref 85]) (σ1 := σ) rfl ?_
      refine tw_cl0 2 rfl (rfl) (by decide) ?_
      show tw_P L xs _ 74 0 [.ref 85, .int (nI l)] [] σ _
      refine tw_sg 1 (i1 := 1) (ls1 := [.ref 85, .int (nI l)]) (st1 := [.int (nI l)]) (σ1 := σ) rfl ?_
      refine tw_bzF (c := .lt) rfl (by rw [tw_clt', tw_nlt (by omega) (by omega)] <;> omega) ?_
      show tw_P L xs _ 74 2 [.ref 85, .int (nI l)] [] σ _
      refine tw_sg 2 (i1 := 4) (ls1 := [.ref 85, .int (nI l)]) (st1 := [.int (nI 4), .int (nI l)]) (σ1 := σ) rfl ?_
      refine tw_biF (c := .ge) rfl (by rw [tw_cge', tw_nle (by omega) (by omega)] <;> omega) ?_
      show tw_P L xs _ 74 5 [.ref 85, .int (nI l)] [] σ _
      refine tw_sg 2 (i1 := 8) (ls1 := [.ref 85, .int (nI l)]) (st1 := [.int (nI 1)]) (σ1 := σ) rfl ?_
      refine tw_ri rfl (rfl) ?_
      show tw_P L xs _ 76 3 [.ref 85, .int (nI l), .int (nI (y + c))] [.int (nI 1)] σ _
      refine tw_bzF (c := .eq) rfl (by rw [tw_ceq', tw_neq (by omega) (by omega)] <;> omega) ?_
      show tw_P L xs _ 76 4 [.ref 85, .int (nI l), .int (nI (y + c))] [] σ _
      refine tw_sg 1 (i1 := 5) (ls1 := [.ref 85, .int (nI l), .int (nI (y + c))]) (st1 := [.int (nI (y + c))]) (σ1 := σ) rfl ?_
      refine tw_bzF (c := .lt) rfl (by rw [tw_clt', tw_nlt (by omega) (by omega)] <;> omega) ?_
      show tw_P L xs _ 76 6 [.ref 85, .int (nI l), .int (nI (y + c))] [] σ _
      refine tw_sg 4 (i1 := 10) (ls1 := [.ref 85, .int (nI l), .int (nI (y + c))]) (st1 := [.int (nI l), .ref 87, .int (nI (y + c))]) (σ1 := σ) rfl ?_
      refine tw_al (k := 87) (j := l) (len := 4) rfl rfl rfl rfl (rfl) (by omega) (by decide) ?_
      rw [((hg 87 l (by omega)).trans e1)]
      refine tw_biT (c := .ge) rfl (by rw [tw_cge, tw_nle (by omega) (by omega)] <;> omega) ?_
      show tw_P L xs _ 76 14 [.ref 85, .int (nI l), .int (nI (y + c))] [] σ _
      refine tw_sg 1 (i1 := 15) (ls1 := [.ref 85, .int (nI l), .int (nI (y + c))]) (st1 := [.int (nI 0)]) (σ1 := σ) rfl ?_
      refine tw_ri rfl (rfl) ?_
      show tw_P L xs _ 77 11 [.ref 85, .int (nI l), .int (nI y), .int (nI c)] [.int (nI 0)] σ _
      refine tw_bzT (c := .eq) rfl (by rw [tw_ceq, tw_neq (by omega) (by omega)] <;> omega) ?_
      show tw_P L xs _ 77 14 [.ref 85, .int (nI l), .int (nI y), .int (nI c)] [] σ _
      refine tw_sg 1 (i1 := 15) (ls1 := [.ref 85, .int (nI l), .int (nI y), .int (nI c)]) (st1 := [.int (nI 0)]) (σ1 := σ) rfl ?_
      refine tw_ri rfl (rfl) ?_
      show tw_P L xs _ 173 34 [.ref 1, .int (nI l), .int (nI y), .int (nI i), .ref 9, .int (nI c)] [.int (nI 0)] σ _
      refine tw_bzF (c := .ne) rfl (by rw [tw_cne', tw_neq (by omega) (by omega)] <;> omega) ?_
      show tw_P L xs _ 173 35 [.ref 1, .int (nI l), .int (nI y), .int (nI i), .ref 9, .int (nI c)] [] σ _
      refine tw_sg 1 (i1 := 36) (ls1 := [.ref 1, .int (nI l), .int (nI y), .int (nI i), .ref 9, .int (nI c)]) (st1 := [.int (-13)]) (σ1 := σ) rfl ?_
      refine tw_ri rfl (rfl) ?_
      exact hE
    · rw [A2 hz.1] at hE
      refine tw_sg 2 (i1 := 26) (ls1 := [.ref 1, .int (nI l), .int (nI y), .int (nI i), .ref 9, .int (nI c)]) (st1 := [.ref 9, .int (nI c)]) (σ1 := σ) rfl ?_
      refine tw_cl0 4 rfl (rfl) (by decide) ?_
      show tw_P L xs _ 18 0 [.ref 9] [] σ _
      refine tw_sgn 2 (i1 := 2) (ls0 := [.ref 9]) (st0 := [.int (σ 9 4)]) (σ0 := σ) (ls1 := [.ref 9]) (st1 := [.int (nI n)]) (σ1 := σ) rfl (rfl) (by simp only [((hg 9 4 (by omega)).trans hw9), tw_nadd, tw_nmul]) (rfl) ?_
      refine tw_ri rfl (rfl) ?_
      show tw_P L xs _ 173 27 [.ref 1, .int (nI l), .int (nI y), .int (nI i), .ref 9, .int (nI c)] [.int (nI n), .int (nI c)] σ _
      refine tw_biF (c := .ge) rfl (by rw [tw_cge', tw_nle (by omega) (by omega)] <;> omega) ?_
      show tw_P L xs _ 173 28 [.ref 1, .int (nI l), .int (nI y), .int (nI i), .ref 9, .int (nI c)] [] σ _
      refine tw_sg 5 (i1 := 33) (ls1 := [.ref 1, .int (nI l), .int (nI y), .int (nI i), .ref 9, .int (nI c)]) (st1 := [.int (nI c), .int (nI y), .int (nI l), .ref 85]) (σ1 := σ) rfl ?_
      refine tw_cl0 4 rfl (rfl) (by decide) ?_
      show tw_P L xs _ 77 0 [.ref 85, .int (nI l), .int (nI y), .int (nI c)] [] σ _
      refine tw_sg 3 (i1 := 3) (ls1 := [.ref 85, .int (nI l), .int (nI y), .int (nI c)]) (st1 := [.int (nI y), .int (nI l), .ref 85]) (σ1 := σ) rfl ?_
      refine tw_cl0 3 rfl (rfl) (by decide) ?_
      show tw_P L xs _ 76 0 [.ref 85, .int (nI l), .int (nI y)] [] σ _
      refine tw_sg 2 (i1 := 2) (ls1 := [.ref 85, .int (nI l), .int (nI y)]) (st1 := [.int (nI l), .ref 85]) (σ1 := σ) rfl ?_
      refine tw_cl0 2 rfl (rfl) (by decide) ?_
      show tw_P L xs _ 74 0 [.ref 85, .int (nI l)] [] σ _
      refine tw_sg 1 (i1 := 1) (ls1 := [.ref 85, .int (nI l)]) (st1 := [.int (nI l)]) (σ1 := σ) rfl ?_
      refine tw_bzF (c := .lt) rfl (by rw [tw_clt', tw_nlt (by omega) (by omega)] <;> omega) ?_
      show tw_P L xs _ 74 2 [.ref 85, .int (nI l)] [] σ _
      refine tw_sg 2 (i1 := 4) (ls1 := [.ref 85, .int (nI l)]) (st1 := [.int (nI 4), .int (nI l)]) (σ1 := σ) rfl ?_
      refine tw_biF (c := .ge) rfl (by rw [tw_cge', tw_nle (by omega) (by omega)] <;> omega) ?_
      show tw_P L xs _ 74 5 [.ref 85, .int (nI l)] [] σ _
      refine tw_sg 2 (i1 := 8) (ls1 := [.ref 85, .int (nI l)]) (st1 := [.int (nI 1)]) (σ1 := σ) rfl ?_
      refine tw_ri rfl (rfl) ?_
      show tw_P L xs _ 76 3 [.ref 85, .int (nI l), .int (nI y)] [.int (nI 1)] σ _
      refine tw_bzF (c := .eq) rfl (by rw [tw_ceq', tw_neq (by omega) (by omega)] <;> omega) ?_
      show tw_P L xs _ 76 4 [.ref 85, .int (nI l), .int (nI y)] [] σ _
      refine tw_sg 1 (i1 := 5) (ls1 := [.ref 85, .int (nI l), .int (nI y)]) (st1 := [.int (nI y)]) (σ1 := σ) rfl ?_
      refine tw_bzF (c := .lt) rfl (by rw [tw_clt', tw_nlt (by omega) (by omega)] <;> omega) ?_
      show tw_P L xs _ 76 6 [.ref 85, .int (nI l), .int (nI y)] [] σ _
      refine tw_sg 4 (i1 := 10) (ls1 := [.ref 85, .int (nI l), .int (nI y)]) (st1 := [.int (nI l), .ref 87, .int (nI y)]) (σ1 := σ) rfl ?_
      refine tw_al (k := 87) (j := l) (len := 4) rfl rfl rfl rfl (rfl) (by omega) (by decide) ?_
      rw [((hg 87 l (by omega)).trans e1)]
      refine tw_biT (c := .ge) rfl (by rw [tw_cge, tw_nle (by omega) (by omega)] <;> omega) ?_
      show tw_P L xs _ 76 14 [.ref 85, .int (nI l), .int (nI y)] [] σ _
      refine tw_sg 1 (i1 := 15) (ls1 := [.ref 85, .int (nI l), .int (nI y)]) (st1 := [.int (nI 0)]) (σ1 := σ) rfl ?_
      refine tw_ri rfl (rfl) ?_
      show tw_P L xs _ 77 4 [.ref 85, .int (nI l), .int (nI y), .int (nI c)] [.int (nI 0)] σ _
      refine tw_bzT (c := .eq) rfl (by rw [tw_ceq, tw_neq (by omega) (by omega)] <;> omega) ?_
      show tw_P L xs _ 77 14 [.ref 85, .int (nI l), .int (nI y), .int (nI c)] [] σ _
      refine tw_sg 1 (i1 := 15) (ls1 := [.ref 85, .int (nI l), .int (nI y), .int (nI c)]) (st1 := [.int (nI 0)]) (σ1 := σ) rfl ?_
      refine tw_ri rfl (rfl) ?_
      show tw_P L xs _ 173 34 [.ref 1, .int (nI l), .int (nI y), .int (nI i), .ref 9, .int (nI c)] [.int (nI 0)] σ _
      refine tw_bzF (c := .ne) rfl (by rw [tw_cne', tw_neq (by omega) (by omega)] <;> omega) ?_
      show tw_P L xs _ 173 35 [.ref 1, .int (nI l), .int (nI y), .int (nI i), .ref 9, .int (nI c)] [] σ _
      refine tw_sg 1 (i1 := 36) (ls1 := [.ref 1, .int (nI l), .int (nI y), .int (nI i), .ref 9, .int (nI c)]) (st1 := [.int (-13)]) (σ1 := σ) rfl ?_
      refine tw_ri rfl (rfl) ?_
      exact hE
  | succ f ih =>
    intro c σ hf hg hQ
    have hx : y + c < s := by omega
    refine tw_sg 2 (i1 := 26) (ls1 := [.ref 1, .int (nI l), .int (nI y), .int (nI i), .ref 9, .int (nI c)]) (st1 := [.ref 9, .int (nI c)]) (σ1 := σ) rfl ?_
    refine tw_cl0 4 rfl (rfl) (by decide) ?_
    show tw_P L xs _ 18 0 [.ref 9] [] σ _
    refine tw_sgn 2 (i1 := 2) (ls0 := [.ref 9]) (st0 := [.int (σ 9 4)]) (σ0 := σ) (ls1 := [.ref 9]) (st1 := [.int (nI n)]) (σ1 := σ) rfl (rfl) (by simp only [((hg 9 4 (by omega)).trans hw9), tw_nadd, tw_nmul]) (rfl) ?_
    refine tw_ri rfl (rfl) ?_
    show tw_P L xs _ 173 27 [.ref 1, .int (nI l), .int (nI y), .int (nI i), .ref 9, .int (nI c)] [.int (nI n), .int (nI c)] σ _
    refine tw_biF (c := .ge) rfl (by rw [tw_cge', tw_nle (by omega) (by omega)] <;> omega) ?_
    show tw_P L xs _ 173 28 [.ref 1, .int (nI l), .int (nI y), .int (nI i), .ref 9, .int (nI c)] [] σ _
    refine tw_sg 5 (i1 := 33) (ls1 := [.ref 1, .int (nI l), .int (nI y), .int (nI i), .ref 9, .int (nI c)]) (st1 := [.int (nI c), .int (nI y), .int (nI l), .ref 85]) (σ1 := σ) rfl ?_
    refine tw_cl0 4 rfl (rfl) (by decide) ?_
    show tw_P L xs _ 77 0 [.ref 85, .int (nI l), .int (nI y), .int (nI c)] [] σ _
    refine tw_sg 3 (i1 := 3) (ls1 := [.ref 85, .int (nI l), .int (nI y), .int (nI c)]) (st1 := [.int (nI y), .int (nI l), .ref 85]) (σ1 := σ) rfl ?_
    refine tw_cl0 3 rfl (rfl) (by decide) ?_
    show tw_P L xs _ 76 0 [.ref 85, .int (nI l), .int (nI y)] [] σ _
    refine tw_sg 2 (i1 := 2) (ls1 := [.ref 85, .int (nI l), .int (nI y)]) (st1 := [.int (nI l), .ref 85]) (σ1 := σ) rfl ?_
    refine tw_cl0 2 rfl (rfl) (by decide) ?_
    show tw_P L xs _ 74 0 [.ref 85, .int (nI l)] [] σ _
    refine tw_sg 1 (i1 := 1) (ls1 := [.ref 85, .int (nI l)]) (st1 := [.int (nI l)]) (σ1 := σ) rfl ?_
    refine tw_bzF (c := .lt) rfl (by rw [tw_clt', tw_nlt (by omega) (by omega)] <;> omega) ?_
    show tw_P L xs _ 74 2 [.ref 85, .int (nI l)] [] σ _
    refine tw_sg 2 (i1 := 4) (ls1 := [.ref 85, .int (nI l)]) (st1 := [.int (nI 4), .int (nI l)]) (σ1 := σ) rfl ?_
    refine tw_biF (c := .ge) rfl (by rw [tw_cge', tw_nle (by omega) (by omega)] <;> omega) ?_
    show tw_P L xs _ 74 5 [.ref 85, .int (nI l)] [] σ _
    refine tw_sg 2 (i1 := 8) (ls1 := [.ref 85, .int (nI l)]) (st1 := [.int (nI 1)]) (σ1 := σ) rfl ?_
    refine tw_ri rfl (rfl) ?_
    show tw_P L xs _ 76 3 [.ref 85, .int (nI l), .int (nI y)] [.int (nI 1)] σ _
    refine tw_bzF (c := .eq) rfl (by rw [tw_ceq', tw_neq (by omega) (by omega)] <;> omega) ?_
    show tw_P L xs _ 76 4 [.ref 85, .int (nI l), .int (nI y)] [] σ _
    refine tw_sg 1 (i1 := 5) (ls1 := [.ref 85, .int (nI l), .int (nI y)]) (st1 := [.int (nI y)]) (σ1 := σ) rfl ?_
    refine tw_bzF (c := .lt) rfl (by rw [tw_clt', tw_nlt (by omega) (by omega)] <;> omega) ?_
    show tw_P L xs _ 76 6 [.ref 85, .int (nI l), .int (nI y)] [] σ _
    refine tw_sg 4 (i1 := 10) (ls1 := [.ref 85, .int (nI l), .int (nI y)]) (st1 := [.int (nI l), .ref 87, .int (nI y)]) (σ1 := σ) rfl ?_
    refine tw_al (k := 87) (j := l) (len := 4) rfl rfl rfl rfl (rfl) (by omega) (by decide) ?_
    rw [((hg 87 l (by omega)).trans e1)]
    refine tw_biF (c := .ge) rfl (by rw [tw_cge', tw_nle (by omega) (by omega)] <;> omega) ?_
    show tw_P L xs _ 76 12 [.ref 85, .int (nI l), .int (nI y)] [] σ _
    refine tw_sg 2 (i1 := 15) (ls1 := [.ref 85, .int (nI l), .int (nI y)]) (st1 := [.int (nI 1)]) (σ1 := σ) rfl ?_
    refine tw_ri rfl (rfl) ?_
    show tw_P L xs _ 77 4 [.ref 85, .int (nI l), .int (nI y), .int (nI c)] [.int (nI 1)] σ _
    refine tw_bzF (c := .eq) rfl (by rw [tw_ceq', tw_neq (by omega) (by omega)] <;> omega) ?_
    show tw_P L xs _ 77 5 [.ref 85, .int (nI l), .int (nI y), .int (nI c)] [] σ _
    refine tw_sgn 5 (i1 := 10) (ls0 := [.ref 85, .int (nI l), .int (nI y), .int (nI c)]) (st0 := [.int (nI y + nI c), .int (nI l), .ref 85]) (σ0 := σ) (ls1 := [.ref 85, .int (nI l), .int (nI y), .int (nI c)]) (st1 := [.int (nI (y + c)), .int (nI l), .ref 85]) (σ1 := σ) rfl (rfl) (by simp only [tw_nadd, tw_nmul]) (rfl) ?_
    refine tw_cl0 3 rfl (rfl) (by decide) ?_
    show tw_P L xs _ 76 0 [.ref 85, .int (nI l), .int (nI (y + c))] [] σ _
    refine tw_sg 2 (i1 := 2) (ls1 := [.ref 85, .int (nI l), .int (nI (y + c))]) (st1 := [.int (nI l), .ref 85]) (σ1 := σ) rfl ?_
    refine tw_cl0 2 rfl (rfl) (by decide) ?_
    show tw_P L xs _ 74 0 [.ref 85, .int (nI l)] [] σ _
    refine tw_sg 1 (i1 := 1) (ls1 := [.ref 85, .int (nI l)]) (st1 := [.int (nI l)]) (σ1 := σ) rfl ?_
    refine tw_bzF (c := .lt) rfl (by rw [tw_clt', tw_nlt (by omega) (by omega)] <;> omega) ?_
    show tw_P L xs _ 74 2 [.ref 85, .int (nI l)] [] σ _
    refine tw_sg 2 (i1 := 4) (ls1 := [.ref 85, .int (nI l)]) (st1 := [.int (nI 4), .int (nI l)]) (σ1 := σ) rfl ?_
    refine tw_biF (c := .ge) rfl (by rw [tw_cge', tw_nle (by omega) (by omega)] <;> omega) ?_
    show tw_P L xs _ 74 5 [.ref 85, .int (nI l)] [] σ _
    refine tw_sg 2 (i1 := 8) (ls1 := [.ref 85, .int (nI l)]) (st1 := [.int (nI 1)]) (σ1 := σ) rfl ?_
    refine tw_ri rfl (rfl) ?_
    show tw_P L xs _ 76 3 [.ref 85, .int (nI l), .int (nI (y + c))] [.int (nI 1)] σ _
    refine tw_bzF (c := .eq) rfl (by rw [tw_ceq', tw_neq (by omega) (by omega)] <;> omega) ?_
    show tw_P L xs _ 76 4 [.ref 85, .int (nI l), .int (nI (y + c))] [] σ _
    refine tw_sg 1 (i1 := 5) (ls1 := [.ref 85, .int (nI l), .int (nI (y + c))]) (st1 := [.int (nI (y + c))]) (σ1 := σ) rfl ?_
    refine tw_bzF (c := .lt) rfl (by rw [tw_clt', tw_nlt (by omega) (by omega)] <;> omega) ?_
    show tw_P L xs _ 76 6 [.ref 85, .int (nI l), .int (nI (y + c))] [] σ _
    refine tw_sg 4 (i1 := 10) (ls1 := [.ref 85, .int (nI l), .int (nI (y + c))]) (st1 := [.int (nI l), .ref 87, .int (nI (y + c))]) (σ1 := σ) rfl ?_
    refine tw_al (k := 87) (j := l) (len := 4) rfl rfl rfl rfl (rfl) (by omega) (by decide) ?_
    rw [((hg 87 l (by omega)).trans e1)]
    refine tw_biF (c := .ge) rfl (by rw [tw_cge', tw_nle (by omega) (by omega)] <;> omega) ?_
    show tw_P L xs _ 76 12 [.ref 85, .int (nI l), .int (nI (y + c))] [] σ _
    refine tw_sg 2 (i1 := 15) (ls1 := [.ref 85, .int (nI l), .int (nI (y + c))]) (st1 := [.int (nI 1)]) (σ1 := σ) rfl ?_
    refine tw_ri rfl (rfl) ?_
    show tw_P L xs _ 77 11 [.ref 85, .int (nI l), .int (nI y), .int (nI c)] [.int (nI 1)] σ _
    refine tw_bzF (c := .eq) rfl (by rw [tw_ceq', tw_neq (by omega) (by omega)] <;> omega) ?_
    show tw_P L xs _ 77 12 [.ref 85, .int (nI l), .int (nI y), .int (nI c)] [] σ _
    refine tw_sg 2 (i1 := 15) (ls1 := [.ref 85, .int (nI l), .int (nI y), .int (nI c)]) (st1 := [.int (nI 1)]) (σ1 := σ) rfl ?_
    refine tw_ri rfl (rfl) ?_
    show tw_P L xs _ 173 34 [.ref 1, .int (nI l), .int (nI y), .int (nI i), .ref 9, .int (nI c)] [.int (nI 1)] σ _
    refine tw_bzT (c := .ne) rfl (by rw [tw_cne, tw_neq (by omega) (by omega)] <;> omega) ?_
    show tw_P L xs _ 173 37 [.ref 1, .int (nI l), .int (nI y), .int (nI i), .ref 9, .int (nI c)] [] σ _
    refine tw_sgn 10 (i1 := 47) (ls0 := [.ref 1, .int (nI l), .int (nI y), .int (nI i), .ref 9, .int (nI c)]) (st0 := [.int (nI 0), .int (nI c), .int (nI i), .ref 9, .int (nI y + nI c), .int (nI l), .ref 85]) (σ0 := σ) (ls1 := [.ref 1, .int (nI l), .int (nI y), .int (nI i), .ref 9, .int (nI c)]) (st1 := [.int (nI 0), .int (nI c), .int (nI i), .ref 9, .int (nI (y + c)), .int (nI l), .ref 85]) (σ1 := σ) rfl (rfl) (by simp only [tw_nadd, tw_nmul]) (rfl) ?_
    refine tw_cl1 rfl (rfl) (by decide) (tw_e_cellW (r := r) (n := n) (w := σ0 95) ((hg 9 3 (by omega)).trans hr9) ((hg 9 4 (by omega)).trans hw9) h50 h10 (fun i hi c hc => (hg 10 _ (by omega)).trans (hF i hi c hc)) (by decide) hi (by omega)) ?_
    rintro _ _ ⟨rfl, rfl⟩
    show tw_P L xs _ 173 48 [.ref 1, .int (nI l), .int (nI y), .int (nI i), .ref 9, .int (nI c)] [.int (σ0 95 (10 * i + c)), .int (nI (y + c)), .int (nI l), .ref 85] σ _
    refine tw_cl0 4 rfl (rfl) (by decide) ?_
    show tw_P L xs _ 80 0 [.ref 85, .int (nI l), .int (nI (y + c)), .int (σ0 95 (10 * i + c))] [] σ _
    refine tw_sg 3 (i1 := 3) (ls1 := [.ref 85, .int (nI l), .int (nI (y + c)), .int (σ0 95 (10 * i + c))]) (st1 := [.int (nI (y + c)), .int (nI l), .ref 85]) (σ1 := σ) rfl ?_
    refine tw_cl0 3 rfl (rfl) (by decide) ?_
    show tw_P L xs _ 76 0 [.ref 85, .int (nI l), .int (nI (y + c))] [] σ _
    refine tw_sg 2 (i1 := 2) (ls1 := [.ref 85, .int (nI l), .int (nI (y + c))]) (st1 := [.int (nI l), .ref 85]) (σ1 := σ) rfl ?_
    refine tw_cl0 2 rfl (rfl) (by decide) ?_
    show tw_P L xs _ 74 0 [.ref 85, .int (nI l)] [] σ _
    refine tw_sg 1 (i1 := 1) (ls1 := [.ref 85, .int (nI l)]) (st1 := [.int (nI l)]) (σ1 := σ) rfl ?_
    refine tw_bzF (c := .lt) rfl (by rw [tw_clt', tw_nlt (by omega) (by omega)] <;> omega) ?_
    show tw_P L xs _ 74 2 [.ref 85, .int (nI l)] [] σ _
    refine tw_sg 2 (i1 := 4) (ls1 := [.ref 85, .int (nI l)]) (st1 := [.int (nI 4), .int (nI l)]) (σ1 := σ) rfl ?_
    refine tw_biF (c := .ge) rfl (by rw [tw_cge', tw_nle (by omega) (by omega)] <;> omega) ?_
    show tw_P L xs _ 74 5 [.ref 85, .int (nI l)] [] σ _
    refine tw_sg 2 (i1 := 8) (ls1 := [.ref 85, .int (nI l)]) (st1 := [.int (nI 1)]) (σ1 := σ) rfl ?_
    refine tw_ri rfl (rfl) ?_
    show tw_P L xs _ 76 3 [.ref 85, .int (nI l), .int (nI (y + c))] [.int (nI 1)] σ _
    refine tw_bzF (c := .eq) rfl (by rw [tw_ceq', tw_neq (by omega) (by omega)] <;> omega) ?_
    show tw_P L xs _ 76 4 [.ref 85, .int (nI l), .int (nI (y + c))] [] σ _
    refine tw_sg 1 (i1 := 5) (ls1 := [.ref 85, .int (nI l), .int (nI (y + c))]) (st1 := [.int (nI (y + c))]) (σ1 := σ) rfl ?_
    refine tw_bzF (c := .lt) rfl (by rw [tw_clt', tw_nlt (by omega) (by omega)] <;> omega) ?_
    show tw_P L xs _ 76 6 [.ref 85, .int (nI l), .int (nI (y + c))] [] σ _
    refine tw_sg 4 (i1 := 10) (ls1 := [.ref 85, .int (nI l), .int (nI (y + c))]) (st1 := [.int (nI l), .ref 87, .int (nI (y + c))]) (σ1 := σ) rfl ?_
    refine tw_al (k := 87) (j := l) (len := 4) rfl rfl rfl rfl (rfl) (by omega) (by decide) ?_
    rw [((hg 87 l (by omega)).trans e1)]
    refine tw_biF (c := .ge) rfl (by rw [tw_cge', tw_nle (by omega) (by omega)] <;> omega) ?_
    show tw_P L xs _ 76 12 [.ref 85, .int (nI l), .int (nI (y + c))] [] σ _
    refine tw_sg 2 (i1 := 15) (ls1 := [.ref 85, .int (nI l), .int (nI (y + c))]) (st1 := [.int (nI 1)]) (σ1 := σ) rfl ?_
    refine tw_ri rfl (rfl) ?_
    show tw_P L xs _ 80 4 [.ref 85, .int (nI l), .int (nI (y + c)), .int (σ0 95 (10 * i + c))] [.int (nI 1)] σ _
    refine tw_bzF (c := .eq) rfl (by rw [tw_ceq', tw_neq (by omega) (by omega)] <;> omega) ?_
    show tw_P L xs _ 80 5 [.ref 85, .int (nI l), .int (nI (y + c)), .int (σ0 95 (10 * i + c))] [] σ _
    refine tw_sgn 8 (i1 := 13) (ls0 := [.ref 85, .int (nI l), .int (nI (y + c)), .int (σ0 95 (10 * i + c))]) (st0 := [.int (σ0 95 (10 * i + c)), .int ((nI l * nI 20) + nI (y + c)), .ref 86]) (σ0 := σ) (ls1 := [.ref 85, .int (nI l), .int (nI (y + c)), .int (σ0 95 (10 * i + c))]) (st1 := [.int (σ0 95 (10 * i + c)), .int (nI ((l * 20) + (y + c))), .ref 86]) (σ1 := σ) rfl (rfl) (by simp only [tw_nadd, tw_nmul]) (rfl) ?_
    refine tw_as (k := 86) (j := ((l * 20) + (y + c))) (len := 80) rfl rfl rfl (rfl) (by omega) (by decide) ?_
    refine tw_rv rfl ?_
    show tw_P L xs _ 173 49 [.ref 1, .int (nI l), .int (nI y), .int (nI i), .ref 9, .int (nI c)] [] (tw_upd σ 86 ((l * 20) + (y + c)) (σ0 95 (10 * i + c))) _
    refine tw_sgn 2 (i1 := 24) (ls0 := [.ref 1, .int (nI l), .int (nI y), .int (nI i), .ref 9, .int (nI c + nI 1)]) (st0 := []) (σ0 := (tw_upd σ 86 ((l * 20) + (y + c)) (σ0 95 (10 * i + c)))) (ls1 := [.ref 1, .int (nI l), .int (nI y), .int (nI i), .ref 9, .int (nI (c + 1))]) (st1 := []) (σ1 := (tw_upd σ 86 ((l * 20) + (y + c)) (σ0 95 (10 * i + c)))) rfl (by simp only [tw_nadd, tw_nmul]) (rfl) (rfl) ?_
    refine ih (c + 1) _ (by omega) (fun k j g => by rw [tw_upd_off (by omega)]; exact hg k j g) (fun τ h1 h2 => hQ τ (fun k j g => ?_) (fun q q1 q2 => ?_))
    · rw [h1 k j (by omega), tw_upd_off (by omega)]
    · by_cases hz : q = c
      · rw [hz, h1 _ _ (by omega), tw_upd_at]; try exact hg 95 _ (by omega)
      · exact h2 q (by omega) q2
set_option maxHeartbeats 4000000 in
set_option maxRecDepth 100000 in
theorem tw_l_layM {L : Nat} {xs : Nat → Int32} {σ0 : tw_Mem} {r n l s y i m : Nat} {A : Int32} {Q : Option Value → tw_Mem → Prop} (hl : l < 4) (hs : s ≤ 20) (hy : y < 2147483648) (hi : i < r) (h50 : r ≤ 50) (h10 : n ≤ 10) (m1 : m ≤ n) (m2 : m = 0 ∨ y + m ≤ s) (m3 : m = n ∨ s ≤ y + m) (A1 : m = n → A = nI n) (A2 : m < n → A = (-13)) (e3 : σ0 118 l = nI s) (hn89 : σ0 89 0 = nI n) : ∀ (f c : Nat) (σ : tw_Mem), c + f = m → (∀ k j, ¬ k = 119 → σ k j = σ0 k j) → (∀ τ : tw_Mem, (∀ k j, ¬ (k = 119 ∧ 20 * l + (y + c) ≤ j ∧ j < 20 * l + (y + m)) → τ k j = σ k j) → (∀ q, c ≤ q → q < m → τ 119 (20 * l + (y + q)) = σ0 95 (10 * i + q)) → Q (some (.int A)) τ) → tw_P L xs 1 254 18 [.ref 88, .int (nI l), .int (nI y), .int (nI i), .int (nI c)] [] σ Q := by
  intro f
  induction f with
  | zero =>
    intro c σ hf hg hQ
    have hf : c = m := hf
    have hE : Q (some (.int A)) σ := hQ σ (fun _ _ _ => rfl) (fun q h1 h2 => by omega)
    rcases (show m = n ∨ (m < n ∧ y < s ∧ y + m = s) ∨ (m < n ∧ s ≤ y) by omega) with hz | hz | hz
    · rw [A1 hz] at hE
      refine tw_sg 4 (i1 := 22) (ls1 := [.ref 88, .int (nI l), .int (nI y), .int (nI i), .int (nI c)]) (st1 := [.int (nI 0), .ref 89, .int (nI c)]) (σ1 := σ) rfl ?_
      refine tw_al (k := 89) (j := 0) (len := 2) rfl rfl rfl rfl (rfl) (by omega) (by decide) ?_
      rw [((hg 89 0 (by omega)).trans hn89)]
      refine tw_biT (c := .ge) rfl (by rw [tw_cge, tw_nle (by omega) (by omega)] <;> omega) ?_
      show tw_P L xs _ 254 56 [.ref 88, .int (nI l), .int (nI y), .int (nI i), .int (nI c)] [] σ _
      refine tw_sg 3 (i1 := 59) (ls1 := [.ref 88, .int (nI l), .int (nI y), .int (nI i), .int (nI c)]) (st1 := [.int (nI 0), .ref 89]) (σ1 := σ) rfl ?_
      refine tw_al (k := 89) (j := 0) (len := 2) rfl rfl rfl rfl (rfl) (by omega) (by decide) ?_
      rw [((hg 89 0 (by omega)).trans hn89)]
      refine tw_ri rfl (rfl) ?_
      exact hE
    · rw [A2 hz.1] at hE
      refine tw_sg 4 (i1 := 22) (ls1 := [.ref 88, .int (nI l), .int (nI y), .int (nI i), .int (nI c)]) (st1 := [.int (nI 0), .ref 89, .int (nI c)]) (σ1 := σ) rfl ?_
      refine tw_al (k := 89) (j := 0) (len := 2) rfl rfl rfl rfl (rfl) (by omega) (by decide) ?_
      rw [((hg 89 0 (by omega)).trans hn89)]
      refine tw_biF (c := .ge) rfl (by rw [tw_cge', tw_nle (by omega) (by omega)] <;> omega) ?_
      show tw_P L xs _ 254 24 [.ref 88, .int (nI l), .int (nI y), .int (nI i), .int (nI c)] [] σ _
      refine tw_sg 1 (i1 := 25) (ls1 := [.ref 88, .int (nI l), .int (nI y), .int (nI i), .int (nI c)]) (st1 := [.int (nI y)]) (σ1 := σ) rfl ?_
      refine tw_bzF (c := .lt) rfl (by rw [tw_clt', tw_nlt (by omega) (by omega)] <;> omega) ?_
      show tw_P L xs _ 254 26 [.ref 88, .int (nI l), .int (nI y), .int (nI i), .int (nI c)] [] σ _
      refine tw_sg 4 (i1 := 30) (ls1 := [.ref 88, .int (nI l), .int (nI y), .int (nI i), .int (nI c)]) (st1 := [.int (nI l), .ref 118, .int (nI y)]) (σ1 := σ) rfl ?_
      refine tw_al (k := 118) (j := l) (len := 4) rfl rfl rfl rfl (rfl) (by omega) (by decide) ?_
      rw [((hg 118 l (by omega)).trans e3)]
      refine tw_sg 2 (i1 := 33) (ls1 := [.ref 88, .int (nI l), .int (nI y), .int (nI i), .int (nI c)]) (st1 := [.int (nI s - nI c), .int (nI y)]) (σ1 := σ) rfl ?_
      refine tw_biF (c := .lt) rfl (by rw [tw_clt'] <;> (exact (by rw [tw_ysc hy (by omega) (by omega)]; omega))) ?_
      show tw_P L xs _ 254 34 [.ref 88, .int (nI l), .int (nI y), .int (nI i), .int (nI c)] [] σ _
      refine tw_sg 1 (i1 := 35) (ls1 := [.ref 88, .int (nI l), .int (nI y), .int (nI i), .int (nI c)]) (st1 := [.int (-13)]) (σ1 := σ) rfl ?_
      refine tw_ri rfl (rfl) ?_
      exact hE
    · rw [A2 hz.1] at hE
      refine tw_sg 4 (i1 := 22) (ls1 := [.ref 88, .int (nI l), .int (nI y), .int (nI i), .int (nI c)]) (st1 := [.int (nI 0), .ref 89, .int (nI c)]) (σ1 := σ) rfl ?_
      refine tw_al (k := 89) (j := 0) (len := 2) rfl rfl rfl rfl (rfl) (by omega) (by decide) ?_
      rw [((hg 89 0 (by omega)).trans hn89)]
      refine tw_biF (c := .ge) rfl (by rw [tw_cge', tw_nle (by omega) (by omega)] <;> omega) ?_
      show tw_P L xs _ 254 24 [.ref 88, .int (nI l), .int (nI y), .int (nI i), .int (nI c)] [] σ _
      refine tw_sg 1 (i1 := 25) (ls1 := [.ref 88, .int (nI l), .int (nI y), .int (nI i), .int (nI c)]) (st1 := [.int (nI y)]) (σ1 := σ) rfl ?_
      refine tw_bzF (c := .lt) rfl (by rw [tw_clt', tw_nlt (by omega) (by omega)] <;> omega) ?_
      show tw_P L xs _ 254 26 [.ref 88, .int (nI l), .int (nI y), .int (nI i), .int (nI c)] [] σ _
      refine tw_sg 4 (i1 := 30) (ls1 := [.ref 88, .int (nI l), .int (nI y), .int (nI i), .int (nI c)]) (st1 := [.int (nI l), .ref 118, .int (nI y)]) (σ1 := σ) rfl ?_
      refine tw_al (k := 118) (j := l) (len := 4) rfl rfl rfl rfl (rfl) (by omega) (by decide) ?_
      rw [((hg 118 l (by omega)).trans e3)]
      refine tw_sg 2 (i1 := 33) (ls1 := [.ref 88, .int (nI l), .int (nI y), .int (nI i), .int (nI c)]) (st1 := [.int (nI s - nI c), .int (nI y)]) (σ1 := σ) rfl ?_
      refine tw_biF (c := .lt) rfl (by rw [tw_clt'] <;> (exact (by rw [tw_ysc hy (by omega) (by omega)]; omega))) ?_
      show tw_P L xs _ 254 34 [.ref 88, .int (nI l), .int (nI y), .int (nI i), .int (nI c)] [] σ _
      refine tw_sg 1 (i1 := 35) (ls1 := [.ref 88, .int (nI l), .int (nI y), .int (nI i), .int (nI c)]) (st1 := [.int (-13)]) (σ1 := σ) rfl ?_
      refine tw_ri rfl (rfl) ?_
      exact hE
  | succ f ih =>
    intro c σ hf hg hQ
    have hx : y + c < s := by omega
    refine tw_sg 4 (i1 := 22) (ls1 := [.ref 88, .int (nI l), .int (nI y), .int (nI i), .int (nI c)]) (st1 := [.int (nI 0), .ref 89, .int (nI c)]) (σ1 := σ) rfl ?_
    refine tw_al (k := 89) (j := 0) (len := 2) rfl rfl rfl rfl (rfl) (by omega) (by decide) ?_
    rw [((hg 89 0 (by omega)).trans hn89)]
    refine tw_biF (c := .ge) rfl (by rw [tw_cge', tw_nle (by omega) (by omega)] <;> omega) ?_
    show tw_P L xs _ 254 24 [.ref 88, .int (nI l), .int (nI y), .int (nI i), .int (nI c)] [] σ _
    refine tw_sg 1 (i1 := 25) (ls1 := [.ref 88, .int (nI l), .int (nI y), .int (nI i), .int (nI c)]) (st1 := [.int (nI y)]) (σ1 := σ) rfl ?_
    refine tw_bzF (c := .lt) rfl (by rw [tw_clt', tw_nlt (by omega) (by omega)] <;> omega) ?_
    show tw_P L xs _ 254 26 [.ref 88, .int (nI l), .int (nI y), .int (nI i), .int (nI c)] [] σ _
    refine tw_sg 4 (i1 := 30) (ls1 := [.ref 88, .int (nI l), .int (nI y), .int (nI i), .int (nI c)]) (st1 := [.int (nI l), .ref 118, .int (nI y)]) (σ1 := σ) rfl ?_
    refine tw_al (k := 118) (j := l) (len := 4) rfl rfl rfl rfl (rfl) (by omega) (by decide) ?_
    rw [((hg 118 l (by omega)).trans e3)]
    refine tw_sg 2 (i1 := 33) (ls1 := [.ref 88, .int (nI l), .int (nI y), .int (nI i), .int (nI c)]) (st1 := [.int (nI s - nI c), .int (nI y)]) (σ1 := σ) rfl ?_
    refine tw_biT (c := .lt) rfl (by rw [tw_clt] <;> (exact (by rw [tw_ysc hy (by omega) (by omega)]; exact hx))) ?_
    show tw_P L xs _ 254 36 [.ref 88, .int (nI l), .int (nI y), .int (nI i), .int (nI c)] [] σ _
    refine tw_sgn 16 (i1 := 52) (ls0 := [.ref 88, .int (nI l), .int (nI y), .int (nI i), .int (nI c)]) (st0 := [.int ((nI 10 * nI i) + nI c), .ref 95, .int (((nI 20 * nI l) + nI y) + nI c), .ref 119]) (σ0 := σ) (ls1 := [.ref 88, .int (nI l), .int (nI y), .int (nI i), .int (nI c)]) (st1 := [.int (nI ((10 * i) + c)), .ref 95, .int (nI (((20 * l) + y) + c)), .ref 119]) (σ1 := σ) rfl (rfl) (by simp only [tw_nadd, tw_nmul]) (rfl) ?_
    refine tw_al (k := 95) (j := ((10 * i) + c)) (len := 1000) rfl rfl rfl rfl (rfl) (by omega) (by decide) ?_
    refine tw_as (k := 119) (j := (20 * l + (y + c))) (len := 80) rfl rfl rfl (congrArg nI (by omega)) (by omega) (by decide) ?_
    refine tw_sgn 2 (i1 := 18) (ls0 := [.ref 88, .int (nI l), .int (nI y), .int (nI i), .int (nI c + nI 1)]) (st0 := []) (σ0 := (tw_upd σ 119 (20 * l + (y + c)) (σ 95 ((10 * i) + c)))) (ls1 := [.ref 88, .int (nI l), .int (nI y), .int (nI i), .int (nI (c + 1))]) (st1 := []) (σ1 := (tw_upd σ 119 (20 * l + (y + c)) (σ 95 ((10 * i) + c)))) rfl (by simp only [tw_nadd, tw_nmul]) (rfl) (rfl) ?_
    refine ih (c + 1) _ (by omega) (fun k j g => by rw [tw_upd_off (by omega)]; exact hg k j g) (fun τ h1 h2 => hQ τ (fun k j g => ?_) (fun q q1 q2 => ?_))
    · rw [h1 k j (by omega), tw_upd_off (by omega)]
    · by_cases hz : q = c
      · rw [hz, h1 _ _ (by omega), tw_upd_at]; try exact hg 95 _ (by omega)
      · exact h2 q (by omega) q2
set_option maxHeartbeats 4000000 in
set_option maxRecDepth 100000 in
theorem tw_o_lay {L : Nat} {xs : Nat → Int32} (x : Int32) (y : Int32) (w : Int32) : tw_op L xs 173 254 [.int x, .int y, .int w] := by
  intro σ hI
  obtain ⟨⟨n, r, hL⟩, hT, hPp, hPc, hLs, hIm, hC14, hC46, hC72⟩ := id hI
  obtain ⟨⟨hn10, hr50⟩, ⟨hn6, hn89⟩, ⟨hr9, hw9, hr90⟩, hCa, hRo, hLa⟩ := hL
  have hn6 : σ 6 4 = nI n := hn6
  have hn89 : σ 89 0 = nI n := hn89
  have hr9 : σ 9 3 = nI r := hr9
  have hw9 : σ 9 4 = nI n := hw9
  have hr90 : σ 90 0 = nI r := hr90
  rcases tw_within x 4 (by decide) with ⟨l, hl, rfl⟩ | hx
  · rcases tw_within w r (by omega) with ⟨i, hi, rfl⟩ | hw
    · rcases hLs l hl with ⟨e1, e2⟩ | ⟨s, hs, e1, e2, e3, e4⟩
      · skip
        show tw_P L xs _ 173 0 [.ref 1, .int (nI l), .int y, .int (nI i), tw_U, tw_U] [] σ _
        refine tw_sg 2 (i1 := 2) (ls1 := [.ref 1, .int (nI l), .int y, .int (nI i), tw_U, tw_U]) (st1 := [.ref 6]) (σ1 := σ) rfl ?_
        refine tw_cl0 59 rfl (rfl) (by decide) ?_
        show tw_P L xs _ 83 0 [.ref 6] [] σ _
        refine tw_sg 2 (i1 := 2) (ls1 := [.ref 6]) (st1 := [.ref 9]) (σ1 := σ) rfl ?_
        refine tw_ra rfl ?_
        show tw_P L xs _ 173 3 [.ref 1, .int (nI l), .int y, .int (nI i), tw_U, tw_U] [.ref 9] σ _
        refine tw_sg 4 (i1 := 7) (ls1 := [.ref 1, .int (nI l), .int y, .int (nI i), .ref 9, tw_U]) (st1 := [.int (nI l), .ref 85]) (σ1 := σ) rfl ?_
        refine tw_cl0 59 rfl (rfl) (by decide) ?_
        show tw_P L xs _ 74 0 [.ref 85, .int (nI l)] [] σ _
        refine tw_sg 1 (i1 := 1) (ls1 := [.ref 85, .int (nI l)]) (st1 := [.int (nI l)]) (σ1 := σ) rfl ?_
        refine tw_bzF (c := .lt) rfl (by rw [tw_clt', tw_nlt (by omega) (by omega)] <;> omega) ?_
        show tw_P L xs _ 74 2 [.ref 85, .int (nI l)] [] σ _
        refine tw_sg 2 (i1 := 4) (ls1 := [.ref 85, .int (nI l)]) (st1 := [.int (nI 4), .int (nI l)]) (σ1 := σ) rfl ?_
        refine tw_biF (c := .ge) rfl (by rw [tw_cge', tw_nle (by omega) (by omega)] <;> omega) ?_
        show tw_P L xs _ 74 5 [.ref 85, .int (nI l)] [] σ _
        refine tw_sg 2 (i1 := 8) (ls1 := [.ref 85, .int (nI l)]) (st1 := [.int (nI 1)]) (σ1 := σ) rfl ?_
        refine tw_ri rfl (rfl) ?_
        show tw_P L xs _ 173 8 [.ref 1, .int (nI l), .int y, .int (nI i), .ref 9, tw_U] [.int (nI 1)] σ _
        refine tw_bzF (c := .eq) rfl (by rw [tw_ceq', tw_neq (by omega) (by omega)] <;> omega) ?_
        show tw_P L xs _ 173 9 [.ref 1, .int (nI l), .int y, .int (nI i), .ref 9, tw_U] [] σ _
        refine tw_sg 2 (i1 := 11) (ls1 := [.ref 1, .int (nI l), .int y, .int (nI i), .ref 9, tw_U]) (st1 := [.int (nI i), .ref 9]) (σ1 := σ) rfl ?_
        refine tw_cl1 rfl (rfl) (by decide) (tw_e_hasRow1 hr9 hr50 hi) ?_
        rintro _ _ ⟨rfl, rfl⟩
        show tw_P L xs _ 173 12 [.ref 1, .int (nI l), .int y, .int (nI i), .ref 9, tw_U] [.int (nI 1)] σ _
        refine tw_bzT (c := .ne) rfl (by rw [tw_cne, tw_neq (by omega) (by omega)] <;> omega) ?_
        show tw_P L xs _ 173 15 [.ref 1, .int (nI l), .int y, .int (nI i), .ref 9, tw_U] [] σ _
        refine tw_sg 3 (i1 := 18) (ls1 := [.ref 1, .int (nI l), .int y, .int (nI i), .ref 9, tw_U]) (st1 := [.int (nI l), .ref 85]) (σ1 := σ) rfl ?_
        refine tw_cl0 59 rfl (rfl) (by decide) ?_
        show tw_P L xs _ 75 0 [.ref 85, .int (nI l)] [] σ _
        refine tw_sg 2 (i1 := 2) (ls1 := [.ref 85, .int (nI l)]) (st1 := [.int (nI l), .ref 85]) (σ1 := σ) rfl ?_
        refine tw_cl0 58 rfl (rfl) (by decide) ?_
        show tw_P L xs _ 74 0 [.ref 85, .int (nI l)] [] σ _
        refine tw_sg 1 (i1 := 1) (ls1 := [.ref 85, .int (nI l)]) (st1 := [.int (nI l)]) (σ1 := σ) rfl ?_
        refine tw_bzF (c := .lt) rfl (by rw [tw_clt', tw_nlt (by omega) (by omega)] <;> omega) ?_
        show tw_P L xs _ 74 2 [.ref 85, .int (nI l)] [] σ _
        refine tw_sg 2 (i1 := 4) (ls1 := [.ref 85, .int (nI l)]) (st1 := [.int (nI 4), .int (nI l)]) (σ1 := σ) rfl ?_
        refine tw_biF (c := .ge) rfl (by rw [tw_cge', tw_nle (by omega) (by omega)] <;> omega) ?_
        show tw_P L xs _ 74 5 [.ref 85, .int (nI l)] [] σ _
        refine tw_sg 2 (i1 := 8) (ls1 := [.ref 85, .int (nI l)]) (st1 := [.int (nI 1)]) (σ1 := σ) rfl ?_
        refine tw_ri rfl (rfl) ?_
        show tw_P L xs _ 75 3 [.ref 85, .int (nI l)] [.int (nI 1)] σ _
        refine tw_bzF (c := .eq) rfl (by rw [tw_ceq', tw_neq (by omega) (by omega)] <;> omega) ?_
        show tw_P L xs _ 75 4 [.ref 85, .int (nI l)] [] σ _
        refine tw_sg 3 (i1 := 7) (ls1 := [.ref 85, .int (nI l)]) (st1 := [.int (nI l), .ref 87]) (σ1 := σ) rfl ?_
        refine tw_al (k := 87) (j := l) (len := 4) rfl rfl rfl rfl (rfl) (by omega) (by decide) ?_
        rw [e1]
        refine tw_sg 1 (i1 := 9) (ls1 := [.ref 85, .int (nI l)]) (st1 := [.int (-1), .int (-1)]) (σ1 := σ) rfl ?_
        refine tw_biF (c := .ne) rfl (by rw [tw_cne'] <;> (exact rfl)) ?_
        show tw_P L xs _ 75 10 [.ref 85, .int (nI l)] [] σ _
        refine tw_sg 2 (i1 := 13) (ls1 := [.ref 85, .int (nI l)]) (st1 := [.int (nI 1)]) (σ1 := σ) rfl ?_
        refine tw_ri rfl (rfl) ?_
        show tw_P L xs _ 173 19 [.ref 1, .int (nI l), .int y, .int (nI i), .ref 9, tw_U] [.int (nI 1)] σ _
        refine tw_bzF (c := .eq) rfl (by rw [tw_ceq', tw_neq (by omega) (by omega)] <;> omega) ?_
        show tw_P L xs _ 173 20 [.ref 1, .int (nI l), .int y, .int (nI i), .ref 9, tw_U] [] σ _
        refine tw_sg 1 (i1 := 21) (ls1 := [.ref 1, .int (nI l), .int y, .int (nI i), .ref 9, tw_U]) (st1 := [.int (-11)]) (σ1 := σ) rfl ?_
        refine tw_ri rfl (rfl) ?_
        refine ⟨_, rfl, ?_⟩
        show tw_P L xs _ 254 0 [.ref 88, .int (nI l), .int y, .int (nI i), tw_U] [] σ _
        refine tw_sg 1 (i1 := 1) (ls1 := [.ref 88, .int (nI l), .int y, .int (nI i), tw_U]) (st1 := [.int (nI l)]) (σ1 := σ) rfl ?_
        refine tw_cl0 59 rfl (rfl) (by decide) ?_
        show tw_P L xs _ 250 0 [.int (nI l)] [] σ _
        refine tw_sg 3 (i1 := 3) (ls1 := [.int (nI l)]) (st1 := [.int (nI 3), .int (nI 0), .int (nI l)]) (σ1 := σ) rfl ?_
        refine tw_cl0 58 rfl (rfl) (by decide) ?_
        show tw_P L xs _ 182 0 [.int (nI l), .int (nI 0), .int (nI 3)] [] σ _
        refine tw_sg 2 (i1 := 2) (ls1 := [.int (nI l), .int (nI 0), .int (nI 3)]) (st1 := [.int (nI 0), .int (nI l)]) (σ1 := σ) rfl ?_
        refine tw_biF (c := .lt) rfl (by rw [tw_clt', tw_nlt (by omega) (by omega)] <;> omega) ?_
        show tw_P L xs _ 182 3 [.int (nI l), .int (nI 0), .int (nI 3)] [] σ _
        refine tw_sg 2 (i1 := 5) (ls1 := [.int (nI l), .int (nI 0), .int (nI 3)]) (st1 := [.int (nI 3), .int (nI l)]) (σ1 := σ) rfl ?_
        refine tw_biF (c := .gt) rfl (by rw [tw_cgt', tw_nlt (by omega) (by omega)] <;> omega) ?_
        show tw_P L xs _ 182 6 [.int (nI l), .int (nI 0), .int (nI 3)] [] σ _
        refine tw_sg 2 (i1 := 9) (ls1 := [.int (nI l), .int (nI 0), .int (nI 3)]) (st1 := [.int (nI 1)]) (σ1 := σ) rfl ?_
        refine tw_ri rfl (rfl) ?_
        show tw_P L xs _ 250 4 [.int (nI l)] [.int (nI 1)] σ _
        refine tw_ri rfl (rfl) ?_
        show tw_P L xs _ 254 2 [.ref 88, .int (nI l), .int y, .int (nI i), tw_U] [.int (nI 1)] σ _
        refine tw_bzF (c := .eq) rfl (by rw [tw_ceq', tw_neq (by omega) (by omega)] <;> omega) ?_
        show tw_P L xs _ 254 3 [.ref 88, .int (nI l), .int y, .int (nI i), tw_U] [] σ _
        refine tw_sg 2 (i1 := 5) (ls1 := [.ref 88, .int (nI l), .int y, .int (nI i), tw_U]) (st1 := [.int (nI i), .ref 88]) (σ1 := σ) rfl ?_
        refine tw_cl1 rfl (rfl) (by decide) (tw_e_isRow1 hr90 hr50 hi) ?_
        rintro _ _ ⟨rfl, rfl⟩
        show tw_P L xs _ 254 6 [.ref 88, .int (nI l), .int y, .int (nI i), tw_U] [.int (nI 1)] σ _
        refine tw_bzT (c := .ne) rfl (by rw [tw_cne, tw_neq (by omega) (by omega)] <;> omega) ?_
        show tw_P L xs _ 254 9 [.ref 88, .int (nI l), .int y, .int (nI i), tw_U] [] σ _
        refine tw_sg 3 (i1 := 12) (ls1 := [.ref 88, .int (nI l), .int y, .int (nI i), tw_U]) (st1 := [.int (nI l), .ref 117]) (σ1 := σ) rfl ?_
        refine tw_alb (k := 117) (j := l) (len := 4) rfl rfl (by decide) rfl (rfl) (by omega) (by decide) ?_
        rw [e2]
        refine tw_bzF (c := .ne) rfl (by rw [tw_cne', tw_neq (by omega) (by omega)] <;> omega) ?_
        show tw_P L xs _ 254 14 [.ref 88, .int (nI l), .int y, .int (nI i), tw_U] [] σ _
        refine tw_sg 1 (i1 := 15) (ls1 := [.ref 88, .int (nI l), .int y, .int (nI i), tw_U]) (st1 := [.int (-11)]) (σ1 := σ) rfl ?_
        refine tw_ri rfl (rfl) ?_
        exact ⟨rfl, hI⟩
      · rcases tw_nany y with hy | ⟨y1, hy1, rfl⟩
        · rcases Nat.eq_zero_or_pos n with hn0 | hpos
          · subst hn0
            show tw_P L xs _ 173 0 [.ref 1, .int (nI l), .int y, .int (nI i), tw_U, tw_U] [] σ _
            refine tw_sg 2 (i1 := 2) (ls1 := [.ref 1, .int (nI l), .int y, .int (nI i), tw_U, tw_U]) (st1 := [.ref 6]) (σ1 := σ) rfl ?_
            refine tw_cl0 59 rfl (rfl) (by decide) ?_
            show tw_P L xs _ 83 0 [.ref 6] [] σ _
            refine tw_sg 2 (i1 := 2) (ls1 := [.ref 6]) (st1 := [.ref 9]) (σ1 := σ) rfl ?_
            refine tw_ra rfl ?_
            show tw_P L xs _ 173 3 [.ref 1, .int (nI l), .int y, .int (nI i), tw_U, tw_U] [.ref 9] σ _
            refine tw_sg 4 (i1 := 7) (ls1 := [.ref 1, .int (nI l), .int y, .int (nI i), .ref 9, tw_U]) (st1 := [.int (nI l), .ref 85]) (σ1 := σ) rfl ?_
            refine tw_cl0 59 rfl (rfl) (by decide) ?_
            show tw_P L xs _ 74 0 [.ref 85, .int (nI l)] [] σ _
            refine tw_sg 1 (i1 := 1) (ls1 := [.ref 85, .int (nI l)]) (st1 := [.int (nI l)]) (σ1 := σ) rfl ?_
            refine tw_bzF (c := .lt) rfl (by rw [tw_clt', tw_nlt (by omega) (by omega)] <;> omega) ?_
            show tw_P L xs _ 74 2 [.ref 85, .int (nI l)] [] σ _
            refine tw_sg 2 (i1 := 4) (ls1 := [.ref 85, .int (nI l)]) (st1 := [.int (nI 4), .int (nI l)]) (σ1 := σ) rfl ?_
            refine tw_biF (c := .ge) rfl (by rw [tw_cge', tw_nle (by omega) (by omega)] <;> omega) ?_
            show tw_P L xs _ 74 5 [.ref 85, .int (nI l)] [] σ _
            refine tw_sg 2 (i1 := 8) (ls1 := [.ref 85, .int (nI l)]) (st1 := [.int (nI 1)]) (σ1 := σ) rfl ?_
            refine tw_ri rfl (rfl) ?_
            show tw_P L xs _ 173 8 [.ref 1, .int (nI l), .int y, .int (nI i), .ref 9, tw_U] [.int (nI 1)] σ _
            refine tw_bzF (c := .eq) rfl (by rw [tw_ceq', tw_neq (by omega) (by omega)] <;> omega) ?_
            show tw_P L xs _ 173 9 [.ref 1, .int (nI l), .int y, .int (nI i), .ref 9, tw_U] [] σ _
            refine tw_sg 2 (i1 := 11) (ls1 := [.ref 1, .int (nI l), .int y, .int (nI i), .ref 9, tw_U]) (st1 := [.int (nI i), .ref 9]) (σ1 := σ) rfl ?_
            refine tw_cl1 rfl (rfl) (by decide) (tw_e_hasRow1 hr9 hr50 hi) ?_
            rintro _ _ ⟨rfl, rfl⟩
            show tw_P L xs _ 173 12 [.ref 1, .int (nI l), .int y, .int (nI i), .ref 9, tw_U] [.int (nI 1)] σ _
            refine tw_bzT (c := .ne) rfl (by rw [tw_cne, tw_neq (by omega) (by omega)] <;> omega) ?_
            show tw_P L xs _ 173 15 [.ref 1, .int (nI l), .int y, .int (nI i), .ref 9, tw_U] [] σ _
            refine tw_sg 3 (i1 := 18) (ls1 := [.ref 1, .int (nI l), .int y, .int (nI i), .ref 9, tw_U]) (st1 := [.int (nI l), .ref 85]) (σ1 := σ) rfl ?_
            refine tw_cl0 59 rfl (rfl) (by decide) ?_
            show tw_P L xs _ 75 0 [.ref 85, .int (nI l)] [] σ _
            refine tw_sg 2 (i1 := 2) (ls1 := [.ref 85, .int (nI l)]) (st1 := [.int (nI l), .ref 85]) (σ1 := σ) rfl ?_
            refine tw_cl0 58 rfl (rfl) (by decide) ?_
            show tw_P L xs _ 74 0 [.ref 85, .int (nI l)] [] σ _
            refine tw_sg 1 (i1 := 1) (ls1 := [.ref 85, .int (nI l)]) (st1 := [.int (nI l)]) (σ1 := σ) rfl ?_
            refine tw_bzF (c := .lt) rfl (by rw [tw_clt', tw_nlt (by omega) (by omega)] <;> omega) ?_
            show tw_P L xs _ 74 2 [.ref 85, .int (nI l)] [] σ _
            refine tw_sg 2 (i1 := 4) (ls1 := [.ref 85, .int (nI l)]) (st1 := [.int (nI 4), .int (nI l)]) (σ1 := σ) rfl ?_
            refine tw_biF (c := .ge) rfl (by rw [tw_cge', tw_nle (by omega) (by omega)] <;> omega) ?_
            show tw_P L xs _ 74 5 [.ref 85, .int (nI l)] [] σ _
            refine tw_sg 2 (i1 := 8) (ls1 := [.ref 85, .int (nI l)]) (st1 := [.int (nI 1)]) (σ1 := σ) rfl ?_
            refine tw_ri rfl (rfl) ?_
            show tw_P L xs _ 75 3 [.ref 85, .int (nI l)] [.int (nI 1)] σ _
            refine tw_bzF (c := .eq) rfl (by rw [tw_ceq', tw_neq (by omega) (by omega)] <;> omega) ?_
            show tw_P L xs _ 75 4 [.ref 85, .int (nI l)] [] σ _
            refine tw_sg 3 (i1 := 7) (ls1 := [.ref 85, .int (nI l)]) (st1 := [.int (nI l), .ref 87]) (σ1 := σ) rfl ?_
            refine tw_al (k := 87) (j := l) (len := 4) rfl rfl rfl rfl (rfl) (by omega) (by decide) ?_
            rw [e1]
            refine tw_sg 1 (i1 := 9) (ls1 := [.ref 85, .int (nI l)]) (st1 := [.int (-1), .int (nI s)]) (σ1 := σ) rfl ?_
            refine tw_biT (c := .ne) rfl (by rw [tw_cne] <;> (exact (tw_nne1 (by omega)))) ?_
            show tw_P L xs _ 75 12 [.ref 85, .int (nI l)] [] σ _
            refine tw_sg 1 (i1 := 13) (ls1 := [.ref 85, .int (nI l)]) (st1 := [.int (nI 0)]) (σ1 := σ) rfl ?_
            refine tw_ri rfl (rfl) ?_
            show tw_P L xs _ 173 19 [.ref 1, .int (nI l), .int y, .int (nI i), .ref 9, tw_U] [.int (nI 0)] σ _
            refine tw_bzT (c := .eq) rfl (by rw [tw_ceq, tw_neq (by omega) (by omega)] <;> omega) ?_
            show tw_P L xs _ 173 22 [.ref 1, .int (nI l), .int y, .int (nI i), .ref 9, tw_U] [] σ _
            refine tw_sg 4 (i1 := 26) (ls1 := [.ref 1, .int (nI l), .int y, .int (nI i), .ref 9, .int (nI 0)]) (st1 := [.ref 9, .int (nI 0)]) (σ1 := σ) rfl ?_
            refine tw_cl0 59 rfl (rfl) (by decide) ?_
            show tw_P L xs _ 18 0 [.ref 9] [] σ _
            refine tw_sgn 2 (i1 := 2) (ls0 := [.ref 9]) (st0 := [.int (σ 9 4)]) (σ0 := σ) (ls1 := [.ref 9]) (st1 := [.int (nI 0)]) (σ1 := σ) rfl (rfl) (by simp only [hw9, tw_nadd, tw_nmul]) (rfl) ?_
            refine tw_ri rfl (rfl) ?_
            show tw_P L xs _ 173 27 [.ref 1, .int (nI l), .int y, .int (nI i), .ref 9, .int (nI 0)] [.int (nI 0), .int (nI 0)] σ _
            refine tw_biT (c := .ge) rfl (by rw [tw_cge, tw_nle (by omega) (by omega)] <;> omega) ?_
            show tw_P L xs _ 173 51 [.ref 1, .int (nI l), .int y, .int (nI i), .ref 9, .int (nI 0)] [] σ _
            refine tw_sg 1 (i1 := 52) (ls1 := [.ref 1, .int (nI l), .int y, .int (nI i), .ref 9, .int (nI 0)]) (st1 := [.ref 9]) (σ1 := σ) rfl ?_
            refine tw_cl0 59 rfl (rfl) (by decide) ?_
            show tw_P L xs _ 18 0 [.ref 9] [] σ _
            refine tw_sgn 2 (i1 := 2) (ls0 := [.ref 9]) (st0 := [.int (σ 9 4)]) (σ0 := σ) (ls1 := [.ref 9]) (st1 := [.int (nI 0)]) (σ1 := σ) rfl (rfl) (by simp only [hw9, tw_nadd, tw_nmul]) (rfl) ?_
            refine tw_ri rfl (rfl) ?_
            show tw_P L xs _ 173 53 [.ref 1, .int (nI l), .int y, .int (nI i), .ref 9, .int (nI 0)] [.int (nI 0)] σ _
            refine tw_ri rfl (rfl) ?_
            refine ⟨_, rfl, ?_⟩
            show tw_P L xs _ 254 0 [.ref 88, .int (nI l), .int y, .int (nI i), tw_U] [] σ _
            refine tw_sg 1 (i1 := 1) (ls1 := [.ref 88, .int (nI l), .int y, .int (nI i), tw_U]) (st1 := [.int (nI l)]) (σ1 := σ) rfl ?_
            refine tw_cl0 59 rfl (rfl) (by decide) ?_
            show tw_P L xs _ 250 0 [.int (nI l)] [] σ _
            refine tw_sg 3 (i1 := 3) (ls1 := [.int (nI l)]) (st1 := [.int (nI 3), .int (nI 0), .int (nI l)]) (σ1 := σ) rfl ?_
            refine tw_cl0 58 rfl (rfl) (by decide) ?_
            show tw_P L xs _ 182 0 [.int (nI l), .int (nI 0), .int (nI 3)] [] σ _
            refine tw_sg 2 (i1 := 2) (ls1 := [.int (nI l), .int (nI 0), .int (nI 3)]) (st1 := [.int (nI 0), .int (nI l)]) (σ1 := σ) rfl ?_
            refine tw_biF (c := .lt) rfl (by rw [tw_clt', tw_nlt (by omega) (by omega)] <;> omega) ?_
            show tw_P L xs _ 182 3 [.int (nI l), .int (nI 0), .int (nI 3)] [] σ _
            refine tw_sg 2 (i1 := 5) (ls1 := [.int (nI l), .int (nI 0), .int (nI 3)]) (st1 := [.int (nI 3), .int (nI l)]) (σ1 := σ) rfl ?_
            refine tw_biF (c := .gt) rfl (by rw [tw_cgt', tw_nlt (by omega) (by omega)] <;> omega) ?_
            show tw_P L xs _ 182 6 [.int (nI l), .int (nI 0), .int (nI 3)] [] σ _
            refine tw_sg 2 (i1 := 9) (ls1 := [.int (nI l), .int (nI 0), .int (nI 3)]) (st1 := [.int (nI 1)]) (σ1 := σ) rfl ?_
            refine tw_ri rfl (rfl) ?_
            show tw_P L xs _ 250 4 [.int (nI l)] [.int (nI 1)] σ _
            refine tw_ri rfl (rfl) ?_
            show tw_P L xs _ 254 2 [.ref 88, .int (nI l), .int y, .int (nI i), tw_U] [.int (nI 1)] σ _
            refine tw_bzF (c := .eq) rfl (by rw [tw_ceq', tw_neq (by omega) (by omega)] <;> omega) ?_
            show tw_P L xs _ 254 3 [.ref 88, .int (nI l), .int y, .int (nI i), tw_U] [] σ _
            refine tw_sg 2 (i1 := 5) (ls1 := [.ref 88, .int (nI l), .int y, .int (nI i), tw_U]) (st1 := [.int (nI i), .ref 88]) (σ1 := σ) rfl ?_
            refine tw_cl1 rfl (rfl) (by decide) (tw_e_isRow1 hr90 hr50 hi) ?_
            rintro _ _ ⟨rfl, rfl⟩
            show tw_P L xs _ 254 6 [.ref 88, .int (nI l), .int y, .int (nI i), tw_U] [.int (nI 1)] σ _
            refine tw_bzT (c := .ne) rfl (by rw [tw_cne, tw_neq (by omega) (by omega)] <;> omega) ?_
            show tw_P L xs _ 254 9 [.ref 88, .int (nI l), .int y, .int (nI i), tw_U] [] σ _
            refine tw_sg 3 (i1 := 12) (ls1 := [.ref 88, .int (nI l), .int y, .int (nI i), tw_U]) (st1 := [.int (nI l), .ref 117]) (σ1 := σ) rfl ?_
            refine tw_alb (k := 117) (j := l) (len := 4) rfl rfl (by decide) rfl (rfl) (by omega) (by decide) ?_
            rw [e2]
            refine tw_bzT (c := .ne) rfl (by rw [tw_cne, tw_neq (by omega) (by omega)] <;> omega) ?_
            show tw_P L xs _ 254 16 [.ref 88, .int (nI l), .int y, .int (nI i), tw_U] [] σ _
            refine tw_sg 6 (i1 := 22) (ls1 := [.ref 88, .int (nI l), .int y, .int (nI i), .int (nI 0)]) (st1 := [.int (nI 0), .ref 89, .int (nI 0)]) (σ1 := σ) rfl ?_
            refine tw_al (k := 89) (j := 0) (len := 2) rfl rfl rfl rfl (rfl) (by omega) (by decide) ?_
            rw [hn89]
            refine tw_biT (c := .ge) rfl (by rw [tw_cge, tw_nle (by omega) (by omega)] <;> omega) ?_
            show tw_P L xs _ 254 56 [.ref 88, .int (nI l), .int y, .int (nI i), .int (nI 0)] [] σ _
            refine tw_sg 3 (i1 := 59) (ls1 := [.ref 88, .int (nI l), .int y, .int (nI i), .int (nI 0)]) (st1 := [.int (nI 0), .ref 89]) (σ1 := σ) rfl ?_
            refine tw_al (k := 89) (j := 0) (len := 2) rfl rfl rfl rfl (rfl) (by omega) (by decide) ?_
            rw [hn89]
            refine tw_ri rfl (rfl) ?_
            exact ⟨rfl, hI⟩
          · skip
            show tw_P L xs _ 173 0 [.ref 1, .int (nI l), .int y, .int (nI i), tw_U, tw_U] [] σ _
            refine tw_sg 2 (i1 := 2) (ls1 := [.ref 1, .int (nI l), .int y, .int (nI i), tw_U, tw_U]) (st1 := [.ref 6]) (σ1 := σ) rfl ?_
            refine tw_cl0 59 rfl (rfl) (by decide) ?_
            show tw_P L xs _ 83 0 [.ref 6] [] σ _
            refine tw_sg 2 (i1 := 2) (ls1 := [.ref 6]) (st1 := [.ref 9]) (σ1 := σ) rfl ?_
            refine tw_ra rfl ?_
            show tw_P L xs _ 173 3 [.ref 1, .int (nI l), .int y, .int (nI i), tw_U, tw_U] [.ref 9] σ _
            refine tw_sg 4 (i1 := 7) (ls1 := [.ref 1, .int (nI l), .int y, .int (nI i), .ref 9, tw_U]) (st1 := [.int (nI l), .ref 85]) (σ1 := σ) rfl ?_
            refine tw_cl0 59 rfl (rfl) (by decide) ?_
            show tw_P L xs _ 74 0 [.ref 85, .int (nI l)] [] σ _
            refine tw_sg 1 (i1 := 1) (ls1 := [.ref 85, .int (nI l)]) (st1 := [.int (nI l)]) (σ1 := σ) rfl ?_
            refine tw_bzF (c := .lt) rfl (by rw [tw_clt', tw_nlt (by omega) (by omega)] <;> omega) ?_
            show tw_P L xs _ 74 2 [.ref 85, .int (nI l)] [] σ _
            refine tw_sg 2 (i1 := 4) (ls1 := [.ref 85, .int (nI l)]) (st1 := [.int (nI 4), .int (nI l)]) (σ1 := σ) rfl ?_
            refine tw_biF (c := .ge) rfl (by rw [tw_cge', tw_nle (by omega) (by omega)] <;> omega) ?_
            show tw_P L xs _ 74 5 [.ref 85, .int (nI l)] [] σ _
            refine tw_sg 2 (i1 := 8) (ls1 := [.ref 85, .int (nI l)]) (st1 := [.int (nI 1)]) (σ1 := σ) rfl ?_
            refine tw_ri rfl (rfl) ?_
            show tw_P L xs _ 173 8 [.ref 1, .int (nI l), .int y, .int (nI i), .ref 9, tw_U] [.int (nI 1)] σ _
            refine tw_bzF (c := .eq) rfl (by rw [tw_ceq', tw_neq (by omega) (by omega)] <;> omega) ?_
            show tw_P L xs _ 173 9 [.ref 1, .int (nI l), .int y, .int (nI i), .ref 9, tw_U] [] σ _
            refine tw_sg 2 (i1 := 11) (ls1 := [.ref 1, .int (nI l), .int y, .int (nI i), .ref 9, tw_U]) (st1 := [.int (nI i), .ref 9]) (σ1 := σ) rfl ?_
            refine tw_cl1 rfl (rfl) (by decide) (tw_e_hasRow1 hr9 hr50 hi) ?_
            rintro _ _ ⟨rfl, rfl⟩
            show tw_P L xs _ 173 12 [.ref 1, .int (nI l), .int y, .int (nI i), .ref 9, tw_U] [.int (nI 1)] σ _
            refine tw_bzT (c := .ne) rfl (by rw [tw_cne, tw_neq (by omega) (by omega)] <;> omega) ?_
            show tw_P L xs _ 173 15 [.ref 1, .int (nI l), .int y, .int (nI i), .ref 9, tw_U] [] σ _
            refine tw_sg 3 (i1 := 18) (ls1 := [.ref 1, .int (nI l), .int y, .int (nI i), .ref 9, tw_U]) (st1 := [.int (nI l), .ref 85]) (σ1 := σ) rfl ?_
            refine tw_cl0 59 rfl (rfl) (by decide) ?_
            show tw_P L xs _ 75 0 [.ref 85, .int (nI l)] [] σ _
            refine tw_sg 2 (i1 := 2) (ls1 := [.ref 85, .int (nI l)]) (st1 := [.int (nI l), .ref 85]) (σ1 := σ) rfl ?_
            refine tw_cl0 58 rfl (rfl) (by decide) ?_
            show tw_P L xs _ 74 0 [.ref 85, .int (nI l)] [] σ _
            refine tw_sg 1 (i1 := 1) (ls1 := [.ref 85, .int (nI l)]) (st1 := [.int (nI l)]) (σ1 := σ) rfl ?_
            refine tw_bzF (c := .lt) rfl (by rw [tw_clt', tw_nlt (by omega) (by omega)] <;> omega) ?_
            show tw_P L xs _ 74 2 [.ref 85, .int (nI l)] [] σ _
            refine tw_sg 2 (i1 := 4) (ls1 := [.ref 85, .int (nI l)]) (st1 := [.int (nI 4), .int (nI l)]) (σ1 := σ) rfl ?_
            refine tw_biF (c := .ge) rfl (by rw [tw_cge', tw_nle (by omega) (by omega)] <;> omega) ?_
            show tw_P L xs _ 74 5 [.ref 85, .int (nI l)] [] σ _
            refine tw_sg 2 (i1 := 8) (ls1 := [.ref 85, .int (nI l)]) (st1 := [.int (nI 1)]) (σ1 := σ) rfl ?_
            refine tw_ri rfl (rfl) ?_
            show tw_P L xs _ 75 3 [.ref 85, .int (nI l)] [.int (nI 1)] σ _
            refine tw_bzF (c := .eq) rfl (by rw [tw_ceq', tw_neq (by omega) (by omega)] <;> omega) ?_
            show tw_P L xs _ 75 4 [.ref 85, .int (nI l)] [] σ _
            refine tw_sg 3 (i1 := 7) (ls1 := [.ref 85, .int (nI l)]) (st1 := [.int (nI l), .ref 87]) (σ1 := σ) rfl ?_
            refine tw_al (k := 87) (j := l) (len := 4) rfl rfl rfl rfl (rfl) (by omega) (by decide) ?_
            rw [e1]
            refine tw_sg 1 (i1 := 9) (ls1 := [.ref 85, .int (nI l)]) (st1 := [.int (-1), .int (nI s)]) (σ1 := σ) rfl ?_
            refine tw_biT (c := .ne) rfl (by rw [tw_cne] <;> (exact (tw_nne1 (by omega)))) ?_
            show tw_P L xs _ 75 12 [.ref 85, .int (nI l)] [] σ _
            refine tw_sg 1 (i1 := 13) (ls1 := [.ref 85, .int (nI l)]) (st1 := [.int (nI 0)]) (σ1 := σ) rfl ?_
            refine tw_ri rfl (rfl) ?_
            show tw_P L xs _ 173 19 [.ref 1, .int (nI l), .int y, .int (nI i), .ref 9, tw_U] [.int (nI 0)] σ _
            refine tw_bzT (c := .eq) rfl (by rw [tw_ceq, tw_neq (by omega) (by omega)] <;> omega) ?_
            show tw_P L xs _ 173 22 [.ref 1, .int (nI l), .int y, .int (nI i), .ref 9, tw_U] [] σ _
            refine tw_sg 4 (i1 := 26) (ls1 := [.ref 1, .int (nI l), .int y, .int (nI i), .ref 9, .int (nI 0)]) (st1 := [.ref 9, .int (nI 0)]) (σ1 := σ) rfl ?_
            refine tw_cl0 59 rfl (rfl) (by decide) ?_
            show tw_P L xs _ 18 0 [.ref 9] [] σ _
            refine tw_sgn 2 (i1 := 2) (ls0 := [.ref 9]) (st0 := [.int (σ 9 4)]) (σ0 := σ) (ls1 := [.ref 9]) (st1 := [.int (nI n)]) (σ1 := σ) rfl (rfl) (by simp only [hw9, tw_nadd, tw_nmul]) (rfl) ?_
            refine tw_ri rfl (rfl) ?_
            show tw_P L xs _ 173 27 [.ref 1, .int (nI l), .int y, .int (nI i), .ref 9, .int (nI 0)] [.int (nI n), .int (nI 0)] σ _
            refine tw_biF (c := .ge) rfl (by rw [tw_cge', tw_nle (by omega) (by omega)] <;> omega) ?_
            show tw_P L xs _ 173 28 [.ref 1, .int (nI l), .int y, .int (nI i), .ref 9, .int (nI 0)] [] σ _
            refine tw_sg 5 (i1 := 33) (ls1 := [.ref 1, .int (nI l), .int y, .int (nI i), .ref 9, .int (nI 0)]) (st1 := [.int (nI 0), .int y, .int (nI l), .ref 85]) (σ1 := σ) rfl ?_
            refine tw_cl0 59 rfl (rfl) (by decide) ?_
            show tw_P L xs _ 77 0 [.ref 85, .int (nI l), .int y, .int (nI 0)] [] σ _
            refine tw_sg 3 (i1 := 3) (ls1 := [.ref 85, .int (nI l), .int y, .int (nI 0)]) (st1 := [.int y, .int (nI l), .ref 85]) (σ1 := σ) rfl ?_
            refine tw_cl0 58 rfl (rfl) (by decide) ?_
            show tw_P L xs _ 76 0 [.ref 85, .int (nI l), .int y] [] σ _
            refine tw_sg 2 (i1 := 2) (ls1 := [.ref 85, .int (nI l), .int y]) (st1 := [.int (nI l), .ref 85]) (σ1 := σ) rfl ?_
            refine tw_cl0 57 rfl (rfl) (by decide) ?_
            show tw_P L xs _ 74 0 [.ref 85, .int (nI l)] [] σ _
            refine tw_sg 1 (i1 := 1) (ls1 := [.ref 85, .int (nI l)]) (st1 := [.int (nI l)]) (σ1 := σ) rfl ?_
            refine tw_bzF (c := .lt) rfl (by rw [tw_clt', tw_nlt (by omega) (by omega)] <;> omega) ?_
            show tw_P L xs _ 74 2 [.ref 85, .int (nI l)] [] σ _
            refine tw_sg 2 (i1 := 4) (ls1 := [.ref 85, .int (nI l)]) (st1 := [.int (nI 4), .int (nI l)]) (σ1 := σ) rfl ?_
            refine tw_biF (c := .ge) rfl (by rw [tw_cge', tw_nle (by omega) (by omega)] <;> omega) ?_
            show tw_P L xs _ 74 5 [.ref 85, .int (nI l)] [] σ _
            refine tw_sg 2 (i1 := 8) (ls1 := [.ref 85, .int (nI l)]) (st1 := [.int (nI 1)]) (σ1 := σ) rfl ?_
            refine tw_ri rfl (rfl) ?_
            show tw_P L xs _ 76 3 [.ref 85, .int (nI l), .int y] [.int (nI 1)] σ _
            refine tw_bzF (c := .eq) rfl (by rw [tw_ceq', tw_neq (by omega) (by omega)] <;> omega) ?_
            show tw_P L xs _ 76 4 [.ref 85, .int (nI l), .int y] [] σ _
            refine tw_sg 1 (i1 := 5) (ls1 := [.ref 85, .int (nI l), .int y]) (st1 := [.int y]) (σ1 := σ) rfl ?_
            refine tw_bzT (c := .lt) rfl (by rw [tw_clt] <;> (exact hy)) ?_
            show tw_P L xs _ 76 14 [.ref 85, .int (nI l), .int y] [] σ _
            refine tw_sg 1 (i1 := 15) (ls1 := [.ref 85, .int (nI l), .int y]) (st1 := [.int (nI 0)]) (σ1 := σ) rfl ?_
            refine tw_ri rfl (rfl) ?_
            show tw_P L xs _ 77 4 [.ref 85, .int (nI l), .int y, .int (nI 0)] [.int (nI 0)] σ _
            refine tw_bzT (c := .eq) rfl (by rw [tw_ceq, tw_neq (by omega) (by omega)] <;> omega) ?_
            show tw_P L xs _ 77 14 [.ref 85, .int (nI l), .int y, .int (nI 0)] [] σ _
            refine tw_sg 1 (i1 := 15) (ls1 := [.ref 85, .int (nI l), .int y, .int (nI 0)]) (st1 := [.int (nI 0)]) (σ1 := σ) rfl ?_
            refine tw_ri rfl (rfl) ?_
            show tw_P L xs _ 173 34 [.ref 1, .int (nI l), .int y, .int (nI i), .ref 9, .int (nI 0)] [.int (nI 0)] σ _
            refine tw_bzF (c := .ne) rfl (by rw [tw_cne', tw_neq (by omega) (by omega)] <;> omega) ?_
            show tw_P L xs _ 173 35 [.ref 1, .int (nI l), .int y, .int (nI i), .ref 9, .int (nI 0)] [] σ _
            refine tw_sg 1 (i1 := 36) (ls1 := [.ref 1, .int (nI l), .int y, .int (nI i), .ref 9, .int (nI 0)]) (st1 := [.int (-13)]) (σ1 := σ) rfl ?_
            refine tw_ri rfl (rfl) ?_
            refine ⟨_, rfl, ?_⟩
            show tw_P L xs _ 254 0 [.ref 88, .int (nI l), .int y, .int (nI i), tw_U] [] σ _
            refine tw_sg 1 (i1 := 1) (ls1 := [.ref 88, .int (nI l), .int y, .int (nI i), tw_U]) (st1 := [.int (nI l)]) (σ1 := σ) rfl ?_
            refine tw_cl0 59 rfl (rfl) (by decide) ?_
            show tw_P L xs _ 250 0 [.int (nI l)] [] σ _
            refine tw_sg 3 (i1 := 3) (ls1 := [.int (nI l)]) (st1 := [.int (nI 3), .int (nI 0), .int (nI l)]) (σ1 := σ) rfl ?_
            refine tw_cl0 58 rfl (rfl) (by decide) ?_
            show tw_P L xs _ 182 0 [.int (nI l), .int (nI 0), .int (nI 3)] [] σ _
            refine tw_sg 2 (i1 := 2) (ls1 := [.int (nI l), .int (nI 0), .int (nI 3)]) (st1 := [.int (nI 0), .int (nI l)]) (σ1 := σ) rfl ?_
            refine tw_biF (c := .lt) rfl (by rw [tw_clt', tw_nlt (by omega) (by omega)] <;> omega) ?_
            show tw_P L xs _ 182 3 [.int (nI l), .int (nI 0), .int (nI 3)] [] σ _
            refine tw_sg 2 (i1 := 5) (ls1 := [.int (nI l), .int (nI 0), .int (nI 3)]) (st1 := [.int (nI 3), .int (nI l)]) (σ1 := σ) rfl ?_
            refine tw_biF (c := .gt) rfl (by rw [tw_cgt', tw_nlt (by omega) (by omega)] <;> omega) ?_
            show tw_P L xs _ 182 6 [.int (nI l), .int (nI 0), .int (nI 3)] [] σ _
            refine tw_sg 2 (i1 := 9) (ls1 := [.int (nI l), .int (nI 0), .int (nI 3)]) (st1 := [.int (nI 1)]) (σ1 := σ) rfl ?_
            refine tw_ri rfl (rfl) ?_
            show tw_P L xs _ 250 4 [.int (nI l)] [.int (nI 1)] σ _
            refine tw_ri rfl (rfl) ?_
            show tw_P L xs _ 254 2 [.ref 88, .int (nI l), .int y, .int (nI i), tw_U] [.int (nI 1)] σ _
            refine tw_bzF (c := .eq) rfl (by rw [tw_ceq', tw_neq (by omega) (by omega)] <;> omega) ?_
            show tw_P L xs _ 254 3 [.ref 88, .int (nI l), .int y, .int (nI i), tw_U] [] σ _
            refine tw_sg 2 (i1 := 5) (ls1 := [.ref 88, .int (nI l), .int y, .int (nI i), tw_U]) (st1 := [.int (nI i), .ref 88]) (σ1 := σ) rfl ?_
            refine tw_cl1 rfl (rfl) (by decide) (tw_e_isRow1 hr90 hr50 hi) ?_
            rintro _ _ ⟨rfl, rfl⟩
            show tw_P L xs _ 254 6 [.ref 88, .int (nI l), .int y, .int (nI i), tw_U] [.int (nI 1)] σ _
            refine tw_bzT (c := .ne) rfl (by rw [tw_cne, tw_neq (by omega) (by omega)] <;> omega) ?_
            show tw_P L xs _ 254 9 [.ref 88, .int (nI l), .int y, .int (nI i), tw_U] [] σ _
            refine tw_sg 3 (i1 := 12) (ls1 := [.ref 88, .int (nI l), .int y, .int (nI i), tw_U]) (st1 := [.int (nI l), .ref 117]) (σ1 := σ) rfl ?_
            refine tw_alb (k := 117) (j := l) (len := 4) rfl rfl (by decide) rfl (rfl) (by omega) (by decide) ?_
            rw [e2]
            refine tw_bzT (c := .ne) rfl (by rw [tw_cne, tw_neq (by omega) (by omega)] <;> omega) ?_
            show tw_P L xs _ 254 16 [.ref 88, .int (nI l), .int y, .int (nI i), tw_U] [] σ _
            refine tw_sg 6 (i1 := 22) (ls1 := [.ref 88, .int (nI l), .int y, .int (nI i), .int (nI 0)]) (st1 := [.int (nI 0), .ref 89, .int (nI 0)]) (σ1 := σ) rfl ?_
            refine tw_al (k := 89) (j := 0) (len := 2) rfl rfl rfl rfl (rfl) (by omega) (by decide) ?_
            rw [hn89]
            refine tw_biF (c := .ge) rfl (by rw [tw_cge', tw_nle (by omega) (by omega)] <;> omega) ?_
            show tw_P L xs _ 254 24 [.ref 88, .int (nI l), .int y, .int (nI i), .int (nI 0)] [] σ _
            refine tw_sg 1 (i1 := 25) (ls1 := [.ref 88, .int (nI l), .int y, .int (nI i), .int (nI 0)]) (st1 := [.int y]) (σ1 := σ) rfl ?_
            refine tw_bzT (c := .lt) rfl (by rw [tw_clt] <;> (exact hy)) ?_
            show tw_P L xs _ 254 34 [.ref 88, .int (nI l), .int y, .int (nI i), .int (nI 0)] [] σ _
            refine tw_sg 1 (i1 := 35) (ls1 := [.ref 88, .int (nI l), .int y, .int (nI i), .int (nI 0)]) (st1 := [.int (-13)]) (σ1 := σ) rfl ?_
            refine tw_ri rfl (rfl) ?_
            exact ⟨rfl, hI⟩
        · obtain ⟨m, m1, m2, m3⟩ : ∃ m, m ≤ n ∧ (m = 0 ∨ y1 + m ≤ s) ∧ (m = n ∨ s ≤ y1 + m) := ⟨min n (s - y1), by omega, by omega, by omega⟩
          obtain ⟨A, A1, A2⟩ : ∃ A : Int32, (m = n → A = nI n) ∧ (m < n → A = (-13)) := ⟨if m = n then nI n else (-13), fun h => if_pos h, fun h => if_neg (by omega)⟩
          show tw_P L xs _ 173 0 [.ref 1, .int (nI l), .int (nI y1), .int (nI i), tw_U, tw_U] [] σ _
          refine tw_sg 2 (i1 := 2) (ls1 := [.ref 1, .int (nI l), .int (nI y1), .int (nI i), tw_U, tw_U]) (st1 := [.ref 6]) (σ1 := σ) rfl ?_
          refine tw_cl0 59 rfl (rfl) (by decide) ?_
          show tw_P L xs _ 83 0 [.ref 6] [] σ _
          refine tw_sg 2 (i1 := 2) (ls1 := [.ref 6]) (st1 := [.ref 9]) (σ1 := σ) rfl ?_
          refine tw_ra rfl ?_
          show tw_P L xs _ 173 3 [.ref 1, .int (nI l), .int (nI y1), .int (nI i), tw_U, tw_U] [.ref 9] σ _
          refine tw_sg 4 (i1 := 7) (ls1 := [.ref 1, .int (nI l), .int (nI y1), .int (nI i), .ref 9, tw_U]) (st1 := [.int (nI l), .ref 85]) (σ1 := σ) rfl ?_
          refine tw_cl0 59 rfl (rfl) (by decide) ?_
          show tw_P L xs _ 74 0 [.ref 85, .int (nI l)] [] σ _
          refine tw_sg 1 (i1 := 1) (ls1 := [.ref 85, .int (nI l)]) (st1 := [.int (nI l)]) (σ1 := σ) rfl ?_
          refine tw_bzF (c := .lt) rfl (by rw [tw_clt', tw_nlt (by omega) (by omega)] <;> omega) ?_
          show tw_P L xs _ 74 2 [.ref 85, .int (nI l)] [] σ _
          refine tw_sg 2 (i1 := 4) (ls1 := [.ref 85, .int (nI l)]) (st1 := [.int (nI 4), .int (nI l)]) (σ1 := σ) rfl ?_
          refine tw_biF (c := .ge) rfl (by rw [tw_cge', tw_nle (by omega) (by omega)] <;> omega) ?_
          show tw_P L xs _ 74 5 [.ref 85, .int (nI l)] [] σ _
          refine tw_sg 2 (i1 := 8) (ls1 := [.ref 85, .int (nI l)]) (st1 := [.int (nI 1)]) (σ1 := σ) rfl ?_
          refine tw_ri rfl (rfl) ?_
          show tw_P L xs _ 173 8 [.ref 1, .int (nI l), .int (nI y1), .int (nI i), .ref 9, tw_U] [.int (nI 1)] σ _
          refine tw_bzF (c := .eq) rfl (by rw [tw_ceq', tw_neq (by omega) (by omega)] <;> omega) ?_
          show tw_P L xs _ 173 9 [.ref 1, .int (nI l), .int (nI y1), .int (nI i), .ref 9, tw_U] [] σ _
          refine tw_sg 2 (i1 := 11) (ls1 := [.ref 1, .int (nI l), .int (nI y1), .int (nI i), .ref 9, tw_U]) (st1 := [.int (nI i), .ref 9]) (σ1 := σ) rfl ?_
          refine tw_cl1 rfl (rfl) (by decide) (tw_e_hasRow1 hr9 hr50 hi) ?_
          rintro _ _ ⟨rfl, rfl⟩
          show tw_P L xs _ 173 12 [.ref 1, .int (nI l), .int (nI y1), .int (nI i), .ref 9, tw_U] [.int (nI 1)] σ _
          refine tw_bzT (c := .ne) rfl (by rw [tw_cne, tw_neq (by omega) (by omega)] <;> omega) ?_
          show tw_P L xs _ 173 15 [.ref 1, .int (nI l), .int (nI y1), .int (nI i), .ref 9, tw_U] [] σ _
          refine tw_sg 3 (i1 := 18) (ls1 := [.ref 1, .int (nI l), .int (nI y1), .int (nI i), .ref 9, tw_U]) (st1 := [.int (nI l), .ref 85]) (σ1 := σ) rfl ?_
          refine tw_cl0 59 rfl (rfl) (by decide) ?_
          show tw_P L xs _ 75 0 [.ref 85, .int (nI l)] [] σ _
          refine tw_sg 2 (i1 := 2) (ls1 := [.ref 85, .int (nI l)]) (st1 := [.int (nI l), .ref 85]) (σ1 := σ) rfl ?_
          refine tw_cl0 58 rfl (rfl) (by decide) ?_
          show tw_P L xs _ 74 0 [.ref 85, .int (nI l)] [] σ _
          refine tw_sg 1 (i1 := 1) (ls1 := [.ref 85, .int (nI l)]) (st1 := [.int (nI l)]) (σ1 := σ) rfl ?_
          refine tw_bzF (c := .lt) rfl (by rw [tw_clt', tw_nlt (by omega) (by omega)] <;> omega) ?_
          show tw_P L xs _ 74 2 [.ref 85, .int (nI l)] [] σ _
          refine tw_sg 2 (i1 := 4) (ls1 := [.ref 85, .int (nI l)]) (st1 := [.int (nI 4), .int (nI l)]) (σ1 := σ) rfl ?_
          refine tw_biF (c := .ge) rfl (by rw [tw_cge', tw_nle (by omega) (by omega)] <;> omega) ?_
          show tw_P L xs _ 74 5 [.ref 85, .int (nI l)] [] σ _
          refine tw_sg 2 (i1 := 8) (ls1 := [.ref 85, .int (nI l)]) (st1 := [.int (nI 1)]) (σ1 := σ) rfl ?_
          refine tw_ri rfl (rfl) ?_
          show tw_P L xs _ 75 3 [.ref 85, .int (nI l)] [.int (nI 1)] σ _
          refine tw_bzF (c := .eq) rfl (by rw [tw_ceq', tw_neq (by omega) (by omega)] <;> omega) ?_
          show tw_P L xs _ 75 4 [.ref 85, .int (nI l)] [] σ _
          refine tw_sg 3 (i1 := 7) (ls1 := [.ref 85, .int (nI l)]) (st1 := [.int (nI l), .ref 87]) (σ1 := σ) rfl ?_
          refine tw_al (k := 87) (j := l) (len := 4) rfl rfl rfl rfl (rfl) (by omega) (by decide) ?_
          rw [e1]
          refine tw_sg 1 (i1 := 9) (ls1 := [.ref 85, .int (nI l)]) (st1 := [.int (-1), .int (nI s)]) (σ1 := σ) rfl ?_
          refine tw_biT (c := .ne) rfl (by rw [tw_cne] <;> (exact (tw_nne1 (by omega)))) ?_
          show tw_P L xs _ 75 12 [.ref 85, .int (nI l)] [] σ _
          refine tw_sg 1 (i1 := 13) (ls1 := [.ref 85, .int (nI l)]) (st1 := [.int (nI 0)]) (σ1 := σ) rfl ?_
          refine tw_ri rfl (rfl) ?_
          show tw_P L xs _ 173 19 [.ref 1, .int (nI l), .int (nI y1), .int (nI i), .ref 9, tw_U] [.int (nI 0)] σ _
          refine tw_bzT (c := .eq) rfl (by rw [tw_ceq, tw_neq (by omega) (by omega)] <;> omega) ?_
          show tw_P L xs _ 173 22 [.ref 1, .int (nI l), .int (nI y1), .int (nI i), .ref 9, tw_U] [] σ _
          refine tw_sg 2 (i1 := 24) (ls1 := [.ref 1, .int (nI l), .int (nI y1), .int (nI i), .ref 9, .int (nI 0)]) (st1 := []) (σ1 := σ) rfl ?_
          refine tw_P_le (d := 5) (tw_l_layC (σ0 := σ) hl hs hy1 hi hr50 hn10 m1 m2 m3 A1 A2 e1 hr9 hw9 (tw_isF0 hRo) m 0 σ (by omega) (fun _ _ _ => rfl) (fun τ g1 g2 => ⟨_, rfl, ?_⟩)) (by decide)
          show tw_P L xs _ 254 0 [.ref 88, .int (nI l), .int (nI y1), .int (nI i), tw_U] [] τ _
          refine tw_sg 1 (i1 := 1) (ls1 := [.ref 88, .int (nI l), .int (nI y1), .int (nI i), tw_U]) (st1 := [.int (nI l)]) (σ1 := τ) rfl ?_
          refine tw_cl0 59 rfl (rfl) (by decide) ?_
          show tw_P L xs _ 250 0 [.int (nI l)] [] τ _
          refine tw_sg 3 (i1 := 3) (ls1 := [.int (nI l)]) (st1 := [.int (nI 3), .int (nI 0), .int (nI l)]) (σ1 := τ) rfl ?_
          refine tw_cl0 58 rfl (rfl) (by decide) ?_
          show tw_P L xs _ 182 0 [.int (nI l), .int (nI 0), .int (nI 3)] [] τ _
          refine tw_sg 2 (i1 := 2) (ls1 := [.int (nI l), .int (nI 0), .int (nI 3)]) (st1 := [.int (nI 0), .int (nI l)]) (σ1 := τ) rfl ?_
          refine tw_biF (c := .lt) rfl (by rw [tw_clt', tw_nlt (by omega) (by omega)] <;> omega) ?_
          show tw_P L xs _ 182 3 [.int (nI l), .int (nI 0), .int (nI 3)] [] τ _
          refine tw_sg 2 (i1 := 5) (ls1 := [.int (nI l), .int (nI 0), .int (nI 3)]) (st1 := [.int (nI 3), .int (nI l)]) (σ1 := τ) rfl ?_
          refine tw_biF (c := .gt) rfl (by rw [tw_cgt', tw_nlt (by omega) (by omega)] <;> omega) ?_
          show tw_P L xs _ 182 6 [.int (nI l), .int (nI 0), .int (nI 3)] [] τ _
          refine tw_sg 2 (i1 := 9) (ls1 := [.int (nI l), .int (nI 0), .int (nI 3)]) (st1 := [.int (nI 1)]) (σ1 := τ) rfl ?_
          refine tw_ri rfl (rfl) ?_
          show tw_P L xs _ 250 4 [.int (nI l)] [.int (nI 1)] τ _
          refine tw_ri rfl (rfl) ?_
          show tw_P L xs _ 254 2 [.ref 88, .int (nI l), .int (nI y1), .int (nI i), tw_U] [.int (nI 1)] τ _
          refine tw_bzF (c := .eq) rfl (by rw [tw_ceq', tw_neq (by omega) (by omega)] <;> omega) ?_
          show tw_P L xs _ 254 3 [.ref 88, .int (nI l), .int (nI y1), .int (nI i), tw_U] [] τ _
          refine tw_sg 2 (i1 := 5) (ls1 := [.ref 88, .int (nI l), .int (nI y1), .int (nI i), tw_U]) (st1 := [.int (nI i), .ref 88]) (σ1 := τ) rfl ?_
          refine tw_cl1 rfl (rfl) (by decide) (tw_e_isRow1 (r := r) ((g1 90 0 (by omega)).trans hr90) hr50 hi) ?_
          rintro _ _ ⟨rfl, rfl⟩
          show tw_P L xs _ 254 6 [.ref 88, .int (nI l), .int (nI y1), .int (nI i), tw_U] [.int (nI 1)] τ _
          refine tw_bzT (c := .ne) rfl (by rw [tw_cne, tw_neq (by omega) (by omega)] <;> omega) ?_
          show tw_P L xs _ 254 9 [.ref 88, .int (nI l), .int (nI y1), .int (nI i), tw_U] [] τ _
          refine tw_sg 3 (i1 := 12) (ls1 := [.ref 88, .int (nI l), .int (nI y1), .int (nI i), tw_U]) (st1 := [.int (nI l), .ref 117]) (σ1 := τ) rfl ?_
          refine tw_alb (k := 117) (j := l) (len := 4) rfl rfl (by decide) rfl (rfl) (by omega) (by decide) ?_
          rw [((g1 117 l (by omega)).trans e2)]
          refine tw_bzT (c := .ne) rfl (by rw [tw_cne, tw_neq (by omega) (by omega)] <;> omega) ?_
          show tw_P L xs _ 254 16 [.ref 88, .int (nI l), .int (nI y1), .int (nI i), tw_U] [] τ _
          refine tw_sg 2 (i1 := 18) (ls1 := [.ref 88, .int (nI l), .int (nI y1), .int (nI i), .int (nI 0)]) (st1 := []) (σ1 := τ) rfl ?_
          refine tw_P_le (d := 1) (tw_l_layM (σ0 := τ) hl hs hy1 hi hr50 hn10 m1 m2 m3 A1 A2 ((g1 118 l (by omega)).trans e3) ((g1 89 0 (by omega)).trans hn89) m 0 τ (by omega) (fun _ _ _ => rfl) (fun ω k1 k2 => ⟨rfl, ?_⟩)) (by decide)
          have F : ∀ k j, ¬ (k = 86 ∧ l * 20 + y1 ≤ j ∧ j < l * 20 + (y1 + m)) → ¬ (k = 119 ∧ 20 * l + y1 ≤ j ∧ j < 20 * l + (y1 + m)) → ω k j = σ k j := fun k j a b => by rw [k1 k j (by omega), g1 k j (by omega)]
          have hv : ∀ q, q < m → ω 86 (l * 20 + (y1 + q)) = σ 95 (10 * i + q) := fun q hq => by rw [k1 _ _ (by omega)]; exact g2 q (by omega) hq
          have hw2 : ∀ q, q < m → ω 119 (20 * l + (y1 + q)) = σ 95 (10 * i + q) := fun q hq => (k2 q (by omega) hq).trans (g1 95 _ (by omega))
          refine hI.lists (fun l2 hl2 => ?_) (fun k j h => F k j (by unfold tw_fLists at h; omega) (by unfold tw_fLists at h; omega))
          rcases hLs l2 hl2 with ⟨b1, b2⟩ | ⟨s2, b0, b1, b2, b3, b4⟩
          · exact Or.inl ⟨(F _ _ (by omega) (by omega)).trans b1, (F _ _ (by omega) (by omega)).trans b2⟩
          · refine Or.inr ⟨s2, b0, (F _ _ (by omega) (by omega)).trans b1, (F _ _ (by omega) (by omega)).trans b2, (F _ _ (by omega) (by omega)).trans b3, fun i2 hi2 => ?_⟩
            by_cases hz : l2 = l ∧ y1 ≤ i2 ∧ i2 < y1 + m
            · obtain ⟨hz1, hz2, hz3⟩ := hz
              have e := hv (i2 - y1) (by omega)
              have e5 := hw2 (i2 - y1) (by omega)
              rw [show y1 + (i2 - y1) = i2 by omega] at e e5
              rw [hz1, e, e5]
            · rw [F 86 _ (by omega) (by omega), F 119 _ (by omega) (by omega)]; exact b4 i2 hi2
    · skip
      show tw_P L xs _ 173 0 [.ref 1, .int (nI l), .int y, .int w, tw_U, tw_U] [] σ _
      refine tw_sg 2 (i1 := 2) (ls1 := [.ref 1, .int (nI l), .int y, .int w, tw_U, tw_U]) (st1 := [.ref 6]) (σ1 := σ) rfl ?_
      refine tw_cl0 59 rfl (rfl) (by decide) ?_
      show tw_P L xs _ 83 0 [.ref 6] [] σ _
      refine tw_sg 2 (i1 := 2) (ls1 := [.ref 6]) (st1 := [.ref 9]) (σ1 := σ) rfl ?_
      refine tw_ra rfl ?_
      show tw_P L xs _ 173 3 [.ref 1, .int (nI l), .int y, .int w, tw_U, tw_U] [.ref 9] σ _
      refine tw_sg 4 (i1 := 7) (ls1 := [.ref 1, .int (nI l), .int y, .int w, .ref 9, tw_U]) (st1 := [.int (nI l), .ref 85]) (σ1 := σ) rfl ?_
      refine tw_cl0 59 rfl (rfl) (by decide) ?_
      show tw_P L xs _ 74 0 [.ref 85, .int (nI l)] [] σ _
      refine tw_sg 1 (i1 := 1) (ls1 := [.ref 85, .int (nI l)]) (st1 := [.int (nI l)]) (σ1 := σ) rfl ?_
      refine tw_bzF (c := .lt) rfl (by rw [tw_clt', tw_nlt (by omega) (by omega)] <;> omega) ?_
      show tw_P L xs _ 74 2 [.ref 85, .int (nI l)] [] σ _
      refine tw_sg 2 (i1 := 4) (ls1 := [.ref 85, .int (nI l)]) (st1 := [.int (nI 4), .int (nI l)]) (σ1 := σ) rfl ?_
      refine tw_biF (c := .ge) rfl (by rw [tw_cge', tw_nle (by omega) (by omega)] <;> omega) ?_
      show tw_P L xs _ 74 5 [.ref 85, .int (nI l)] [] σ _
      refine tw_sg 2 (i1 := 8) (ls1 := [.ref 85, .int (nI l)]) (st1 := [.int (nI 1)]) (σ1 := σ) rfl ?_
      refine tw_ri rfl (rfl) ?_
      show tw_P L xs _ 173 8 [.ref 1, .int (nI l), .int y, .int w, .ref 9, tw_U] [.int (nI 1)] σ _
      refine tw_bzF (c := .eq) rfl (by rw [tw_ceq', tw_neq (by omega) (by omega)] <;> omega) ?_
      show tw_P L xs _ 173 9 [.ref 1, .int (nI l), .int y, .int w, .ref 9, tw_U] [] σ _
      refine tw_sg 2 (i1 := 11) (ls1 := [.ref 1, .int (nI l), .int y, .int w, .ref 9, tw_U]) (st1 := [.int w, .ref 9]) (σ1 := σ) rfl ?_
      refine tw_cl1 rfl (rfl) (by decide) (tw_e_hasRow0 hr9 hw) ?_
      rintro _ _ ⟨rfl, rfl⟩
      show tw_P L xs _ 173 12 [.ref 1, .int (nI l), .int y, .int w, .ref 9, tw_U] [.int (nI 0)] σ _
      refine tw_bzF (c := .ne) rfl (by rw [tw_cne', tw_neq (by omega) (by omega)] <;> omega) ?_
      show tw_P L xs _ 173 13 [.ref 1, .int (nI l), .int y, .int w, .ref 9, tw_U] [] σ _
      refine tw_sg 1 (i1 := 14) (ls1 := [.ref 1, .int (nI l), .int y, .int w, .ref 9, tw_U]) (st1 := [.int (-1)]) (σ1 := σ) rfl ?_
      refine tw_ri rfl (rfl) ?_
      refine ⟨_, rfl, ?_⟩
      show tw_P L xs _ 254 0 [.ref 88, .int (nI l), .int y, .int w, tw_U] [] σ _
      refine tw_sg 1 (i1 := 1) (ls1 := [.ref 88, .int (nI l), .int y, .int w, tw_U]) (st1 := [.int (nI l)]) (σ1 := σ) rfl ?_
      refine tw_cl0 59 rfl (rfl) (by decide) ?_
      show tw_P L xs _ 250 0 [.int (nI l)] [] σ _
      refine tw_sg 3 (i1 := 3) (ls1 := [.int (nI l)]) (st1 := [.int (nI 3), .int (nI 0), .int (nI l)]) (σ1 := σ) rfl ?_
      refine tw_cl0 58 rfl (rfl) (by decide) ?_
      show tw_P L xs _ 182 0 [.int (nI l), .int (nI 0), .int (nI 3)] [] σ _
      refine tw_sg 2 (i1 := 2) (ls1 := [.int (nI l), .int (nI 0), .int (nI 3)]) (st1 := [.int (nI 0), .int (nI l)]) (σ1 := σ) rfl ?_
      refine tw_biF (c := .lt) rfl (by rw [tw_clt', tw_nlt (by omega) (by omega)] <;> omega) ?_
      show tw_P L xs _ 182 3 [.int (nI l), .int (nI 0), .int (nI 3)] [] σ _
      refine tw_sg 2 (i1 := 5) (ls1 := [.int (nI l), .int (nI 0), .int (nI 3)]) (st1 := [.int (nI 3), .int (nI l)]) (σ1 := σ) rfl ?_
      refine tw_biF (c := .gt) rfl (by rw [tw_cgt', tw_nlt (by omega) (by omega)] <;> omega) ?_
      show tw_P L xs _ 182 6 [.int (nI l), .int (nI 0), .int (nI 3)] [] σ _
      refine tw_sg 2 (i1 := 9) (ls1 := [.int (nI l), .int (nI 0), .int (nI 3)]) (st1 := [.int (nI 1)]) (σ1 := σ) rfl ?_
      refine tw_ri rfl (rfl) ?_
      show tw_P L xs _ 250 4 [.int (nI l)] [.int (nI 1)] σ _
      refine tw_ri rfl (rfl) ?_
      show tw_P L xs _ 254 2 [.ref 88, .int (nI l), .int y, .int w, tw_U] [.int (nI 1)] σ _
      refine tw_bzF (c := .eq) rfl (by rw [tw_ceq', tw_neq (by omega) (by omega)] <;> omega) ?_
      show tw_P L xs _ 254 3 [.ref 88, .int (nI l), .int y, .int w, tw_U] [] σ _
      refine tw_sg 2 (i1 := 5) (ls1 := [.ref 88, .int (nI l), .int y, .int w, tw_U]) (st1 := [.int w, .ref 88]) (σ1 := σ) rfl ?_
      refine tw_cl1 rfl (rfl) (by decide) (tw_e_isRow0 hr90 hr50 hw) ?_
      rintro _ _ ⟨rfl, rfl⟩
      show tw_P L xs _ 254 6 [.ref 88, .int (nI l), .int y, .int w, tw_U] [.int (nI 0)] σ _
      refine tw_bzF (c := .ne) rfl (by rw [tw_cne', tw_neq (by omega) (by omega)] <;> omega) ?_
      show tw_P L xs _ 254 7 [.ref 88, .int (nI l), .int y, .int w, tw_U] [] σ _
      refine tw_sg 1 (i1 := 8) (ls1 := [.ref 88, .int (nI l), .int y, .int w, tw_U]) (st1 := [.int (-1)]) (σ1 := σ) rfl ?_
      refine tw_ri rfl (rfl) ?_
      exact ⟨rfl, hI⟩
  · rcases hx with hx | ⟨hx, hx2⟩
    · skip
      show tw_P L xs _ 173 0 [.ref 1, .int x, .int y, .int w, tw_U, tw_U] [] σ _
      refine tw_sg 2 (i1 := 2) (ls1 := [.ref 1, .int x, .int y, .int w, tw_U, tw_U]) (st1 := [.ref 6]) (σ1 := σ) rfl ?_
      refine tw_cl0 59 rfl (rfl) (by decide) ?_
      show tw_P L xs _ 83 0 [.ref 6] [] σ _
      refine tw_sg 2 (i1 := 2) (ls1 := [.ref 6]) (st1 := [.ref 9]) (σ1 := σ) rfl ?_
      refine tw_ra rfl ?_
      show tw_P L xs _ 173 3 [.ref 1, .int x, .int y, .int w, tw_U, tw_U] [.ref 9] σ _
      refine tw_sg 4 (i1 := 7) (ls1 := [.ref 1, .int x, .int y, .int w, .ref 9, tw_U]) (st1 := [.int x, .ref 85]) (σ1 := σ) rfl ?_
      refine tw_cl0 59 rfl (rfl) (by decide) ?_
      show tw_P L xs _ 74 0 [.ref 85, .int x] [] σ _
      refine tw_sg 1 (i1 := 1) (ls1 := [.ref 85, .int x]) (st1 := [.int x]) (σ1 := σ) rfl ?_
      refine tw_bzT (c := .lt) rfl (by rw [tw_clt] <;> (exact hx)) ?_
      show tw_P L xs _ 74 7 [.ref 85, .int x] [] σ _
      refine tw_sg 1 (i1 := 8) (ls1 := [.ref 85, .int x]) (st1 := [.int (nI 0)]) (σ1 := σ) rfl ?_
      refine tw_ri rfl (rfl) ?_
      show tw_P L xs _ 173 8 [.ref 1, .int x, .int y, .int w, .ref 9, tw_U] [.int (nI 0)] σ _
      refine tw_bzT (c := .eq) rfl (by rw [tw_ceq, tw_neq (by omega) (by omega)] <;> omega) ?_
      show tw_P L xs _ 173 13 [.ref 1, .int x, .int y, .int w, .ref 9, tw_U] [] σ _
      refine tw_sg 1 (i1 := 14) (ls1 := [.ref 1, .int x, .int y, .int w, .ref 9, tw_U]) (st1 := [.int (-1)]) (σ1 := σ) rfl ?_
      refine tw_ri rfl (rfl) ?_
      refine ⟨_, rfl, ?_⟩
      show tw_P L xs _ 254 0 [.ref 88, .int x, .int y, .int w, tw_U] [] σ _
      refine tw_sg 1 (i1 := 1) (ls1 := [.ref 88, .int x, .int y, .int w, tw_U]) (st1 := [.int x]) (σ1 := σ) rfl ?_
      refine tw_cl0 59 rfl (rfl) (by decide) ?_
      show tw_P L xs _ 250 0 [.int x] [] σ _
      refine tw_sg 3 (i1 := 3) (ls1 := [.int x]) (st1 := [.int (nI 3), .int (nI 0), .int x]) (σ1 := σ) rfl ?_
      refine tw_cl0 58 rfl (rfl) (by decide) ?_
      show tw_P L xs _ 182 0 [.int x, .int (nI 0), .int (nI 3)] [] σ _
      refine tw_sg 2 (i1 := 2) (ls1 := [.int x, .int (nI 0), .int (nI 3)]) (st1 := [.int (nI 0), .int x]) (σ1 := σ) rfl ?_
      refine tw_biT (c := .lt) rfl (by rw [tw_clt] <;> (exact hx)) ?_
      show tw_P L xs _ 182 8 [.int x, .int (nI 0), .int (nI 3)] [] σ _
      refine tw_sg 1 (i1 := 9) (ls1 := [.int x, .int (nI 0), .int (nI 3)]) (st1 := [.int (nI 0)]) (σ1 := σ) rfl ?_
      refine tw_ri rfl (rfl) ?_
      show tw_P L xs _ 250 4 [.int x] [.int (nI 0)] σ _
      refine tw_ri rfl (rfl) ?_
      show tw_P L xs _ 254 2 [.ref 88, .int x, .int y, .int w, tw_U] [.int (nI 0)] σ _
      refine tw_bzT (c := .eq) rfl (by rw [tw_ceq, tw_neq (by omega) (by omega)] <;> omega) ?_
      show tw_P L xs _ 254 7 [.ref 88, .int x, .int y, .int w, tw_U] [] σ _
      refine tw_sg 1 (i1 := 8) (ls1 := [.ref 88, .int x, .int y, .int w, tw_U]) (st1 := [.int (-1)]) (σ1 := σ) rfl ?_
      refine tw_ri rfl (rfl) ?_
      exact ⟨rfl, hI⟩
    · skip
      show tw_P L xs _ 173 0 [.ref 1, .int x, .int y, .int w, tw_U, tw_U] [] σ _
      refine tw_sg 2 (i1 := 2) (ls1 := [.ref 1, .int x, .int y, .int w, tw_U, tw_U]) (st1 := [.ref 6]) (σ1 := σ) rfl ?_
      refine tw_cl0 59 rfl (rfl) (by decide) ?_
      show tw_P L xs _ 83 0 [.ref 6] [] σ _
      refine tw_sg 2 (i1 := 2) (ls1 := [.ref 6]) (st1 := [.ref 9]) (σ1 := σ) rfl ?_
      refine tw_ra rfl ?_
      show tw_P L xs _ 173 3 [.ref 1, .int x, .int y, .int w, tw_U, tw_U] [.ref 9] σ _
      refine tw_sg 4 (i1 := 7) (ls1 := [.ref 1, .int x, .int y, .int w, .ref 9, tw_U]) (st1 := [.int x, .ref 85]) (σ1 := σ) rfl ?_
      refine tw_cl0 59 rfl (rfl) (by decide) ?_
      show tw_P L xs _ 74 0 [.ref 85, .int x] [] σ _
      refine tw_sg 1 (i1 := 1) (ls1 := [.ref 85, .int x]) (st1 := [.int x]) (σ1 := σ) rfl ?_
      refine tw_bzF (c := .lt) rfl (by rw [tw_clt'] <;> (exact hx)) ?_
      show tw_P L xs _ 74 2 [.ref 85, .int x] [] σ _
      refine tw_sg 2 (i1 := 4) (ls1 := [.ref 85, .int x]) (st1 := [.int (nI 4), .int x]) (σ1 := σ) rfl ?_
      refine tw_biT (c := .ge) rfl (by rw [tw_cge] <;> (exact tw_not_lt.mp (tw_not_lt.mpr hx2))) ?_
      show tw_P L xs _ 74 7 [.ref 85, .int x] [] σ _
      refine tw_sg 1 (i1 := 8) (ls1 := [.ref 85, .int x]) (st1 := [.int (nI 0)]) (σ1 := σ) rfl ?_
      refine tw_ri rfl (rfl) ?_
      show tw_P L xs _ 173 8 [.ref 1, .int x, .int y, .int w, .ref 9, tw_U] [.int (nI 0)] σ _
      refine tw_bzT (c := .eq) rfl (by rw [tw_ceq, tw_neq (by omega) (by omega)] <;> omega) ?_
      show tw_P L xs _ 173 13 [.ref 1, .int x, .int y, .int w, .ref 9, tw_U] [] σ _
      refine tw_sg 1 (i1 := 14) (ls1 := [.ref 1, .int x, .int y, .int w, .ref 9, tw_U]) (st1 := [.int (-1)]) (σ1 := σ) rfl ?_
      refine tw_ri rfl (rfl) ?_
      refine ⟨_, rfl, ?_⟩
      show tw_P L xs _ 254 0 [.ref 88, .int x, .int y, .int w, tw_U] [] σ _
      refine tw_sg 1 (i1 := 1) (ls1 := [.ref 88, .int x, .int y, .int w, tw_U]) (st1 := [.int x]) (σ1 := σ) rfl ?_
      refine tw_cl0 59 rfl (rfl) (by decide) ?_
      show tw_P L xs _ 250 0 [.int x] [] σ _
      refine tw_sg 3 (i1 := 3) (ls1 := [.int x]) (st1 := [.int (nI 3), .int (nI 0), .int x]) (σ1 := σ) rfl ?_
      refine tw_cl0 58 rfl (rfl) (by decide) ?_
      show tw_P L xs _ 182 0 [.int x, .int (nI 0), .int (nI 3)] [] σ _
      refine tw_sg 2 (i1 := 2) (ls1 := [.int x, .int (nI 0), .int (nI 3)]) (st1 := [.int (nI 0), .int x]) (σ1 := σ) rfl ?_
      refine tw_biF (c := .lt) rfl (by rw [tw_clt'] <;> (exact hx)) ?_
      show tw_P L xs _ 182 3 [.int x, .int (nI 0), .int (nI 3)] [] σ _
      refine tw_sg 2 (i1 := 5) (ls1 := [.int x, .int (nI 0), .int (nI 3)]) (st1 := [.int (nI 3), .int x]) (σ1 := σ) rfl ?_
      refine tw_biT (c := .gt) rfl (by rw [tw_cgt] <;> (exact (tw_lt_le1 (n := 3) (by decide) hx2))) ?_
      show tw_P L xs _ 182 8 [.int x, .int (nI 0), .int (nI 3)] [] σ _
      refine tw_sg 1 (i1 := 9) (ls1 := [.int x, .int (nI 0), .int (nI 3)]) (st1 := [.int (nI 0)]) (σ1 := σ) rfl ?_
      refine tw_ri rfl (rfl) ?_
      show tw_P L xs _ 250 4 [.int x] [.int (nI 0)] σ _
      refine tw_ri rfl (rfl) ?_
      show tw_P L xs _ 254 2 [.ref 88, .int x, .int y, .int w, tw_U] [.int (nI 0)] σ _
      refine tw_bzT (c := .eq) rfl (by rw [tw_ceq, tw_neq (by omega) (by omega)] <;> omega) ?_
      show tw_P L xs _ 254 7 [.ref 88, .int x, .int y, .int w, tw_U] [] σ _
      refine tw_sg 1 (i1 := 8) (ls1 := [.ref 88, .int x, .int y, .int w, tw_U]) (st1 := [.int (-1)]) (σ1 := σ) rfl ?_
      refine tw_ri rfl (rfl) ?_
      exact ⟨rfl, hI⟩
end tw_s54
