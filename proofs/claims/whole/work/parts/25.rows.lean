/-! the rows: front, back, lean, turning -/
section tw_s25
variable {L : Nat} {xs : Nat → Int32} {σ : tw_Mem} {x y w : Int32} {n r i c k h q a b e : Nat}
set_option maxHeartbeats 4000000 in
set_option maxRecDepth 100000 in
theorem tw_e_cell1 (hr9 : σ 9 3 = nI r) (hw9 : σ 9 4 = nI n) (h50 : r ≤ 50) (h10 : n ≤ 10) (hi : i < r) (hc : c < n) (hq : q < 4) : tw_E L xs 2 21 [.ref 9, .int (nI i), .int (nI c), .int (nI q)] σ (fun v σ1 => v = some (.int (σ 10 ((i * 10 + c) * 4 + q))) ∧ σ = σ1) := by
  show tw_P L xs _ 21 0 [.ref 9, .int (nI i), .int (nI c), .int (nI q), tw_U] [] σ _
  refine tw_sg 2 (i1 := 2) (ls1 := [.ref 9, .int (nI i), .int (nI c), .int (nI q), tw_U]) (st1 := [.int (nI i), .ref 9]) (σ1 := σ) rfl ?_
  refine tw_cl1 rfl (rfl) (by decide) (tw_e_hasRow1 hr9 h50 hi) ?_
  rintro _ _ ⟨rfl, rfl⟩
  show tw_P L xs _ 21 3 [.ref 9, .int (nI i), .int (nI c), .int (nI q), tw_U] [.int (nI 1)] σ _
  refine tw_bzF (c := .eq) rfl (by rw [tw_ceq', tw_neq (by omega) (by omega)] <;> omega) ?_
  show tw_P L xs _ 21 4 [.ref 9, .int (nI i), .int (nI c), .int (nI q), tw_U] [] σ _
  refine tw_sg 1 (i1 := 5) (ls1 := [.ref 9, .int (nI i), .int (nI c), .int (nI q), tw_U]) (st1 := [.int (nI c)]) (σ1 := σ) rfl ?_
  refine tw_bzF (c := .lt) rfl (by rw [tw_clt', tw_nlt (by omega) (by omega)] <;> omega) ?_
  show tw_P L xs _ 21 6 [.ref 9, .int (nI i), .int (nI c), .int (nI q), tw_U] [] σ _
  refine tw_sgn 3 (i1 := 9) (ls0 := [.ref 9, .int (nI i), .int (nI c), .int (nI q), tw_U]) (st0 := [.int (σ 9 4), .int (nI c)]) (σ0 := σ) (ls1 := [.ref 9, .int (nI i), .int (nI c), .int (nI q), tw_U]) (st1 := [.int (nI n), .int (nI c)]) (σ1 := σ) rfl (rfl) (by simp only [hw9, tw_nadd, tw_nmul]) (rfl) ?_
  refine tw_biT (c := .lt) rfl (by rw [tw_clt, tw_nlt (by omega) (by omega)] <;> omega) ?_
  show tw_P L xs _ 21 12 [.ref 9, .int (nI i), .int (nI c), .int (nI q), tw_U] [] σ _
  refine tw_sgn 11 (i1 := 23) (ls0 := [.ref 9, .int (nI i), .int (nI c), .int (nI q), .int ((((nI i * nI 10) + nI c) * nI 4) + nI q)]) (st0 := [.int ((((nI i * nI 10) + nI c) * nI 4) + nI q)]) (σ0 := σ) (ls1 := [.ref 9, .int (nI i), .int (nI c), .int (nI q), .int (nI ((((i * 10) + c) * 4) + q))]) (st1 := [.int (nI ((((i * 10) + c) * 4) + q))]) (σ1 := σ) rfl (by simp only [tw_nadd, tw_nmul]) (by simp only [tw_nadd, tw_nmul]) (rfl) ?_
  refine tw_bzF (c := .lt) rfl (by rw [tw_clt', tw_nlt (by omega) (by omega)] <;> omega) ?_
  show tw_P L xs _ 21 24 [.ref 9, .int (nI i), .int (nI c), .int (nI q), .int (nI ((((i * 10) + c) * 4) + q))] [] σ _
  refine tw_sg 4 (i1 := 28) (ls1 := [.ref 9, .int (nI i), .int (nI c), .int (nI q), .int (nI ((((i * 10) + c) * 4) + q))]) (st1 := [.int (nI 2000), .int (nI ((((i * 10) + c) * 4) + q))]) (σ1 := σ) rfl ?_
  refine tw_biF (c := .ge) rfl (by rw [tw_cge', tw_nle (by omega) (by omega)] <;> omega) ?_
  show tw_P L xs _ 21 29 [.ref 9, .int (nI i), .int (nI c), .int (nI q), .int (nI ((((i * 10) + c) * 4) + q))] [] σ _
  refine tw_sg 3 (i1 := 32) (ls1 := [.ref 9, .int (nI i), .int (nI c), .int (nI q), .int (nI ((((i * 10) + c) * 4) + q))]) (st1 := [.int (nI ((((i * 10) + c) * 4) + q)), .ref 10]) (σ1 := σ) rfl ?_
  refine tw_al (k := 10) (j := ((((i * 10) + c) * 4) + q)) (len := 2000) rfl rfl rfl rfl (rfl) (by omega) (by decide) ?_
  refine tw_sg 1 (i1 := 35) (ls1 := [.ref 9, .int (nI i), .int (nI c), .int (nI q), .int (nI ((((i * 10) + c) * 4) + q))]) (st1 := [.int (σ 10 ((((i * 10) + c) * 4) + q))]) (σ1 := σ) rfl ?_
  refine tw_ri rfl (rfl) ?_
  exact ⟨rfl, rfl⟩
theorem tw_e_hasRow0 (hr9 : σ 9 3 = nI r) (hx : x < nI 0 ∨ (¬ x < nI 0 ∧ nI r ≤ x)) : tw_E L xs 0 20 [.ref 9, .int x] σ (fun v σ1 => v = some (.int (nI 0)) ∧ σ = σ1) := by
  rcases hx with hx | ⟨hx, hy⟩
  · exact tw_e_hasRow0a hx
  · exact tw_e_hasRow0b hr9 hx hy
set_option maxHeartbeats 4000000 in
set_option maxRecDepth 100000 in
theorem tw_e_cell0a (hr9 : σ 9 3 = nI r) (hx : x < nI 0 ∨ (¬ x < nI 0 ∧ nI r ≤ x)) : tw_E L xs 2 21 [.ref 9, .int x, .int y, .int w] σ (fun v σ1 => v = some (.int (-1)) ∧ σ = σ1) := by
  show tw_P L xs _ 21 0 [.ref 9, .int x, .int y, .int w, tw_U] [] σ _
  refine tw_sg 2 (i1 := 2) (ls1 := [.ref 9, .int x, .int y, .int w, tw_U]) (st1 := [.int x, .ref 9]) (σ1 := σ) rfl ?_
  refine tw_cl1 rfl (rfl) (by decide) (tw_e_hasRow0 hr9 hx) ?_
  rintro _ _ ⟨rfl, rfl⟩
  show tw_P L xs _ 21 3 [.ref 9, .int x, .int y, .int w, tw_U] [.int (nI 0)] σ _
  refine tw_bzT (c := .eq) rfl (by rw [tw_ceq, tw_neq (by omega) (by omega)] <;> omega) ?_
  show tw_P L xs _ 21 10 [.ref 9, .int x, .int y, .int w, tw_U] [] σ _
  refine tw_sg 1 (i1 := 11) (ls1 := [.ref 9, .int x, .int y, .int w, tw_U]) (st1 := [.int (-1)]) (σ1 := σ) rfl ?_
  refine tw_ri rfl (rfl) ?_
  exact ⟨rfl, rfl⟩
set_option maxHeartbeats 4000000 in
set_option maxRecDepth 100000 in
theorem tw_e_cell0b (hr9 : σ 9 3 = nI r) (hw9 : σ 9 4 = nI n) (h50 : r ≤ 50) (h10 : n ≤ 10) (hi : i < r) (hy : y < nI 0) : tw_E L xs 2 21 [.ref 9, .int (nI i), .int y, .int w] σ (fun v σ1 => v = some (.int (-1)) ∧ σ = σ1) := by
  show tw_P L xs _ 21 0 [.ref 9, .int (nI i), .int y, .int w, tw_U] [] σ _
  refine tw_sg 2 (i1 := 2) (ls1 := [.ref 9, .int (nI i), .int y, .int w, tw_U]) (st1 := [.int (nI i), .ref 9]) (σ1 := σ) rfl ?_
  refine tw_cl1 rfl (rfl) (by decide) (tw_e_hasRow1 hr9 h50 hi) ?_
  rintro _ _ ⟨rfl, rfl⟩
  show tw_P L xs _ 21 3 [.ref 9, .int (nI i), .int y, .int w, tw_U] [.int (nI 1)] σ _
  refine tw_bzF (c := .eq) rfl (by rw [tw_ceq', tw_neq (by omega) (by omega)] <;> omega) ?_
  show tw_P L xs _ 21 4 [.ref 9, .int (nI i), .int y, .int w, tw_U] [] σ _
  refine tw_sg 1 (i1 := 5) (ls1 := [.ref 9, .int (nI i), .int y, .int w, tw_U]) (st1 := [.int y]) (σ1 := σ) rfl ?_
  refine tw_bzT (c := .lt) rfl (by rw [tw_clt]; exact hy) ?_
  show tw_P L xs _ 21 10 [.ref 9, .int (nI i), .int y, .int w, tw_U] [] σ _
  refine tw_sg 1 (i1 := 11) (ls1 := [.ref 9, .int (nI i), .int y, .int w, tw_U]) (st1 := [.int (-1)]) (σ1 := σ) rfl ?_
  refine tw_ri rfl (rfl) ?_
  exact ⟨rfl, rfl⟩
set_option maxHeartbeats 4000000 in
set_option maxRecDepth 100000 in
theorem tw_e_cell0c (hr9 : σ 9 3 = nI r) (hw9 : σ 9 4 = nI n) (h50 : r ≤ 50) (h10 : n ≤ 10) (hi : i < r) (hy : ¬ y < nI 0) (hy2 : nI n ≤ y) : tw_E L xs 2 21 [.ref 9, .int (nI i), .int y, .int w] σ (fun v σ1 => v = some (.int (-1)) ∧ σ = σ1) := by
  show tw_P L xs _ 21 0 [.ref 9, .int (nI i), .int y, .int w, tw_U] [] σ _
  refine tw_sg 2 (i1 := 2) (ls1 := [.ref 9, .int (nI i), .int y, .int w, tw_U]) (st1 := [.int (nI i), .ref 9]) (σ1 := σ) rfl ?_
  refine tw_cl1 rfl (rfl) (by decide) (tw_e_hasRow1 hr9 h50 hi) ?_
  rintro _ _ ⟨rfl, rfl⟩
  show tw_P L xs _ 21 3 [.ref 9, .int (nI i), .int y, .int w, tw_U] [.int (nI 1)] σ _
  refine tw_bzF (c := .eq) rfl (by rw [tw_ceq', tw_neq (by omega) (by omega)] <;> omega) ?_
  show tw_P L xs _ 21 4 [.ref 9, .int (nI i), .int y, .int w, tw_U] [] σ _
  refine tw_sg 1 (i1 := 5) (ls1 := [.ref 9, .int (nI i), .int y, .int w, tw_U]) (st1 := [.int y]) (σ1 := σ) rfl ?_
  refine tw_bzF (c := .lt) rfl (by rw [tw_clt']; exact hy) ?_
  show tw_P L xs _ 21 6 [.ref 9, .int (nI i), .int y, .int w, tw_U] [] σ _
  refine tw_sgn 3 (i1 := 9) (ls0 := [.ref 9, .int (nI i), .int y, .int w, tw_U]) (st0 := [.int (σ 9 4), .int y]) (σ0 := σ) (ls1 := [.ref 9, .int (nI i), .int y, .int w, tw_U]) (st1 := [.int (nI n), .int y]) (σ1 := σ) rfl (rfl) (by simp only [hw9, tw_nadd, tw_nmul]) (rfl) ?_
  refine tw_biF (c := .lt) rfl (by rw [tw_clt']; exact tw_not_lt.mpr hy2) ?_
  show tw_P L xs _ 21 10 [.ref 9, .int (nI i), .int y, .int w, tw_U] [] σ _
  refine tw_sg 1 (i1 := 11) (ls1 := [.ref 9, .int (nI i), .int y, .int w, tw_U]) (st1 := [.int (-1)]) (σ1 := σ) rfl ?_
  refine tw_ri rfl (rfl) ?_
  exact ⟨rfl, rfl⟩
set_option maxHeartbeats 4000000 in
set_option maxRecDepth 100000 in
theorem tw_e_asked1_95 (hn89 : σ 89 0 = nI n) (hr90 : σ 90 0 = nI r) (h50 : r ≤ 50) (h10 : n ≤ 10) (hi : i < r) (hc : c < n) : tw_E L xs 2 214 [.ref 88, .ref 95, .int (nI i), .int (nI c)] σ (fun v σ1 => v = some (.int (σ 95 (10 * i + c))) ∧ σ = σ1) := by
  show tw_P L xs _ 214 0 [.ref 88, .ref 95, .int (nI i), .int (nI c)] [] σ _
  refine tw_sg 2 (i1 := 2) (ls1 := [.ref 88, .ref 95, .int (nI i), .int (nI c)]) (st1 := [.int (nI i), .ref 88]) (σ1 := σ) rfl ?_
  refine tw_cl1 rfl (rfl) (by decide) (tw_e_isRow1 hr90 h50 hi) ?_
  rintro _ _ ⟨rfl, rfl⟩
  show tw_P L xs _ 214 3 [.ref 88, .ref 95, .int (nI i), .int (nI c)] [.int (nI 1)] σ _
  refine tw_bzF (c := .eq) rfl (by rw [tw_ceq', tw_neq (by omega) (by omega)] <;> omega) ?_
  show tw_P L xs _ 214 4 [.ref 88, .ref 95, .int (nI i), .int (nI c)] [] σ _
  refine tw_sg 2 (i1 := 6) (ls1 := [.ref 88, .ref 95, .int (nI i), .int (nI c)]) (st1 := [.int (nI c), .ref 88]) (σ1 := σ) rfl ?_
  refine tw_cl1 rfl (rfl) (by decide) (tw_e_isCard1 hn89 h10 hc) ?_
  rintro _ _ ⟨rfl, rfl⟩
  show tw_P L xs _ 214 7 [.ref 88, .ref 95, .int (nI i), .int (nI c)] [.int (nI 1)] σ _
  refine tw_bzF (c := .eq) rfl (by rw [tw_ceq', tw_neq (by omega) (by omega)] <;> omega) ?_
  show tw_P L xs _ 214 8 [.ref 88, .ref 95, .int (nI i), .int (nI c)] [] σ _
  refine tw_sgn 6 (i1 := 14) (ls0 := [.ref 88, .ref 95, .int (nI i), .int (nI c)]) (st0 := [.int ((nI 10 * nI i) + nI c), .ref 95]) (σ0 := σ) (ls1 := [.ref 88, .ref 95, .int (nI i), .int (nI c)]) (st1 := [.int (nI ((10 * i) + c)), .ref 95]) (σ1 := σ) rfl (rfl) (by simp only [tw_nadd, tw_nmul]) (rfl) ?_
  refine tw_al (k := 95) (j := ((10 * i) + c)) (len := 1000) rfl rfl rfl rfl (rfl) (by omega) (by decide) ?_
  refine tw_sg 1 (i1 := 17) (ls1 := [.ref 88, .ref 95, .int (nI i), .int (nI c)]) (st1 := [.int (σ 95 ((10 * i) + c))]) (σ1 := σ) rfl ?_
  refine tw_ri rfl (rfl) ?_
  exact ⟨rfl, rfl⟩
set_option maxHeartbeats 4000000 in
set_option maxRecDepth 100000 in
theorem tw_e_asked0a_95 (hr90 : σ 90 0 = nI r) (h50 : r ≤ 50) (hx : x < nI 0 ∨ (¬ x < nI 0 ∧ nI r ≤ x)) : tw_E L xs 2 214 [.ref 88, .ref 95, .int x, .int y] σ (fun v σ1 => v = some (.int (-1)) ∧ σ = σ1) := by
  show tw_P L xs _ 214 0 [.ref 88, .ref 95, .int x, .int y] [] σ _
  refine tw_sg 2 (i1 := 2) (ls1 := [.ref 88, .ref 95, .int x, .int y]) (st1 := [.int x, .ref 88]) (σ1 := σ) rfl ?_
  refine tw_cl1 rfl (rfl) (by decide) (tw_e_isRow0 hr90 h50 hx) ?_
  rintro _ _ ⟨rfl, rfl⟩
  show tw_P L xs _ 214 3 [.ref 88, .ref 95, .int x, .int y] [.int (nI 0)] σ _
  refine tw_bzT (c := .eq) rfl (by rw [tw_ceq, tw_neq (by omega) (by omega)] <;> omega) ?_
  show tw_P L xs _ 214 16 [.ref 88, .ref 95, .int x, .int y] [] σ _
  refine tw_sg 1 (i1 := 17) (ls1 := [.ref 88, .ref 95, .int x, .int y]) (st1 := [.int (-1)]) (σ1 := σ) rfl ?_
  refine tw_ri rfl (rfl) ?_
  exact ⟨rfl, rfl⟩
set_option maxHeartbeats 4000000 in
set_option maxRecDepth 100000 in
theorem tw_e_asked0b_95 (hn89 : σ 89 0 = nI n) (hr90 : σ 90 0 = nI r) (h50 : r ≤ 50) (h10 : n ≤ 10) (hi : i < r) (hy : y < nI 0 ∨ (¬ y < nI 0 ∧ nI n ≤ y)) : tw_E L xs 2 214 [.ref 88, .ref 95, .int (nI i), .int y] σ (fun v σ1 => v = some (.int (-1)) ∧ σ = σ1) := by
  show tw_P L xs _ 214 0 [.ref 88, .ref 95, .int (nI i), .int y] [] σ _
  refine tw_sg 2 (i1 := 2) (ls1 := [.ref 88, .ref 95, .int (nI i), .int y]) (st1 := [.int (nI i), .ref 88]) (σ1 := σ) rfl ?_
  refine tw_cl1 rfl (rfl) (by decide) (tw_e_isRow1 hr90 h50 hi) ?_
  rintro _ _ ⟨rfl, rfl⟩
  show tw_P L xs _ 214 3 [.ref 88, .ref 95, .int (nI i), .int y] [.int (nI 1)] σ _
  refine tw_bzF (c := .eq) rfl (by rw [tw_ceq', tw_neq (by omega) (by omega)] <;> omega) ?_
  show tw_P L xs _ 214 4 [.ref 88, .ref 95, .int (nI i), .int y] [] σ _
  refine tw_sg 2 (i1 := 6) (ls1 := [.ref 88, .ref 95, .int (nI i), .int y]) (st1 := [.int y, .ref 88]) (σ1 := σ) rfl ?_
  refine tw_cl1 rfl (rfl) (by decide) (tw_e_isCard0 hn89 h10 hy) ?_
  rintro _ _ ⟨rfl, rfl⟩
  show tw_P L xs _ 214 7 [.ref 88, .ref 95, .int (nI i), .int y] [.int (nI 0)] σ _
  refine tw_bzT (c := .eq) rfl (by rw [tw_ceq, tw_neq (by omega) (by omega)] <;> omega) ?_
  show tw_P L xs _ 214 16 [.ref 88, .ref 95, .int (nI i), .int y] [] σ _
  refine tw_sg 1 (i1 := 17) (ls1 := [.ref 88, .ref 95, .int (nI i), .int y]) (st1 := [.int (-1)]) (σ1 := σ) rfl ?_
  refine tw_ri rfl (rfl) ?_
  exact ⟨rfl, rfl⟩
set_option maxHeartbeats 4000000 in
set_option maxRecDepth 100000 in
theorem tw_e_asked1_96 (hn89 : σ 89 0 = nI n) (hr90 : σ 90 0 = nI r) (h50 : r ≤ 50) (h10 : n ≤ 10) (hi : i < r) (hc : c < n) : tw_E L xs 2 214 [.ref 88, .ref 96, .int (nI i), .int (nI c)] σ (fun v σ1 => v = some (.int (σ 96 (10 * i + c))) ∧ σ = σ1) := by
  show tw_P L xs _ 214 0 [.ref 88, .ref 96, .int (nI i), .int (nI c)] [] σ _
  refine tw_sg 2 (i1 := 2) (ls1 := [.ref 88, .ref 96, .int (nI i), .int (nI c)]) (st1 := [.int (nI i), .ref 88]) (σ1 := σ) rfl ?_
  refine tw_cl1 rfl (rfl) (by decide) (tw_e_isRow1 hr90 h50 hi) ?_
  rintro _ _ ⟨rfl, rfl⟩
  show tw_P L xs _ 214 3 [.ref 88, .ref 96, .int (nI i), .int (nI c)] [.int (nI 1)] σ _
  refine tw_bzF (c := .eq) rfl (by rw [tw_ceq', tw_neq (by omega) (by omega)] <;> omega) ?_
  show tw_P L xs _ 214 4 [.ref 88, .ref 96, .int (nI i), .int (nI c)] [] σ _
  refine tw_sg 2 (i1 := 6) (ls1 := [.ref 88, .ref 96, .int (nI i), .int (nI c)]) (st1 := [.int (nI c), .ref 88]) (σ1 := σ) rfl ?_
  refine tw_cl1 rfl (rfl) (by decide) (tw_e_isCard1 hn89 h10 hc) ?_
  rintro _ _ ⟨rfl, rfl⟩
  show tw_P L xs _ 214 7 [.ref 88, .ref 96, .int (nI i), .int (nI c)] [.int (nI 1)] σ _
  refine tw_bzF (c := .eq) rfl (by rw [tw_ceq', tw_neq (by omega) (by omega)] <;> omega) ?_
  show tw_P L xs _ 214 8 [.ref 88, .ref 96, .int (nI i), .int (nI c)] [] σ _
  refine tw_sgn 6 (i1 := 14) (ls0 := [.ref 88, .ref 96, .int (nI i), .int (nI c)]) (st0 := [.int ((nI 10 * nI i) + nI c), .ref 96]) (σ0 := σ) (ls1 := [.ref 88, .ref 96, .int (nI i), .int (nI c)]) (st1 := [.int (nI ((10 * i) + c)), .ref 96]) (σ1 := σ) rfl (rfl) (by simp only [tw_nadd, tw_nmul]) (rfl) ?_
  refine tw_al (k := 96) (j := ((10 * i) + c)) (len := 1000) rfl rfl rfl rfl (rfl) (by omega) (by decide) ?_
  refine tw_sg 1 (i1 := 17) (ls1 := [.ref 88, .ref 96, .int (nI i), .int (nI c)]) (st1 := [.int (σ 96 ((10 * i) + c))]) (σ1 := σ) rfl ?_
  refine tw_ri rfl (rfl) ?_
  exact ⟨rfl, rfl⟩
set_option maxHeartbeats 4000000 in
set_option maxRecDepth 100000 in
theorem tw_e_asked0a_96 (hr90 : σ 90 0 = nI r) (h50 : r ≤ 50) (hx : x < nI 0 ∨ (¬ x < nI 0 ∧ nI r ≤ x)) : tw_E L xs 2 214 [.ref 88, .ref 96, .int x, .int y] σ (fun v σ1 => v = some (.int (-1)) ∧ σ = σ1) := by
  show tw_P L xs _ 214 0 [.ref 88, .ref 96, .int x, .int y] [] σ _
  refine tw_sg 2 (i1 := 2) (ls1 := [.ref 88, .ref 96, .int x, .int y]) (st1 := [.int x, .ref 88]) (σ1 := σ) rfl ?_
  refine tw_cl1 rfl (rfl) (by decide) (tw_e_isRow0 hr90 h50 hx) ?_
  rintro _ _ ⟨rfl, rfl⟩
  show tw_P L xs _ 214 3 [.ref 88, .ref 96, .int x, .int y] [.int (nI 0)] σ _
  refine tw_bzT (c := .eq) rfl (by rw [tw_ceq, tw_neq (by omega) (by omega)] <;> omega) ?_
  show tw_P L xs _ 214 16 [.ref 88, .ref 96, .int x, .int y] [] σ _
  refine tw_sg 1 (i1 := 17) (ls1 := [.ref 88, .ref 96, .int x, .int y]) (st1 := [.int (-1)]) (σ1 := σ) rfl ?_
  refine tw_ri rfl (rfl) ?_
  exact ⟨rfl, rfl⟩
set_option maxHeartbeats 4000000 in
set_option maxRecDepth 100000 in
theorem tw_e_asked0b_96 (hn89 : σ 89 0 = nI n) (hr90 : σ 90 0 = nI r) (h50 : r ≤ 50) (h10 : n ≤ 10) (hi : i < r) (hy : y < nI 0 ∨ (¬ y < nI 0 ∧ nI n ≤ y)) : tw_E L xs 2 214 [.ref 88, .ref 96, .int (nI i), .int y] σ (fun v σ1 => v = some (.int (-1)) ∧ σ = σ1) := by
  show tw_P L xs _ 214 0 [.ref 88, .ref 96, .int (nI i), .int y] [] σ _
  refine tw_sg 2 (i1 := 2) (ls1 := [.ref 88, .ref 96, .int (nI i), .int y]) (st1 := [.int (nI i), .ref 88]) (σ1 := σ) rfl ?_
  refine tw_cl1 rfl (rfl) (by decide) (tw_e_isRow1 hr90 h50 hi) ?_
  rintro _ _ ⟨rfl, rfl⟩
  show tw_P L xs _ 214 3 [.ref 88, .ref 96, .int (nI i), .int y] [.int (nI 1)] σ _
  refine tw_bzF (c := .eq) rfl (by rw [tw_ceq', tw_neq (by omega) (by omega)] <;> omega) ?_
  show tw_P L xs _ 214 4 [.ref 88, .ref 96, .int (nI i), .int y] [] σ _
  refine tw_sg 2 (i1 := 6) (ls1 := [.ref 88, .ref 96, .int (nI i), .int y]) (st1 := [.int y, .ref 88]) (σ1 := σ) rfl ?_
  refine tw_cl1 rfl (rfl) (by decide) (tw_e_isCard0 hn89 h10 hy) ?_
  rintro _ _ ⟨rfl, rfl⟩
  show tw_P L xs _ 214 7 [.ref 88, .ref 96, .int (nI i), .int y] [.int (nI 0)] σ _
  refine tw_bzT (c := .eq) rfl (by rw [tw_ceq, tw_neq (by omega) (by omega)] <;> omega) ?_
  show tw_P L xs _ 214 16 [.ref 88, .ref 96, .int (nI i), .int y] [] σ _
  refine tw_sg 1 (i1 := 17) (ls1 := [.ref 88, .ref 96, .int (nI i), .int y]) (st1 := [.int (-1)]) (σ1 := σ) rfl ?_
  refine tw_ri rfl (rfl) ?_
  exact ⟨rfl, rfl⟩
set_option maxHeartbeats 4000000 in
set_option maxRecDepth 100000 in
theorem tw_e_asked1_97 (hn89 : σ 89 0 = nI n) (hr90 : σ 90 0 = nI r) (h50 : r ≤ 50) (h10 : n ≤ 10) (hi : i < r) (hc : c < n) : tw_E L xs 2 214 [.ref 88, .ref 97, .int (nI i), .int (nI c)] σ (fun v σ1 => v = some (.int (σ 97 (10 * i + c))) ∧ σ = σ1) := by
  show tw_P L xs _ 214 0 [.ref 88, .ref 97, .int (nI i), .int (nI c)] [] σ _
  refine tw_sg 2 (i1 := 2) (ls1 := [.ref 88, .ref 97, .int (nI i), .int (nI c)]) (st1 := [.int (nI i), .ref 88]) (σ1 := σ) rfl ?_
  refine tw_cl1 rfl (rfl) (by decide) (tw_e_isRow1 hr90 h50 hi) ?_
  rintro _ _ ⟨rfl, rfl⟩
  show tw_P L xs _ 214 3 [.ref 88, .ref 97, .int (nI i), .int (nI c)] [.int (nI 1)] σ _
  refine tw_bzF (c := .eq) rfl (by rw [tw_ceq', tw_neq (by omega) (by omega)] <;> omega) ?_
  show tw_P L xs _ 214 4 [.ref 88, .ref 97, .int (nI i), .int (nI c)] [] σ _
  refine tw_sg 2 (i1 := 6) (ls1 := [.ref 88, .ref 97, .int (nI i), .int (nI c)]) (st1 := [.int (nI c), .ref 88]) (σ1 := σ) rfl ?_
  refine tw_cl1 rfl (rfl) (by decide) (tw_e_isCard1 hn89 h10 hc) ?_
  rintro _ _ ⟨rfl, rfl⟩
  show tw_P L xs _ 214 7 [.ref 88, .ref 97, .int (nI i), .int (nI c)] [.int (nI 1)] σ _
  refine tw_bzF (c := .eq) rfl (by rw [tw_ceq', tw_neq (by omega) (by omega)] <;> omega) ?_
  show tw_P L xs _ 214 8 [.ref 88, .ref 97, .int (nI i), .int (nI c)] [] σ _
  refine tw_sgn 6 (i1 := 14) (ls0 := [.ref 88, .ref 97, .int (nI i), .int (nI c)]) (st0 := [.int ((nI 10 * nI i) + nI c), .ref 97]) (σ0 := σ) (ls1 := [.ref 88, .ref 97, .int (nI i), .int (nI c)]) (st1 := [.int (nI ((10 * i) + c)), .ref 97]) (σ1 := σ) rfl (rfl) (by simp only [tw_nadd, tw_nmul]) (rfl) ?_
  refine tw_al (k := 97) (j := ((10 * i) + c)) (len := 1000) rfl rfl rfl rfl (rfl) (by omega) (by decide) ?_
  refine tw_sg 1 (i1 := 17) (ls1 := [.ref 88, .ref 97, .int (nI i), .int (nI c)]) (st1 := [.int (σ 97 ((10 * i) + c))]) (σ1 := σ) rfl ?_
  refine tw_ri rfl (rfl) ?_
  exact ⟨rfl, rfl⟩
set_option maxHeartbeats 4000000 in
set_option maxRecDepth 100000 in
theorem tw_e_asked0a_97 (hr90 : σ 90 0 = nI r) (h50 : r ≤ 50) (hx : x < nI 0 ∨ (¬ x < nI 0 ∧ nI r ≤ x)) : tw_E L xs 2 214 [.ref 88, .ref 97, .int x, .int y] σ (fun v σ1 => v = some (.int (-1)) ∧ σ = σ1) := by
  show tw_P L xs _ 214 0 [.ref 88, .ref 97, .int x, .int y] [] σ _
  refine tw_sg 2 (i1 := 2) (ls1 := [.ref 88, .ref 97, .int x, .int y]) (st1 := [.int x, .ref 88]) (σ1 := σ) rfl ?_
  refine tw_cl1 rfl (rfl) (by decide) (tw_e_isRow0 hr90 h50 hx) ?_
  rintro _ _ ⟨rfl, rfl⟩
  show tw_P L xs _ 214 3 [.ref 88, .ref 97, .int x, .int y] [.int (nI 0)] σ _
  refine tw_bzT (c := .eq) rfl (by rw [tw_ceq, tw_neq (by omega) (by omega)] <;> omega) ?_
  show tw_P L xs _ 214 16 [.ref 88, .ref 97, .int x, .int y] [] σ _
  refine tw_sg 1 (i1 := 17) (ls1 := [.ref 88, .ref 97, .int x, .int y]) (st1 := [.int (-1)]) (σ1 := σ) rfl ?_
  refine tw_ri rfl (rfl) ?_
  exact ⟨rfl, rfl⟩
set_option maxHeartbeats 4000000 in
set_option maxRecDepth 100000 in
theorem tw_e_asked0b_97 (hn89 : σ 89 0 = nI n) (hr90 : σ 90 0 = nI r) (h50 : r ≤ 50) (h10 : n ≤ 10) (hi : i < r) (hy : y < nI 0 ∨ (¬ y < nI 0 ∧ nI n ≤ y)) : tw_E L xs 2 214 [.ref 88, .ref 97, .int (nI i), .int y] σ (fun v σ1 => v = some (.int (-1)) ∧ σ = σ1) := by
  show tw_P L xs _ 214 0 [.ref 88, .ref 97, .int (nI i), .int y] [] σ _
  refine tw_sg 2 (i1 := 2) (ls1 := [.ref 88, .ref 97, .int (nI i), .int y]) (st1 := [.int (nI i), .ref 88]) (σ1 := σ) rfl ?_
  refine tw_cl1 rfl (rfl) (by decide) (tw_e_isRow1 hr90 h50 hi) ?_
  rintro _ _ ⟨rfl, rfl⟩
  show tw_P L xs _ 214 3 [.ref 88, .ref 97, .int (nI i), .int y] [.int (nI 1)] σ _
  refine tw_bzF (c := .eq) rfl (by rw [tw_ceq', tw_neq (by omega) (by omega)] <;> omega) ?_
  show tw_P L xs _ 214 4 [.ref 88, .ref 97, .int (nI i), .int y] [] σ _
  refine tw_sg 2 (i1 := 6) (ls1 := [.ref 88, .ref 97, .int (nI i), .int y]) (st1 := [.int y, .ref 88]) (σ1 := σ) rfl ?_
  refine tw_cl1 rfl (rfl) (by decide) (tw_e_isCard0 hn89 h10 hy) ?_
  rintro _ _ ⟨rfl, rfl⟩
  show tw_P L xs _ 214 7 [.ref 88, .ref 97, .int (nI i), .int y] [.int (nI 0)] σ _
  refine tw_bzT (c := .eq) rfl (by rw [tw_ceq, tw_neq (by omega) (by omega)] <;> omega) ?_
  show tw_P L xs _ 214 16 [.ref 88, .ref 97, .int (nI i), .int y] [] σ _
  refine tw_sg 1 (i1 := 17) (ls1 := [.ref 88, .ref 97, .int (nI i), .int y]) (st1 := [.int (-1)]) (σ1 := σ) rfl ?_
  refine tw_ri rfl (rfl) ?_
  exact ⟨rfl, rfl⟩
set_option maxHeartbeats 4000000 in
set_option maxRecDepth 100000 in
theorem tw_e_asked1_98 (hn89 : σ 89 0 = nI n) (hr90 : σ 90 0 = nI r) (h50 : r ≤ 50) (h10 : n ≤ 10) (hi : i < r) (hc : c < n) : tw_E L xs 2 214 [.ref 88, .ref 98, .int (nI i), .int (nI c)] σ (fun v σ1 => v = some (.int (σ 98 (10 * i + c))) ∧ σ = σ1) := by
  show tw_P L xs _ 214 0 [.ref 88, .ref 98, .int (nI i), .int (nI c)] [] σ _
  refine tw_sg 2 (i1 := 2) (ls1 := [.ref 88, .ref 98, .int (nI i), .int (nI c)]) (st1 := [.int (nI i), .ref 88]) (σ1 := σ) rfl ?_
  refine tw_cl1 rfl (rfl) (by decide) (tw_e_isRow1 hr90 h50 hi) ?_
  rintro _ _ ⟨rfl, rfl⟩
  show tw_P L xs _ 214 3 [.ref 88, .ref 98, .int (nI i), .int (nI c)] [.int (nI 1)] σ _
  refine tw_bzF (c := .eq) rfl (by rw [tw_ceq', tw_neq (by omega) (by omega)] <;> omega) ?_
  show tw_P L xs _ 214 4 [.ref 88, .ref 98, .int (nI i), .int (nI c)] [] σ _
  refine tw_sg 2 (i1 := 6) (ls1 := [.ref 88, .ref 98, .int (nI i), .int (nI c)]) (st1 := [.int (nI c), .ref 88]) (σ1 := σ) rfl ?_
  refine tw_cl1 rfl (rfl) (by decide) (tw_e_isCard1 hn89 h10 hc) ?_
  rintro _ _ ⟨rfl, rfl⟩
  show tw_P L xs _ 214 7 [.ref 88, .ref 98, .int (nI i), .int (nI c)] [.int (nI 1)] σ _
  refine tw_bzF (c := .eq) rfl (by rw [tw_ceq', tw_neq (by omega) (by omega)] <;> omega) ?_
  show tw_P L xs _ 214 8 [.ref 88, .ref 98, .int (nI i), .int (nI c)] [] σ _
  refine tw_sgn 6 (i1 := 14) (ls0 := [.ref 88, .ref 98, .int (nI i), .int (nI c)]) (st0 := [.int ((nI 10 * nI i) + nI c), .ref 98]) (σ0 := σ) (ls1 := [.ref 88, .ref 98, .int (nI i), .int (nI c)]) (st1 := [.int (nI ((10 * i) + c)), .ref 98]) (σ1 := σ) rfl (rfl) (by simp only [tw_nadd, tw_nmul]) (rfl) ?_
  refine tw_al (k := 98) (j := ((10 * i) + c)) (len := 1000) rfl rfl rfl rfl (rfl) (by omega) (by decide) ?_
  refine tw_sg 1 (i1 := 17) (ls1 := [.ref 88, .ref 98, .int (nI i), .int (nI c)]) (st1 := [.int (σ 98 ((10 * i) + c))]) (σ1 := σ) rfl ?_
  refine tw_ri rfl (rfl) ?_
  exact ⟨rfl, rfl⟩
set_option maxHeartbeats 4000000 in
set_option maxRecDepth 100000 in
theorem tw_e_asked0a_98 (hr90 : σ 90 0 = nI r) (h50 : r ≤ 50) (hx : x < nI 0 ∨ (¬ x < nI 0 ∧ nI r ≤ x)) : tw_E L xs 2 214 [.ref 88, .ref 98, .int x, .int y] σ (fun v σ1 => v = some (.int (-1)) ∧ σ = σ1) := by
  show tw_P L xs _ 214 0 [.ref 88, .ref 98, .int x, .int y] [] σ _
  refine tw_sg 2 (i1 := 2) (ls1 := [.ref 88, .ref 98, .int x, .int y]) (st1 := [.int x, .ref 88]) (σ1 := σ) rfl ?_
  refine tw_cl1 rfl (rfl) (by decide) (tw_e_isRow0 hr90 h50 hx) ?_
  rintro _ _ ⟨rfl, rfl⟩
  show tw_P L xs _ 214 3 [.ref 88, .ref 98, .int x, .int y] [.int (nI 0)] σ _
  refine tw_bzT (c := .eq) rfl (by rw [tw_ceq, tw_neq (by omega) (by omega)] <;> omega) ?_
  show tw_P L xs _ 214 16 [.ref 88, .ref 98, .int x, .int y] [] σ _
  refine tw_sg 1 (i1 := 17) (ls1 := [.ref 88, .ref 98, .int x, .int y]) (st1 := [.int (-1)]) (σ1 := σ) rfl ?_
  refine tw_ri rfl (rfl) ?_
  exact ⟨rfl, rfl⟩
set_option maxHeartbeats 4000000 in
set_option maxRecDepth 100000 in
theorem tw_e_asked0b_98 (hn89 : σ 89 0 = nI n) (hr90 : σ 90 0 = nI r) (h50 : r ≤ 50) (h10 : n ≤ 10) (hi : i < r) (hy : y < nI 0 ∨ (¬ y < nI 0 ∧ nI n ≤ y)) : tw_E L xs 2 214 [.ref 88, .ref 98, .int (nI i), .int y] σ (fun v σ1 => v = some (.int (-1)) ∧ σ = σ1) := by
  show tw_P L xs _ 214 0 [.ref 88, .ref 98, .int (nI i), .int y] [] σ _
  refine tw_sg 2 (i1 := 2) (ls1 := [.ref 88, .ref 98, .int (nI i), .int y]) (st1 := [.int (nI i), .ref 88]) (σ1 := σ) rfl ?_
  refine tw_cl1 rfl (rfl) (by decide) (tw_e_isRow1 hr90 h50 hi) ?_
  rintro _ _ ⟨rfl, rfl⟩
  show tw_P L xs _ 214 3 [.ref 88, .ref 98, .int (nI i), .int y] [.int (nI 1)] σ _
  refine tw_bzF (c := .eq) rfl (by rw [tw_ceq', tw_neq (by omega) (by omega)] <;> omega) ?_
  show tw_P L xs _ 214 4 [.ref 88, .ref 98, .int (nI i), .int y] [] σ _
  refine tw_sg 2 (i1 := 6) (ls1 := [.ref 88, .ref 98, .int (nI i), .int y]) (st1 := [.int y, .ref 88]) (σ1 := σ) rfl ?_
  refine tw_cl1 rfl (rfl) (by decide) (tw_e_isCard0 hn89 h10 hy) ?_
  rintro _ _ ⟨rfl, rfl⟩
  show tw_P L xs _ 214 7 [.ref 88, .ref 98, .int (nI i), .int y] [.int (nI 0)] σ _
  refine tw_bzT (c := .eq) rfl (by rw [tw_ceq, tw_neq (by omega) (by omega)] <;> omega) ?_
  show tw_P L xs _ 214 16 [.ref 88, .ref 98, .int (nI i), .int y] [] σ _
  refine tw_sg 1 (i1 := 17) (ls1 := [.ref 88, .ref 98, .int (nI i), .int y]) (st1 := [.int (-1)]) (σ1 := σ) rfl ?_
  refine tw_ri rfl (rfl) ?_
  exact ⟨rfl, rfl⟩
set_option maxHeartbeats 4000000 in
set_option maxRecDepth 100000 in
theorem tw_o_front {L : Nat} {xs : Nat → Int32} (x : Int32) (y : Int32) : tw_op L xs 145 215 [.int x, .int y] := by
  intro σ hI
  obtain ⟨⟨n, r, hL⟩, hT, hPp, hPc, hLs, hIm, hC14, hC46, hC72⟩ := id hI
  obtain ⟨⟨hn10, hr50⟩, ⟨hn6, hn89⟩, ⟨hr9, hw9, hr90⟩, hCa, hRo, hLa⟩ := hL
  have hn6 : σ 6 4 = nI n := hn6
  have hn89 : σ 89 0 = nI n := hn89
  have hr9 : σ 9 3 = nI r := hr9
  have hw9 : σ 9 4 = nI n := hw9
  have hr90 : σ 90 0 = nI r := hr90
  rcases tw_within x r (by omega) with ⟨i, hi, rfl⟩ | hx
  · rcases tw_within y n (by omega) with ⟨c, hc, rfl⟩ | hy
    · have e := (hRo i hi c hc).1
      show tw_P L xs _ 145 0 [.ref 1, .int (nI i), .int (nI c)] [] σ _
      refine tw_sg 2 (i1 := 2) (ls1 := [.ref 1, .int (nI i), .int (nI c)]) (st1 := [.ref 6]) (σ1 := σ) rfl ?_
      refine tw_cl0 59 rfl (rfl) (by decide) ?_
      show tw_P L xs _ 83 0 [.ref 6] [] σ _
      refine tw_sg 2 (i1 := 2) (ls1 := [.ref 6]) (st1 := [.ref 9]) (σ1 := σ) rfl ?_
      refine tw_ra rfl ?_
      show tw_P L xs _ 145 3 [.ref 1, .int (nI i), .int (nI c)] [.ref 9] σ _
      refine tw_sg 3 (i1 := 6) (ls1 := [.ref 1, .int (nI i), .int (nI c)]) (st1 := [.int (nI 0), .int (nI c), .int (nI i), .ref 9]) (σ1 := σ) rfl ?_
      refine tw_cl1 rfl (rfl) (by decide) (tw_e_cell1 hr9 hw9 hr50 hn10 hi hc (by decide)) ?_
      rintro _ _ ⟨rfl, rfl⟩
      show tw_P L xs _ 145 7 [.ref 1, .int (nI i), .int (nI c)] [.int (σ 10 ((i * 10 + c) * 4 + 0))] σ _
      refine tw_ri rfl (rfl) ?_
      refine ⟨_, rfl, ?_⟩
      show tw_P L xs _ 215 0 [.ref 88, .int (nI i), .int (nI c)] [] σ _
      refine tw_sg 5 (i1 := 5) (ls1 := [.ref 88, .int (nI i), .int (nI c)]) (st1 := [.int (nI c), .int (nI i), .ref 95, .ref 88]) (σ1 := σ) rfl ?_
      refine tw_cl1 rfl (rfl) (by decide) (tw_e_asked1_95 hn89 hr90 hr50 hn10 hi hc) ?_
      rintro _ _ ⟨rfl, rfl⟩
      show tw_P L xs _ 215 6 [.ref 88, .int (nI i), .int (nI c)] [.int (σ 95 (10 * i + c))] σ _
      refine tw_ri rfl (rfl) ?_
      exact ⟨by rw [show σ 10 ((i * 10 + c) * 4 + 0) = σ 95 (10 * i + c) from e], hI⟩
    · have e : tw_E L xs 2 21 [.ref 9, .int (nI i), .int y, .int (nI 0)] σ (fun v σ1 => v = some (.int (-1)) ∧ σ = σ1) := hy.elim (fun h => tw_e_cell0b hr9 hw9 hr50 hn10 hi h) (fun h => tw_e_cell0c hr9 hw9 hr50 hn10 hi h.1 h.2)
      show tw_P L xs _ 145 0 [.ref 1, .int (nI i), .int y] [] σ _
      refine tw_sg 2 (i1 := 2) (ls1 := [.ref 1, .int (nI i), .int y]) (st1 := [.ref 6]) (σ1 := σ) rfl ?_
      refine tw_cl0 59 rfl (rfl) (by decide) ?_
      show tw_P L xs _ 83 0 [.ref 6] [] σ _
      refine tw_sg 2 (i1 := 2) (ls1 := [.ref 6]) (st1 := [.ref 9]) (σ1 := σ) rfl ?_
      refine tw_ra rfl ?_
      show tw_P L xs _ 145 3 [.ref 1, .int (nI i), .int y] [.ref 9] σ _
      refine tw_sg 3 (i1 := 6) (ls1 := [.ref 1, .int (nI i), .int y]) (st1 := [.int (nI 0), .int y, .int (nI i), .ref 9]) (σ1 := σ) rfl ?_
      refine tw_cl1 rfl (rfl) (by decide) (e) ?_
      rintro _ _ ⟨rfl, rfl⟩
      show tw_P L xs _ 145 7 [.ref 1, .int (nI i), .int y] [.int (-1)] σ _
      refine tw_ri rfl (rfl) ?_
      refine ⟨_, rfl, ?_⟩
      show tw_P L xs _ 215 0 [.ref 88, .int (nI i), .int y] [] σ _
      refine tw_sg 5 (i1 := 5) (ls1 := [.ref 88, .int (nI i), .int y]) (st1 := [.int y, .int (nI i), .ref 95, .ref 88]) (σ1 := σ) rfl ?_
      refine tw_cl1 rfl (rfl) (by decide) (tw_e_asked0b_95 hn89 hr90 hr50 hn10 hi hy) ?_
      rintro _ _ ⟨rfl, rfl⟩
      show tw_P L xs _ 215 6 [.ref 88, .int (nI i), .int y] [.int (-1)] σ _
      refine tw_ri rfl (rfl) ?_
      exact ⟨rfl, hI⟩
  · skip
    show tw_P L xs _ 145 0 [.ref 1, .int x, .int y] [] σ _
    refine tw_sg 2 (i1 := 2) (ls1 := [.ref 1, .int x, .int y]) (st1 := [.ref 6]) (σ1 := σ) rfl ?_
    refine tw_cl0 59 rfl (rfl) (by decide) ?_
    show tw_P L xs _ 83 0 [.ref 6] [] σ _
    refine tw_sg 2 (i1 := 2) (ls1 := [.ref 6]) (st1 := [.ref 9]) (σ1 := σ) rfl ?_
    refine tw_ra rfl ?_
    show tw_P L xs _ 145 3 [.ref 1, .int x, .int y] [.ref 9] σ _
    refine tw_sg 3 (i1 := 6) (ls1 := [.ref 1, .int x, .int y]) (st1 := [.int (nI 0), .int y, .int x, .ref 9]) (σ1 := σ) rfl ?_
    refine tw_cl1 rfl (rfl) (by decide) (tw_e_cell0a hr9 hx) ?_
    rintro _ _ ⟨rfl, rfl⟩
    show tw_P L xs _ 145 7 [.ref 1, .int x, .int y] [.int (-1)] σ _
    refine tw_ri rfl (rfl) ?_
    refine ⟨_, rfl, ?_⟩
    show tw_P L xs _ 215 0 [.ref 88, .int x, .int y] [] σ _
    refine tw_sg 5 (i1 := 5) (ls1 := [.ref 88, .int x, .int y]) (st1 := [.int y, .int x, .ref 95, .ref 88]) (σ1 := σ) rfl ?_
    refine tw_cl1 rfl (rfl) (by decide) (tw_e_asked0a_95 hr90 hr50 hx) ?_
    rintro _ _ ⟨rfl, rfl⟩
    show tw_P L xs _ 215 6 [.ref 88, .int x, .int y] [.int (-1)] σ _
    refine tw_ri rfl (rfl) ?_
    exact ⟨rfl, hI⟩
set_option maxHeartbeats 4000000 in
set_option maxRecDepth 100000 in
theorem tw_o_back {L : Nat} {xs : Nat → Int32} (x : Int32) (y : Int32) : tw_op L xs 146 216 [.int x, .int y] := by
  intro σ hI
  obtain ⟨⟨n, r, hL⟩, hT, hPp, hPc, hLs, hIm, hC14, hC46, hC72⟩ := id hI
  obtain ⟨⟨hn10, hr50⟩, ⟨hn6, hn89⟩, ⟨hr9, hw9, hr90⟩, hCa, hRo, hLa⟩ := hL
  have hn6 : σ 6 4 = nI n := hn6
  have hn89 : σ 89 0 = nI n := hn89
  have hr9 : σ 9 3 = nI r := hr9
  have hw9 : σ 9 4 = nI n := hw9
  have hr90 : σ 90 0 = nI r := hr90
  rcases tw_within x r (by omega) with ⟨i, hi, rfl⟩ | hx
  · rcases tw_within y n (by omega) with ⟨c, hc, rfl⟩ | hy
    · have e := (hRo i hi c hc).2.1
      show tw_P L xs _ 146 0 [.ref 1, .int (nI i), .int (nI c)] [] σ _
      refine tw_sg 2 (i1 := 2) (ls1 := [.ref 1, .int (nI i), .int (nI c)]) (st1 := [.ref 6]) (σ1 := σ) rfl ?_
      refine tw_cl0 59 rfl (rfl) (by decide) ?_
      show tw_P L xs _ 83 0 [.ref 6] [] σ _
      refine tw_sg 2 (i1 := 2) (ls1 := [.ref 6]) (st1 := [.ref 9]) (σ1 := σ) rfl ?_
      refine tw_ra rfl ?_
      show tw_P L xs _ 146 3 [.ref 1, .int (nI i), .int (nI c)] [.ref 9] σ _
      refine tw_sg 3 (i1 := 6) (ls1 := [.ref 1, .int (nI i), .int (nI c)]) (st1 := [.int (nI 1), .int (nI c), .int (nI i), .ref 9]) (σ1 := σ) rfl ?_
      refine tw_cl1 rfl (rfl) (by decide) (tw_e_cell1 hr9 hw9 hr50 hn10 hi hc (by decide)) ?_
      rintro _ _ ⟨rfl, rfl⟩
      show tw_P L xs _ 146 7 [.ref 1, .int (nI i), .int (nI c)] [.int (σ 10 ((i * 10 + c) * 4 + 1))] σ _
      refine tw_ri rfl (rfl) ?_
      refine ⟨_, rfl, ?_⟩
      show tw_P L xs _ 216 0 [.ref 88, .int (nI i), .int (nI c)] [] σ _
      refine tw_sg 5 (i1 := 5) (ls1 := [.ref 88, .int (nI i), .int (nI c)]) (st1 := [.int (nI c), .int (nI i), .ref 96, .ref 88]) (σ1 := σ) rfl ?_
      refine tw_cl1 rfl (rfl) (by decide) (tw_e_asked1_96 hn89 hr90 hr50 hn10 hi hc) ?_
      rintro _ _ ⟨rfl, rfl⟩
      show tw_P L xs _ 216 6 [.ref 88, .int (nI i), .int (nI c)] [.int (σ 96 (10 * i + c))] σ _
      refine tw_ri rfl (rfl) ?_
      exact ⟨by rw [show σ 10 ((i * 10 + c) * 4 + 1) = σ 96 (10 * i + c) from e], hI⟩
    · have e : tw_E L xs 2 21 [.ref 9, .int (nI i), .int y, .int (nI 1)] σ (fun v σ1 => v = some (.int (-1)) ∧ σ = σ1) := hy.elim (fun h => tw_e_cell0b hr9 hw9 hr50 hn10 hi h) (fun h => tw_e_cell0c hr9 hw9 hr50 hn10 hi h.1 h.2)
      show tw_P L xs _ 146 0 [.ref 1, .int (nI i), .int y] [] σ _
      refine tw_sg 2 (i1 := 2) (ls1 := [.ref 1, .int (nI i), .int y]) (st1 := [.ref 6]) (σ1 := σ) rfl ?_
      refine tw_cl0 59 rfl (rfl) (by decide) ?_
      show tw_P L xs _ 83 0 [.ref 6] [] σ _
      refine tw_sg 2 (i1 := 2) (ls1 := [.ref 6]) (st1 := [.ref 9]) (σ1 := σ) rfl ?_
      refine tw_ra rfl ?_
      show tw_P L xs _ 146 3 [.ref 1, .int (nI i), .int y] [.ref 9] σ _
      refine tw_sg 3 (i1 := 6) (ls1 := [.ref 1, .int (nI i), .int y]) (st1 := [.int (nI 1), .int y, .int (nI i), .ref 9]) (σ1 := σ) rfl ?_
      refine tw_cl1 rfl (rfl) (by decide) (e) ?_
      rintro _ _ ⟨rfl, rfl⟩
      show tw_P L xs _ 146 7 [.ref 1, .int (nI i), .int y] [.int (-1)] σ _
      refine tw_ri rfl (rfl) ?_
      refine ⟨_, rfl, ?_⟩
      show tw_P L xs _ 216 0 [.ref 88, .int (nI i), .int y] [] σ _
      refine tw_sg 5 (i1 := 5) (ls1 := [.ref 88, .int (nI i), .int y]) (st1 := [.int y, .int (nI i), .ref 96, .ref 88]) (σ1 := σ) rfl ?_
      refine tw_cl1 rfl (rfl) (by decide) (tw_e_asked0b_96 hn89 hr90 hr50 hn10 hi hy) ?_
      rintro _ _ ⟨rfl, rfl⟩
      show tw_P L xs _ 216 6 [.ref 88, .int (nI i), .int y] [.int (-1)] σ _
      refine tw_ri rfl (rfl) ?_
      exact ⟨rfl, hI⟩
  · skip
    show tw_P L xs _ 146 0 [.ref 1, .int x, .int y] [] σ _
    refine tw_sg 2 (i1 := 2) (ls1 := [.ref 1, .int x, .int y]) (st1 := [.ref 6]) (σ1 := σ) rfl ?_
    refine tw_cl0 59 rfl (rfl) (by decide) ?_
    show tw_P L xs _ 83 0 [.ref 6] [] σ _
    refine tw_sg 2 (i1 := 2) (ls1 := [.ref 6]) (st1 := [.ref 9]) (σ1 := σ) rfl ?_
    refine tw_ra rfl ?_
    show tw_P L xs _ 146 3 [.ref 1, .int x, .int y] [.ref 9] σ _
    refine tw_sg 3 (i1 := 6) (ls1 := [.ref 1, .int x, .int y]) (st1 := [.int (nI 1), .int y, .int x, .ref 9]) (σ1 := σ) rfl ?_
    refine tw_cl1 rfl (rfl) (by decide) (tw_e_cell0a hr9 hx) ?_
    rintro _ _ ⟨rfl, rfl⟩
    show tw_P L xs _ 146 7 [.ref 1, .int x, .int y] [.int (-1)] σ _
    refine tw_ri rfl (rfl) ?_
    refine ⟨_, rfl, ?_⟩
    show tw_P L xs _ 216 0 [.ref 88, .int x, .int y] [] σ _
    refine tw_sg 5 (i1 := 5) (ls1 := [.ref 88, .int x, .int y]) (st1 := [.int y, .int x, .ref 96, .ref 88]) (σ1 := σ) rfl ?_
    refine tw_cl1 rfl (rfl) (by decide) (tw_e_asked0a_96 hr90 hr50 hx) ?_
    rintro _ _ ⟨rfl, rfl⟩
    show tw_P L xs _ 216 6 [.ref 88, .int x, .int y] [.int (-1)] σ _
    refine tw_ri rfl (rfl) ?_
    exact ⟨rfl, hI⟩
set_option maxHeartbeats 4000000 in
set_option maxRecDepth 100000 in
theorem tw_o_lean {L : Nat} {xs : Nat → Int32} (x : Int32) (y : Int32) : tw_op L xs 147 217 [.int x, .int y] := by
  intro σ hI
  obtain ⟨⟨n, r, hL⟩, hT, hPp, hPc, hLs, hIm, hC14, hC46, hC72⟩ := id hI
  obtain ⟨⟨hn10, hr50⟩, ⟨hn6, hn89⟩, ⟨hr9, hw9, hr90⟩, hCa, hRo, hLa⟩ := hL
  have hn6 : σ 6 4 = nI n := hn6
  have hn89 : σ 89 0 = nI n := hn89
  have hr9 : σ 9 3 = nI r := hr9
  have hw9 : σ 9 4 = nI n := hw9
  have hr90 : σ 90 0 = nI r := hr90
  rcases tw_within x r (by omega) with ⟨i, hi, rfl⟩ | hx
  · rcases tw_within y n (by omega) with ⟨c, hc, rfl⟩ | hy
    · have e := (hRo i hi c hc).2.2.1
      show tw_P L xs _ 147 0 [.ref 1, .int (nI i), .int (nI c)] [] σ _
      refine tw_sg 2 (i1 := 2) (ls1 := [.ref 1, .int (nI i), .int (nI c)]) (st1 := [.ref 6]) (σ1 := σ) rfl ?_
      refine tw_cl0 59 rfl (rfl) (by decide) ?_
      show tw_P L xs _ 83 0 [.ref 6] [] σ _
      refine tw_sg 2 (i1 := 2) (ls1 := [.ref 6]) (st1 := [.ref 9]) (σ1 := σ) rfl ?_
      refine tw_ra rfl ?_
      show tw_P L xs _ 147 3 [.ref 1, .int (nI i), .int (nI c)] [.ref 9] σ _
      refine tw_sg 3 (i1 := 6) (ls1 := [.ref 1, .int (nI i), .int (nI c)]) (st1 := [.int (nI 2), .int (nI c), .int (nI i), .ref 9]) (σ1 := σ) rfl ?_
      refine tw_cl1 rfl (rfl) (by decide) (tw_e_cell1 hr9 hw9 hr50 hn10 hi hc (by decide)) ?_
      rintro _ _ ⟨rfl, rfl⟩
      show tw_P L xs _ 147 7 [.ref 1, .int (nI i), .int (nI c)] [.int (σ 10 ((i * 10 + c) * 4 + 2))] σ _
      refine tw_ri rfl (rfl) ?_
      refine ⟨_, rfl, ?_⟩
      show tw_P L xs _ 217 0 [.ref 88, .int (nI i), .int (nI c)] [] σ _
      refine tw_sg 5 (i1 := 5) (ls1 := [.ref 88, .int (nI i), .int (nI c)]) (st1 := [.int (nI c), .int (nI i), .ref 97, .ref 88]) (σ1 := σ) rfl ?_
      refine tw_cl1 rfl (rfl) (by decide) (tw_e_asked1_97 hn89 hr90 hr50 hn10 hi hc) ?_
      rintro _ _ ⟨rfl, rfl⟩
      show tw_P L xs _ 217 6 [.ref 88, .int (nI i), .int (nI c)] [.int (σ 97 (10 * i + c))] σ _
      refine tw_ri rfl (rfl) ?_
      exact ⟨by rw [show σ 10 ((i * 10 + c) * 4 + 2) = σ 97 (10 * i + c) from e], hI⟩
    · have e : tw_E L xs 2 21 [.ref 9, .int (nI i), .int y, .int (nI 2)] σ (fun v σ1 => v = some (.int (-1)) ∧ σ = σ1) := hy.elim (fun h => tw_e_cell0b hr9 hw9 hr50 hn10 hi h) (fun h => tw_e_cell0c hr9 hw9 hr50 hn10 hi h.1 h.2)
      show tw_P L xs _ 147 0 [.ref 1, .int (nI i), .int y] [] σ _
      refine tw_sg 2 (i1 := 2) (ls1 := [.ref 1, .int (nI i), .int y]) (st1 := [.ref 6]) (σ1 := σ) rfl ?_
      refine tw_cl0 59 rfl (rfl) (by decide) ?_
      show tw_P L xs _ 83 0 [.ref 6] [] σ _
      refine tw_sg 2 (i1 := 2) (ls1 := [.ref 6]) (st1 := [.ref 9]) (σ1 := σ) rfl ?_
      refine tw_ra rfl ?_
      show tw_P L xs _ 147 3 [.ref 1, .int (nI i), .int y] [.ref 9] σ _
      refine tw_sg 3 (i1 := 6) (ls1 := [.ref 1, .int (nI i), .int y]) (st1 := [.int (nI 2), .int y, .int (nI i), .ref 9]) (σ1 := σ) rfl ?_
      refine tw_cl1 rfl (rfl) (by decide) (e) ?_
      rintro _ _ ⟨rfl, rfl⟩
      show tw_P L xs _ 147 7 [.ref 1, .int (nI i), .int y] [.int (-1)] σ _
      refine tw_ri rfl (rfl) ?_
      refine ⟨_, rfl, ?_⟩
      show tw_P L xs _ 217 0 [.ref 88, .int (nI i), .int y] [] σ _
      refine tw_sg 5 (i1 := 5) (ls1 := [.ref 88, .int (nI i), .int y]) (st1 := [.int y, .int (nI i), .ref 97, .ref 88]) (σ1 := σ) rfl ?_
      refine tw_cl1 rfl (rfl) (by decide) (tw_e_asked0b_97 hn89 hr90 hr50 hn10 hi hy) ?_
      rintro _ _ ⟨rfl, rfl⟩
      show tw_P L xs _ 217 6 [.ref 88, .int (nI i), .int y] [.int (-1)] σ _
      refine tw_ri rfl (rfl) ?_
      exact ⟨rfl, hI⟩
  · skip
    show tw_P L xs _ 147 0 [.ref 1, .int x, .int y] [] σ _
    refine tw_sg 2 (i1 := 2) (ls1 := [.ref 1, .int x, .int y]) (st1 := [.ref 6]) (σ1 := σ) rfl ?_
    refine tw_cl0 59 rfl (rfl) (by decide) ?_
    show tw_P L xs _ 83 0 [.ref 6] [] σ _
    refine tw_sg 2 (i1 := 2) (ls1 := [.ref 6]) (st1 := [.ref 9]) (σ1 := σ) rfl ?_
    refine tw_ra rfl ?_
    show tw_P L xs _ 147 3 [.ref 1, .int x, .int y] [.ref 9] σ _
    refine tw_sg 3 (i1 := 6) (ls1 := [.ref 1, .int x, .int y]) (st1 := [.int (nI 2), .int y, .int x, .ref 9]) (σ1 := σ) rfl ?_
    refine tw_cl1 rfl (rfl) (by decide) (tw_e_cell0a hr9 hx) ?_
    rintro _ _ ⟨rfl, rfl⟩
    show tw_P L xs _ 147 7 [.ref 1, .int x, .int y] [.int (-1)] σ _
    refine tw_ri rfl (rfl) ?_
    refine ⟨_, rfl, ?_⟩
    show tw_P L xs _ 217 0 [.ref 88, .int x, .int y] [] σ _
    refine tw_sg 5 (i1 := 5) (ls1 := [.ref 88, .int x, .int y]) (st1 := [.int y, .int x, .ref 97, .ref 88]) (σ1 := σ) rfl ?_
    refine tw_cl1 rfl (rfl) (by decide) (tw_e_asked0a_97 hr90 hr50 hx) ?_
    rintro _ _ ⟨rfl, rfl⟩
    show tw_P L xs _ 217 6 [.ref 88, .int x, .int y] [.int (-1)] σ _
    refine tw_ri rfl (rfl) ?_
    exact ⟨rfl, hI⟩
set_option maxHeartbeats 4000000 in
set_option maxRecDepth 100000 in
theorem tw_o_turning {L : Nat} {xs : Nat → Int32} (x : Int32) (y : Int32) : tw_op L xs 148 218 [.int x, .int y] := by
  intro σ hI
  obtain ⟨⟨n, r, hL⟩, hT, hPp, hPc, hLs, hIm, hC14, hC46, hC72⟩ := id hI
  obtain ⟨⟨hn10, hr50⟩, ⟨hn6, hn89⟩, ⟨hr9, hw9, hr90⟩, hCa, hRo, hLa⟩ := hL
  have hn6 : σ 6 4 = nI n := hn6
  have hn89 : σ 89 0 = nI n := hn89
  have hr9 : σ 9 3 = nI r := hr9
  have hw9 : σ 9 4 = nI n := hw9
  have hr90 : σ 90 0 = nI r := hr90
  rcases tw_within x r (by omega) with ⟨i, hi, rfl⟩ | hx
  · rcases tw_within y n (by omega) with ⟨c, hc, rfl⟩ | hy
    · have e := (hRo i hi c hc).2.2.2.1
      show tw_P L xs _ 148 0 [.ref 1, .int (nI i), .int (nI c)] [] σ _
      refine tw_sg 2 (i1 := 2) (ls1 := [.ref 1, .int (nI i), .int (nI c)]) (st1 := [.ref 6]) (σ1 := σ) rfl ?_
      refine tw_cl0 59 rfl (rfl) (by decide) ?_
      show tw_P L xs _ 83 0 [.ref 6] [] σ _
      refine tw_sg 2 (i1 := 2) (ls1 := [.ref 6]) (st1 := [.ref 9]) (σ1 := σ) rfl ?_
      refine tw_ra rfl ?_
      show tw_P L xs _ 148 3 [.ref 1, .int (nI i), .int (nI c)] [.ref 9] σ _
      refine tw_sg 3 (i1 := 6) (ls1 := [.ref 1, .int (nI i), .int (nI c)]) (st1 := [.int (nI 3), .int (nI c), .int (nI i), .ref 9]) (σ1 := σ) rfl ?_
      refine tw_cl1 rfl (rfl) (by decide) (tw_e_cell1 hr9 hw9 hr50 hn10 hi hc (by decide)) ?_
      rintro _ _ ⟨rfl, rfl⟩
      show tw_P L xs _ 148 7 [.ref 1, .int (nI i), .int (nI c)] [.int (σ 10 ((i * 10 + c) * 4 + 3))] σ _
      refine tw_ri rfl (rfl) ?_
      refine ⟨_, rfl, ?_⟩
      show tw_P L xs _ 218 0 [.ref 88, .int (nI i), .int (nI c)] [] σ _
      refine tw_sg 5 (i1 := 5) (ls1 := [.ref 88, .int (nI i), .int (nI c)]) (st1 := [.int (nI c), .int (nI i), .ref 98, .ref 88]) (σ1 := σ) rfl ?_
      refine tw_cl1 rfl (rfl) (by decide) (tw_e_asked1_98 hn89 hr90 hr50 hn10 hi hc) ?_
      rintro _ _ ⟨rfl, rfl⟩
      show tw_P L xs _ 218 6 [.ref 88, .int (nI i), .int (nI c)] [.int (σ 98 (10 * i + c))] σ _
      refine tw_ri rfl (rfl) ?_
      exact ⟨by rw [show σ 10 ((i * 10 + c) * 4 + 3) = σ 98 (10 * i + c) from e], hI⟩
    · have e : tw_E L xs 2 21 [.ref 9, .int (nI i), .int y, .int (nI 3)] σ (fun v σ1 => v = some (.int (-1)) ∧ σ = σ1) := hy.elim (fun h => tw_e_cell0b hr9 hw9 hr50 hn10 hi h) (fun h => tw_e_cell0c hr9 hw9 hr50 hn10 hi h.1 h.2)
      show tw_P L xs _ 148 0 [.ref 1, .int (nI i), .int y] [] σ _
      refine tw_sg 2 (i1 := 2) (ls1 := [.ref 1, .int (nI i), .int y]) (st1 := [.ref 6]) (σ1 := σ) rfl ?_
      refine tw_cl0 59 rfl (rfl) (by decide) ?_
      show tw_P L xs _ 83 0 [.ref 6] [] σ _
      refine tw_sg 2 (i1 := 2) (ls1 := [.ref 6]) (st1 := [.ref 9]) (σ1 := σ) rfl ?_
      refine tw_ra rfl ?_
      show tw_P L xs _ 148 3 [.ref 1, .int (nI i), .int y] [.ref 9] σ _
      refine tw_sg 3 (i1 := 6) (ls1 := [.ref 1, .int (nI i), .int y]) (st1 := [.int (nI 3), .int y, .int (nI i), .ref 9]) (σ1 := σ) rfl ?_
      refine tw_cl1 rfl (rfl) (by decide) (e) ?_
      rintro _ _ ⟨rfl, rfl⟩
      show tw_P L xs _ 148 7 [.ref 1, .int (nI i), .int y] [.int (-1)] σ _
      refine tw_ri rfl (rfl) ?_
      refine ⟨_, rfl, ?_⟩
      show tw_P L xs _ 218 0 [.ref 88, .int (nI i), .int y] [] σ _
      refine tw_sg 5 (i1 := 5) (ls1 := [.ref 88, .int (nI i), .int y]) (st1 := [.int y, .int (nI i), .ref 98, .ref 88]) (σ1 := σ) rfl ?_
      refine tw_cl1 rfl (rfl) (by decide) (tw_e_asked0b_98 hn89 hr90 hr50 hn10 hi hy) ?_
      rintro _ _ ⟨rfl, rfl⟩
      show tw_P L xs _ 218 6 [.ref 88, .int (nI i), .int y] [.int (-1)] σ _
      refine tw_ri rfl (rfl) ?_
      exact ⟨rfl, hI⟩
  · skip
    show tw_P L xs _ 148 0 [.ref 1, .int x, .int y] [] σ _
    refine tw_sg 2 (i1 := 2) (ls1 := [.ref 1, .int x, .int y]) (st1 := [.ref 6]) (σ1 := σ) rfl ?_
    refine tw_cl0 59 rfl (rfl) (by decide) ?_
    show tw_P L xs _ 83 0 [.ref 6] [] σ _
    refine tw_sg 2 (i1 := 2) (ls1 := [.ref 6]) (st1 := [.ref 9]) (σ1 := σ) rfl ?_
    refine tw_ra rfl ?_
    show tw_P L xs _ 148 3 [.ref 1, .int x, .int y] [.ref 9] σ _
    refine tw_sg 3 (i1 := 6) (ls1 := [.ref 1, .int x, .int y]) (st1 := [.int (nI 3), .int y, .int x, .ref 9]) (σ1 := σ) rfl ?_
    refine tw_cl1 rfl (rfl) (by decide) (tw_e_cell0a hr9 hx) ?_
    rintro _ _ ⟨rfl, rfl⟩
    show tw_P L xs _ 148 7 [.ref 1, .int x, .int y] [.int (-1)] σ _
    refine tw_ri rfl (rfl) ?_
    refine ⟨_, rfl, ?_⟩
    show tw_P L xs _ 218 0 [.ref 88, .int x, .int y] [] σ _
    refine tw_sg 5 (i1 := 5) (ls1 := [.ref 88, .int x, .int y]) (st1 := [.int y, .int x, .ref 98, .ref 88]) (σ1 := σ) rfl ?_
    refine tw_cl1 rfl (rfl) (by decide) (tw_e_asked0a_98 hr90 hr50 hx) ?_
    rintro _ _ ⟨rfl, rfl⟩
    show tw_P L xs _ 218 6 [.ref 88, .int x, .int y] [.int (-1)] σ _
    refine tw_ri rfl (rfl) ?_
    exact ⟨rfl, hI⟩
end tw_s25
