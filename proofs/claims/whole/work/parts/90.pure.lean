/-! the law's loop, its calls one by one (laid by program), and the whole run -/
section tw_L
variable {L : Nat} {xs : Nat → Int32} {σ : tw_Mem} {Q : Option Value → tw_Mem → Prop} {d m i pc ln a b j : Nat} {z x : Int32} {ts : List Nat} {ls st : List Value}
theorem tw_sl0 (h : tw_fetch m i = some (pc, ln, .iaload, a, b, z, ts)) (hx : x = nI j) (hj : j < L) (hL : L ≤ 2048) (kk : tw_P L xs d m (i + 1) ls (.int (xs j) :: st) σ Q) : tw_P L xs d m i ls (.int x :: .ref 0 :: st) σ Q := by
  subst hx
  refine tw_onestep h ?_ kk
  have e1 : (nI j).toNatClampNeg = j := tw_nclamp (by omega)
  have e2 : ¬ nI j < 0 := tw_nge0 (by omega)
  show (if Nat.beq 0 0 then (if !(decide (nI j < 0)) && Nat.blt (nI j).toNatClampNeg L then tw_go (i + 1) ls (.int (xs (nI j).toNatClampNeg) :: st) none σ else none) else if tw_isA 0 20 none (nI j) then tw_go (i + 1) ls (.int (σ 0 (nI j).toNatClampNeg) :: st) none σ else none) = _
  rw [if_pos (by rfl), e1, if_pos (by simp [e2, Nat.blt_eq, hj])]
  rfl
theorem tw_slen0 (h : tw_fetch m i = some (pc, ln, .arraylength, a, b, z, ts)) (kk : tw_P L xs d m (i + 1) ls (.int (nI L) :: st) σ Q) : tw_P L xs d m i ls (.ref 0 :: st) σ Q := tw_onestep h rfl kk
theorem tw_lm4 (h : L ≤ 2048) (hi : i ≤ 4096) : (nI L - nI 4 < nI i) = (L < i + 4) := by
  by_cases h4 : 4 ≤ L
  · rw [tw_nsub h4, tw_nlt (by omega) (by omega)]
    exact propext (by omega)
  · have : L = 0 ∨ L = 1 ∨ L = 2 ∨ L = 3 := by omega
    have e : nI L - nI 4 < nI 0 := by rcases this with rfl | rfl | rfl | rfl <;> decide
    have e2 := tw_neg_lt (n := i) e (by omega)
    exact propext ⟨fun _ => by omega, fun _ => e2⟩
theorem tw_lt_of_le' {u : Int32} (h : nI 43 ≤ u) : nI 42 < u := by
  rw [Int32.le_iff_toInt_le, tw_ntoI (by decide)] at h
  rw [Int32.lt_iff_toInt_lt, tw_ntoI (by decide)]
  omega
set_option maxRecDepth 100000 in
theorem tw_case0 (hI : tw_Inv σ) (hi : i + 4 ≤ L) (hL : L ≤ 2048) (hop : tw_op L xs 132 187 [.int (xs (i + 1))]) (kk : ∀ σ2, tw_Inv σ2 → tw_P L xs 100 264 873 [.ref 0, .ref 1, .ref 88, .int (nI i)] [] σ2 Q) : tw_P L xs 100 264 22 [.ref 0, .ref 1, .ref 88, .int (nI i)] [] σ Q := by
  refine tw_sgn 5 (i1 := 27) (ls0 := [.ref 0, .ref 1, .ref 88, .int (nI i)]) (st0 := [.int (nI i + nI 1), .ref 0, .ref 1]) (σ0 := _) (ls1 := [.ref 0, .ref 1, .ref 88, .int (nI i)]) (st1 := [.int (nI (i + 1)), .ref 0, .ref 1]) (σ1 := _) rfl rfl (by rw [tw_nadd]) rfl ?_
  refine tw_sl0 rfl rfl (by omega) hL ?_
  refine tw_cl1 rfl rfl (by decide) (hop σ hI) ?_
  rintro _ σ1 ⟨u, rfl, hE⟩
  show tw_P L xs _ 264 29 [.ref 0, .ref 1, .ref 88, .int (nI i)] [.int u] σ1 _
  refine tw_sgn 5 (i1 := 34) (ls0 := [.ref 0, .ref 1, .ref 88, .int (nI i)]) (st0 := [.int (nI i + nI 1), .ref 0, .ref 88, .int u]) (σ0 := _) (ls1 := [.ref 0, .ref 1, .ref 88, .int (nI i)]) (st1 := [.int (nI (i + 1)), .ref 0, .ref 88, .int u]) (σ1 := _) rfl rfl (by rw [tw_nadd]) rfl ?_
  refine tw_sl0 rfl rfl (by omega) hL ?_
  refine tw_cl1 rfl rfl (by decide) hE ?_
  rintro _ σ2 ⟨rfl, hI2⟩
  show tw_P L xs _ 264 36 [.ref 0, .ref 1, .ref 88, .int (nI i)] [.int u, .int u] σ2 _
  exact tw_biT (c := .eq) rfl (by rw [tw_ceq]) (kk σ2 hI2)
set_option maxRecDepth 100000 in
theorem tw_case1 (hI : tw_Inv σ) (hi : i + 4 ≤ L) (hL : L ≤ 2048) (hop : tw_op L xs 133 188 []) (kk : ∀ σ2, tw_Inv σ2 → tw_P L xs 100 264 873 [.ref 0, .ref 1, .ref 88, .int (nI i)] [] σ2 Q) : tw_P L xs 100 264 39 [.ref 0, .ref 1, .ref 88, .int (nI i)] [] σ Q := by
  refine tw_sg 1 (i1 := 40) (ls1 := [.ref 0, .ref 1, .ref 88, .int (nI i)]) (st1 := [.ref 1]) (σ1 := _) rfl ?_
  refine tw_cl1 rfl rfl (by decide) (hop σ hI) ?_
  rintro _ σ1 ⟨u, rfl, hE⟩
  show tw_P L xs _ 264 41 [.ref 0, .ref 1, .ref 88, .int (nI i)] [.int u] σ1 _
  refine tw_sg 1 (i1 := 42) (ls1 := [.ref 0, .ref 1, .ref 88, .int (nI i)]) (st1 := [.ref 88, .int u]) (σ1 := _) rfl ?_
  refine tw_cl1 rfl rfl (by decide) hE ?_
  rintro _ σ2 ⟨rfl, hI2⟩
  show tw_P L xs _ 264 43 [.ref 0, .ref 1, .ref 88, .int (nI i)] [.int u, .int u] σ2 _
  exact tw_biT (c := .eq) rfl (by rw [tw_ceq]) (kk σ2 hI2)
set_option maxRecDepth 100000 in
theorem tw_case2 (hI : tw_Inv σ) (hi : i + 4 ≤ L) (hL : L ≤ 2048) (hop : tw_op L xs 134 197 []) (kk : ∀ σ2, tw_Inv σ2 → tw_P L xs 100 264 873 [.ref 0, .ref 1, .ref 88, .int (nI i)] [] σ2 Q) : tw_P L xs 100 264 46 [.ref 0, .ref 1, .ref 88, .int (nI i)] [] σ Q := by
  refine tw_sg 1 (i1 := 47) (ls1 := [.ref 0, .ref 1, .ref 88, .int (nI i)]) (st1 := [.ref 1]) (σ1 := _) rfl ?_
  refine tw_cl1 rfl rfl (by decide) (hop σ hI) ?_
  rintro _ σ1 ⟨u, rfl, hE⟩
  show tw_P L xs _ 264 48 [.ref 0, .ref 1, .ref 88, .int (nI i)] [.int u] σ1 _
  refine tw_sg 1 (i1 := 49) (ls1 := [.ref 0, .ref 1, .ref 88, .int (nI i)]) (st1 := [.ref 88, .int u]) (σ1 := _) rfl ?_
  refine tw_cl1 rfl rfl (by decide) hE ?_
  rintro _ σ2 ⟨rfl, hI2⟩
  show tw_P L xs _ 264 50 [.ref 0, .ref 1, .ref 88, .int (nI i)] [.int u, .int u] σ2 _
  exact tw_biT (c := .eq) rfl (by rw [tw_ceq]) (kk σ2 hI2)
set_option maxRecDepth 100000 in
theorem tw_case3 (hI : tw_Inv σ) (hi : i + 4 ≤ L) (hL : L ≤ 2048) (hop : tw_op L xs 135 194 []) (kk : ∀ σ2, tw_Inv σ2 → tw_P L xs 100 264 873 [.ref 0, .ref 1, .ref 88, .int (nI i)] [] σ2 Q) : tw_P L xs 100 264 53 [.ref 0, .ref 1, .ref 88, .int (nI i)] [] σ Q := by
  refine tw_sg 1 (i1 := 54) (ls1 := [.ref 0, .ref 1, .ref 88, .int (nI i)]) (st1 := [.ref 1]) (σ1 := _) rfl ?_
  refine tw_cl1 rfl rfl (by decide) (hop σ hI) ?_
  rintro _ σ1 ⟨u, rfl, hE⟩
  show tw_P L xs _ 264 55 [.ref 0, .ref 1, .ref 88, .int (nI i)] [.int u] σ1 _
  refine tw_sg 1 (i1 := 56) (ls1 := [.ref 0, .ref 1, .ref 88, .int (nI i)]) (st1 := [.ref 88, .int u]) (σ1 := _) rfl ?_
  refine tw_cl1 rfl rfl (by decide) hE ?_
  rintro _ σ2 ⟨rfl, hI2⟩
  show tw_P L xs _ 264 57 [.ref 0, .ref 1, .ref 88, .int (nI i)] [.int u, .int u] σ2 _
  exact tw_biT (c := .eq) rfl (by rw [tw_ceq]) (kk σ2 hI2)
set_option maxRecDepth 100000 in
theorem tw_case4 (hI : tw_Inv σ) (hi : i + 4 ≤ L) (hL : L ≤ 2048) (hop : tw_op L xs 136 199 [.int (xs (i + 1)), .int (xs (i + 2))]) (kk : ∀ σ2, tw_Inv σ2 → tw_P L xs 100 264 873 [.ref 0, .ref 1, .ref 88, .int (nI i)] [] σ2 Q) : tw_P L xs 100 264 60 [.ref 0, .ref 1, .ref 88, .int (nI i)] [] σ Q := by
  refine tw_sgn 5 (i1 := 65) (ls0 := [.ref 0, .ref 1, .ref 88, .int (nI i)]) (st0 := [.int (nI i + nI 1), .ref 0, .ref 1]) (σ0 := _) (ls1 := [.ref 0, .ref 1, .ref 88, .int (nI i)]) (st1 := [.int (nI (i + 1)), .ref 0, .ref 1]) (σ1 := _) rfl rfl (by rw [tw_nadd]) rfl ?_
  refine tw_sl0 rfl rfl (by omega) hL ?_
  refine tw_sgn 4 (i1 := 70) (ls0 := [.ref 0, .ref 1, .ref 88, .int (nI i)]) (st0 := [.int (nI i + nI 2), .ref 0, .int (xs (i + 1)), .ref 1]) (σ0 := _) (ls1 := [.ref 0, .ref 1, .ref 88, .int (nI i)]) (st1 := [.int (nI (i + 2)), .ref 0, .int (xs (i + 1)), .ref 1]) (σ1 := _) rfl rfl (by rw [tw_nadd]) rfl ?_
  refine tw_sl0 rfl rfl (by omega) hL ?_
  refine tw_cl1 rfl rfl (by decide) (hop σ hI) ?_
  rintro _ σ1 ⟨u, rfl, hE⟩
  show tw_P L xs _ 264 72 [.ref 0, .ref 1, .ref 88, .int (nI i)] [.int u] σ1 _
  refine tw_sgn 5 (i1 := 77) (ls0 := [.ref 0, .ref 1, .ref 88, .int (nI i)]) (st0 := [.int (nI i + nI 1), .ref 0, .ref 88, .int u]) (σ0 := _) (ls1 := [.ref 0, .ref 1, .ref 88, .int (nI i)]) (st1 := [.int (nI (i + 1)), .ref 0, .ref 88, .int u]) (σ1 := _) rfl rfl (by rw [tw_nadd]) rfl ?_
  refine tw_sl0 rfl rfl (by omega) hL ?_
  refine tw_sgn 4 (i1 := 82) (ls0 := [.ref 0, .ref 1, .ref 88, .int (nI i)]) (st0 := [.int (nI i + nI 2), .ref 0, .int (xs (i + 1)), .ref 88, .int u]) (σ0 := _) (ls1 := [.ref 0, .ref 1, .ref 88, .int (nI i)]) (st1 := [.int (nI (i + 2)), .ref 0, .int (xs (i + 1)), .ref 88, .int u]) (σ1 := _) rfl rfl (by rw [tw_nadd]) rfl ?_
  refine tw_sl0 rfl rfl (by omega) hL ?_
  refine tw_cl1 rfl rfl (by decide) hE ?_
  rintro _ σ2 ⟨rfl, hI2⟩
  show tw_P L xs _ 264 84 [.ref 0, .ref 1, .ref 88, .int (nI i)] [.int u, .int u] σ2 _
  exact tw_biT (c := .eq) rfl (by rw [tw_ceq]) (kk σ2 hI2)
set_option maxRecDepth 100000 in
theorem tw_case5 (hI : tw_Inv σ) (hi : i + 4 ≤ L) (hL : L ≤ 2048) (hop : tw_op L xs 137 200 [.int (xs (i + 1))]) (kk : ∀ σ2, tw_Inv σ2 → tw_P L xs 100 264 873 [.ref 0, .ref 1, .ref 88, .int (nI i)] [] σ2 Q) : tw_P L xs 100 264 87 [.ref 0, .ref 1, .ref 88, .int (nI i)] [] σ Q := by
  refine tw_sgn 5 (i1 := 92) (ls0 := [.ref 0, .ref 1, .ref 88, .int (nI i)]) (st0 := [.int (nI i + nI 1), .ref 0, .ref 1]) (σ0 := _) (ls1 := [.ref 0, .ref 1, .ref 88, .int (nI i)]) (st1 := [.int (nI (i + 1)), .ref 0, .ref 1]) (σ1 := _) rfl rfl (by rw [tw_nadd]) rfl ?_
  refine tw_sl0 rfl rfl (by omega) hL ?_
  refine tw_cl1 rfl rfl (by decide) (hop σ hI) ?_
  rintro _ σ1 ⟨u, rfl, hE⟩
  show tw_P L xs _ 264 94 [.ref 0, .ref 1, .ref 88, .int (nI i)] [.int u] σ1 _
  refine tw_sgn 5 (i1 := 99) (ls0 := [.ref 0, .ref 1, .ref 88, .int (nI i)]) (st0 := [.int (nI i + nI 1), .ref 0, .ref 88, .int u]) (σ0 := _) (ls1 := [.ref 0, .ref 1, .ref 88, .int (nI i)]) (st1 := [.int (nI (i + 1)), .ref 0, .ref 88, .int u]) (σ1 := _) rfl rfl (by rw [tw_nadd]) rfl ?_
  refine tw_sl0 rfl rfl (by omega) hL ?_
  refine tw_cl1 rfl rfl (by decide) hE ?_
  rintro _ σ2 ⟨rfl, hI2⟩
  show tw_P L xs _ 264 101 [.ref 0, .ref 1, .ref 88, .int (nI i)] [.int u, .int u] σ2 _
  exact tw_biT (c := .eq) rfl (by rw [tw_ceq]) (kk σ2 hI2)
set_option maxRecDepth 100000 in
theorem tw_case6 (hI : tw_Inv σ) (hi : i + 4 ≤ L) (hL : L ≤ 2048) (hop : tw_op L xs 138 201 [.int (xs (i + 1)), .int (xs (i + 2))]) (kk : ∀ σ2, tw_Inv σ2 → tw_P L xs 100 264 873 [.ref 0, .ref 1, .ref 88, .int (nI i)] [] σ2 Q) : tw_P L xs 100 264 104 [.ref 0, .ref 1, .ref 88, .int (nI i)] [] σ Q := by
  refine tw_sgn 5 (i1 := 109) (ls0 := [.ref 0, .ref 1, .ref 88, .int (nI i)]) (st0 := [.int (nI i + nI 1), .ref 0, .ref 1]) (σ0 := _) (ls1 := [.ref 0, .ref 1, .ref 88, .int (nI i)]) (st1 := [.int (nI (i + 1)), .ref 0, .ref 1]) (σ1 := _) rfl rfl (by rw [tw_nadd]) rfl ?_
  refine tw_sl0 rfl rfl (by omega) hL ?_
  refine tw_sgn 4 (i1 := 114) (ls0 := [.ref 0, .ref 1, .ref 88, .int (nI i)]) (st0 := [.int (nI i + nI 2), .ref 0, .int (xs (i + 1)), .ref 1]) (σ0 := _) (ls1 := [.ref 0, .ref 1, .ref 88, .int (nI i)]) (st1 := [.int (nI (i + 2)), .ref 0, .int (xs (i + 1)), .ref 1]) (σ1 := _) rfl rfl (by rw [tw_nadd]) rfl ?_
  refine tw_sl0 rfl rfl (by omega) hL ?_
  refine tw_cl1 rfl rfl (by decide) (hop σ hI) ?_
  rintro _ σ1 ⟨u, rfl, hE⟩
  show tw_P L xs _ 264 116 [.ref 0, .ref 1, .ref 88, .int (nI i)] [.int u] σ1 _
  refine tw_sgn 5 (i1 := 121) (ls0 := [.ref 0, .ref 1, .ref 88, .int (nI i)]) (st0 := [.int (nI i + nI 1), .ref 0, .ref 88, .int u]) (σ0 := _) (ls1 := [.ref 0, .ref 1, .ref 88, .int (nI i)]) (st1 := [.int (nI (i + 1)), .ref 0, .ref 88, .int u]) (σ1 := _) rfl rfl (by rw [tw_nadd]) rfl ?_
  refine tw_sl0 rfl rfl (by omega) hL ?_
  refine tw_sgn 4 (i1 := 126) (ls0 := [.ref 0, .ref 1, .ref 88, .int (nI i)]) (st0 := [.int (nI i + nI 2), .ref 0, .int (xs (i + 1)), .ref 88, .int u]) (σ0 := _) (ls1 := [.ref 0, .ref 1, .ref 88, .int (nI i)]) (st1 := [.int (nI (i + 2)), .ref 0, .int (xs (i + 1)), .ref 88, .int u]) (σ1 := _) rfl rfl (by rw [tw_nadd]) rfl ?_
  refine tw_sl0 rfl rfl (by omega) hL ?_
  refine tw_cl1 rfl rfl (by decide) hE ?_
  rintro _ σ2 ⟨rfl, hI2⟩
  show tw_P L xs _ 264 128 [.ref 0, .ref 1, .ref 88, .int (nI i)] [.int u, .int u] σ2 _
  exact tw_biT (c := .eq) rfl (by rw [tw_ceq]) (kk σ2 hI2)
set_option maxRecDepth 100000 in
theorem tw_case7 (hI : tw_Inv σ) (hi : i + 4 ≤ L) (hL : L ≤ 2048) (hop : tw_op L xs 139 202 [.int (xs (i + 1)), .int (xs (i + 2)), .int (xs (i + 3))]) (kk : ∀ σ2, tw_Inv σ2 → tw_P L xs 100 264 873 [.ref 0, .ref 1, .ref 88, .int (nI i)] [] σ2 Q) : tw_P L xs 100 264 131 [.ref 0, .ref 1, .ref 88, .int (nI i)] [] σ Q := by
  refine tw_sgn 5 (i1 := 136) (ls0 := [.ref 0, .ref 1, .ref 88, .int (nI i)]) (st0 := [.int (nI i + nI 1), .ref 0, .ref 1]) (σ0 := _) (ls1 := [.ref 0, .ref 1, .ref 88, .int (nI i)]) (st1 := [.int (nI (i + 1)), .ref 0, .ref 1]) (σ1 := _) rfl rfl (by rw [tw_nadd]) rfl ?_
  refine tw_sl0 rfl rfl (by omega) hL ?_
  refine tw_sgn 4 (i1 := 141) (ls0 := [.ref 0, .ref 1, .ref 88, .int (nI i)]) (st0 := [.int (nI i + nI 2), .ref 0, .int (xs (i + 1)), .ref 1]) (σ0 := _) (ls1 := [.ref 0, .ref 1, .ref 88, .int (nI i)]) (st1 := [.int (nI (i + 2)), .ref 0, .int (xs (i + 1)), .ref 1]) (σ1 := _) rfl rfl (by rw [tw_nadd]) rfl ?_
  refine tw_sl0 rfl rfl (by omega) hL ?_
  refine tw_sgn 4 (i1 := 146) (ls0 := [.ref 0, .ref 1, .ref 88, .int (nI i)]) (st0 := [.int (nI i + nI 3), .ref 0, .int (xs (i + 2)), .int (xs (i + 1)), .ref 1]) (σ0 := _) (ls1 := [.ref 0, .ref 1, .ref 88, .int (nI i)]) (st1 := [.int (nI (i + 3)), .ref 0, .int (xs (i + 2)), .int (xs (i + 1)), .ref 1]) (σ1 := _) rfl rfl (by rw [tw_nadd]) rfl ?_
  refine tw_sl0 rfl rfl (by omega) hL ?_
  refine tw_cl1 rfl rfl (by decide) (hop σ hI) ?_
  rintro _ σ1 ⟨u, rfl, hE⟩
  show tw_P L xs _ 264 148 [.ref 0, .ref 1, .ref 88, .int (nI i)] [.int u] σ1 _
  refine tw_sgn 5 (i1 := 153) (ls0 := [.ref 0, .ref 1, .ref 88, .int (nI i)]) (st0 := [.int (nI i + nI 1), .ref 0, .ref 88, .int u]) (σ0 := _) (ls1 := [.ref 0, .ref 1, .ref 88, .int (nI i)]) (st1 := [.int (nI (i + 1)), .ref 0, .ref 88, .int u]) (σ1 := _) rfl rfl (by rw [tw_nadd]) rfl ?_
  refine tw_sl0 rfl rfl (by omega) hL ?_
  refine tw_sgn 4 (i1 := 158) (ls0 := [.ref 0, .ref 1, .ref 88, .int (nI i)]) (st0 := [.int (nI i + nI 2), .ref 0, .int (xs (i + 1)), .ref 88, .int u]) (σ0 := _) (ls1 := [.ref 0, .ref 1, .ref 88, .int (nI i)]) (st1 := [.int (nI (i + 2)), .ref 0, .int (xs (i + 1)), .ref 88, .int u]) (σ1 := _) rfl rfl (by rw [tw_nadd]) rfl ?_
  refine tw_sl0 rfl rfl (by omega) hL ?_
  refine tw_sgn 4 (i1 := 163) (ls0 := [.ref 0, .ref 1, .ref 88, .int (nI i)]) (st0 := [.int (nI i + nI 3), .ref 0, .int (xs (i + 2)), .int (xs (i + 1)), .ref 88, .int u]) (σ0 := _) (ls1 := [.ref 0, .ref 1, .ref 88, .int (nI i)]) (st1 := [.int (nI (i + 3)), .ref 0, .int (xs (i + 2)), .int (xs (i + 1)), .ref 88, .int u]) (σ1 := _) rfl rfl (by rw [tw_nadd]) rfl ?_
  refine tw_sl0 rfl rfl (by omega) hL ?_
  refine tw_cl1 rfl rfl (by decide) hE ?_
  rintro _ σ2 ⟨rfl, hI2⟩
  show tw_P L xs _ 264 165 [.ref 0, .ref 1, .ref 88, .int (nI i)] [.int u, .int u] σ2 _
  exact tw_biT (c := .eq) rfl (by rw [tw_ceq]) (kk σ2 hI2)
set_option maxRecDepth 100000 in
theorem tw_case8 (hI : tw_Inv σ) (hi : i + 4 ≤ L) (hL : L ≤ 2048) (hop : tw_op L xs 140 209 [.int (xs (i + 1)), .int (xs (i + 2))]) (kk : ∀ σ2, tw_Inv σ2 → tw_P L xs 100 264 873 [.ref 0, .ref 1, .ref 88, .int (nI i)] [] σ2 Q) : tw_P L xs 100 264 168 [.ref 0, .ref 1, .ref 88, .int (nI i)] [] σ Q := by
  refine tw_sgn 5 (i1 := 173) (ls0 := [.ref 0, .ref 1, .ref 88, .int (nI i)]) (st0 := [.int (nI i + nI 1), .ref 0, .ref 1]) (σ0 := _) (ls1 := [.ref 0, .ref 1, .ref 88, .int (nI i)]) (st1 := [.int (nI (i + 1)), .ref 0, .ref 1]) (σ1 := _) rfl rfl (by rw [tw_nadd]) rfl ?_
  refine tw_sl0 rfl rfl (by omega) hL ?_
  refine tw_sgn 4 (i1 := 178) (ls0 := [.ref 0, .ref 1, .ref 88, .int (nI i)]) (st0 := [.int (nI i + nI 2), .ref 0, .int (xs (i + 1)), .ref 1]) (σ0 := _) (ls1 := [.ref 0, .ref 1, .ref 88, .int (nI i)]) (st1 := [.int (nI (i + 2)), .ref 0, .int (xs (i + 1)), .ref 1]) (σ1 := _) rfl rfl (by rw [tw_nadd]) rfl ?_
  refine tw_sl0 rfl rfl (by omega) hL ?_
  refine tw_cl1 rfl rfl (by decide) (hop σ hI) ?_
  rintro _ σ1 ⟨u, rfl, hE⟩
  show tw_P L xs _ 264 180 [.ref 0, .ref 1, .ref 88, .int (nI i)] [.int u] σ1 _
  refine tw_sgn 5 (i1 := 185) (ls0 := [.ref 0, .ref 1, .ref 88, .int (nI i)]) (st0 := [.int (nI i + nI 1), .ref 0, .ref 88, .int u]) (σ0 := _) (ls1 := [.ref 0, .ref 1, .ref 88, .int (nI i)]) (st1 := [.int (nI (i + 1)), .ref 0, .ref 88, .int u]) (σ1 := _) rfl rfl (by rw [tw_nadd]) rfl ?_
  refine tw_sl0 rfl rfl (by omega) hL ?_
  refine tw_sgn 4 (i1 := 190) (ls0 := [.ref 0, .ref 1, .ref 88, .int (nI i)]) (st0 := [.int (nI i + nI 2), .ref 0, .int (xs (i + 1)), .ref 88, .int u]) (σ0 := _) (ls1 := [.ref 0, .ref 1, .ref 88, .int (nI i)]) (st1 := [.int (nI (i + 2)), .ref 0, .int (xs (i + 1)), .ref 88, .int u]) (σ1 := _) rfl rfl (by rw [tw_nadd]) rfl ?_
  refine tw_sl0 rfl rfl (by omega) hL ?_
  refine tw_cl1 rfl rfl (by decide) hE ?_
  rintro _ σ2 ⟨rfl, hI2⟩
  show tw_P L xs _ 264 192 [.ref 0, .ref 1, .ref 88, .int (nI i)] [.int u, .int u] σ2 _
  exact tw_biT (c := .eq) rfl (by rw [tw_ceq]) (kk σ2 hI2)
set_option maxRecDepth 100000 in
theorem tw_case9 (hI : tw_Inv σ) (hi : i + 4 ≤ L) (hL : L ≤ 2048) (hop : tw_op L xs 141 210 [.int (xs (i + 1)), .int (xs (i + 2))]) (kk : ∀ σ2, tw_Inv σ2 → tw_P L xs 100 264 873 [.ref 0, .ref 1, .ref 88, .int (nI i)] [] σ2 Q) : tw_P L xs 100 264 195 [.ref 0, .ref 1, .ref 88, .int (nI i)] [] σ Q := by
  refine tw_sgn 5 (i1 := 200) (ls0 := [.ref 0, .ref 1, .ref 88, .int (nI i)]) (st0 := [.int (nI i + nI 1), .ref 0, .ref 1]) (σ0 := _) (ls1 := [.ref 0, .ref 1, .ref 88, .int (nI i)]) (st1 := [.int (nI (i + 1)), .ref 0, .ref 1]) (σ1 := _) rfl rfl (by rw [tw_nadd]) rfl ?_
  refine tw_sl0 rfl rfl (by omega) hL ?_
  refine tw_sgn 4 (i1 := 205) (ls0 := [.ref 0, .ref 1, .ref 88, .int (nI i)]) (st0 := [.int (nI i + nI 2), .ref 0, .int (xs (i + 1)), .ref 1]) (σ0 := _) (ls1 := [.ref 0, .ref 1, .ref 88, .int (nI i)]) (st1 := [.int (nI (i + 2)), .ref 0, .int (xs (i + 1)), .ref 1]) (σ1 := _) rfl rfl (by rw [tw_nadd]) rfl ?_
  refine tw_sl0 rfl rfl (by omega) hL ?_
  refine tw_cl1 rfl rfl (by decide) (hop σ hI) ?_
  rintro _ σ1 ⟨u, rfl, hE⟩
  show tw_P L xs _ 264 207 [.ref 0, .ref 1, .ref 88, .int (nI i)] [.int u] σ1 _
  refine tw_sgn 5 (i1 := 212) (ls0 := [.ref 0, .ref 1, .ref 88, .int (nI i)]) (st0 := [.int (nI i + nI 1), .ref 0, .ref 88, .int u]) (σ0 := _) (ls1 := [.ref 0, .ref 1, .ref 88, .int (nI i)]) (st1 := [.int (nI (i + 1)), .ref 0, .ref 88, .int u]) (σ1 := _) rfl rfl (by rw [tw_nadd]) rfl ?_
  refine tw_sl0 rfl rfl (by omega) hL ?_
  refine tw_sgn 4 (i1 := 217) (ls0 := [.ref 0, .ref 1, .ref 88, .int (nI i)]) (st0 := [.int (nI i + nI 2), .ref 0, .int (xs (i + 1)), .ref 88, .int u]) (σ0 := _) (ls1 := [.ref 0, .ref 1, .ref 88, .int (nI i)]) (st1 := [.int (nI (i + 2)), .ref 0, .int (xs (i + 1)), .ref 88, .int u]) (σ1 := _) rfl rfl (by rw [tw_nadd]) rfl ?_
  refine tw_sl0 rfl rfl (by omega) hL ?_
  refine tw_cl1 rfl rfl (by decide) hE ?_
  rintro _ σ2 ⟨rfl, hI2⟩
  show tw_P L xs _ 264 219 [.ref 0, .ref 1, .ref 88, .int (nI i)] [.int u, .int u] σ2 _
  exact tw_biT (c := .eq) rfl (by rw [tw_ceq]) (kk σ2 hI2)
set_option maxRecDepth 100000 in
theorem tw_case10 (hI : tw_Inv σ) (hi : i + 4 ≤ L) (hL : L ≤ 2048) (hop : tw_op L xs 143 212 [.int (xs (i + 1))]) (kk : ∀ σ2, tw_Inv σ2 → tw_P L xs 100 264 873 [.ref 0, .ref 1, .ref 88, .int (nI i)] [] σ2 Q) : tw_P L xs 100 264 222 [.ref 0, .ref 1, .ref 88, .int (nI i)] [] σ Q := by
  refine tw_sgn 5 (i1 := 227) (ls0 := [.ref 0, .ref 1, .ref 88, .int (nI i)]) (st0 := [.int (nI i + nI 1), .ref 0, .ref 1]) (σ0 := _) (ls1 := [.ref 0, .ref 1, .ref 88, .int (nI i)]) (st1 := [.int (nI (i + 1)), .ref 0, .ref 1]) (σ1 := _) rfl rfl (by rw [tw_nadd]) rfl ?_
  refine tw_sl0 rfl rfl (by omega) hL ?_
  refine tw_cl1 rfl rfl (by decide) (hop σ hI) ?_
  rintro _ σ1 ⟨u, rfl, hE⟩
  show tw_P L xs _ 264 229 [.ref 0, .ref 1, .ref 88, .int (nI i)] [.int u] σ1 _
  refine tw_sgn 5 (i1 := 234) (ls0 := [.ref 0, .ref 1, .ref 88, .int (nI i)]) (st0 := [.int (nI i + nI 1), .ref 0, .ref 88, .int u]) (σ0 := _) (ls1 := [.ref 0, .ref 1, .ref 88, .int (nI i)]) (st1 := [.int (nI (i + 1)), .ref 0, .ref 88, .int u]) (σ1 := _) rfl rfl (by rw [tw_nadd]) rfl ?_
  refine tw_sl0 rfl rfl (by omega) hL ?_
  refine tw_cl1 rfl rfl (by decide) hE ?_
  rintro _ σ2 ⟨rfl, hI2⟩
  show tw_P L xs _ 264 236 [.ref 0, .ref 1, .ref 88, .int (nI i)] [.int u, .int u] σ2 _
  exact tw_biT (c := .eq) rfl (by rw [tw_ceq]) (kk σ2 hI2)
set_option maxRecDepth 100000 in
theorem tw_case11 (hI : tw_Inv σ) (hi : i + 4 ≤ L) (hL : L ≤ 2048) (hop : tw_op L xs 144 213 [.int (xs (i + 1))]) (kk : ∀ σ2, tw_Inv σ2 → tw_P L xs 100 264 873 [.ref 0, .ref 1, .ref 88, .int (nI i)] [] σ2 Q) : tw_P L xs 100 264 239 [.ref 0, .ref 1, .ref 88, .int (nI i)] [] σ Q := by
  refine tw_sgn 5 (i1 := 244) (ls0 := [.ref 0, .ref 1, .ref 88, .int (nI i)]) (st0 := [.int (nI i + nI 1), .ref 0, .ref 1]) (σ0 := _) (ls1 := [.ref 0, .ref 1, .ref 88, .int (nI i)]) (st1 := [.int (nI (i + 1)), .ref 0, .ref 1]) (σ1 := _) rfl rfl (by rw [tw_nadd]) rfl ?_
  refine tw_sl0 rfl rfl (by omega) hL ?_
  refine tw_cl1 rfl rfl (by decide) (hop σ hI) ?_
  rintro _ σ1 ⟨u, rfl, hE⟩
  show tw_P L xs _ 264 246 [.ref 0, .ref 1, .ref 88, .int (nI i)] [.int u] σ1 _
  refine tw_sgn 5 (i1 := 251) (ls0 := [.ref 0, .ref 1, .ref 88, .int (nI i)]) (st0 := [.int (nI i + nI 1), .ref 0, .ref 88, .int u]) (σ0 := _) (ls1 := [.ref 0, .ref 1, .ref 88, .int (nI i)]) (st1 := [.int (nI (i + 1)), .ref 0, .ref 88, .int u]) (σ1 := _) rfl rfl (by rw [tw_nadd]) rfl ?_
  refine tw_sl0 rfl rfl (by omega) hL ?_
  refine tw_cl1 rfl rfl (by decide) hE ?_
  rintro _ σ2 ⟨rfl, hI2⟩
  show tw_P L xs _ 264 253 [.ref 0, .ref 1, .ref 88, .int (nI i)] [.int u, .int u] σ2 _
  exact tw_biT (c := .eq) rfl (by rw [tw_ceq]) (kk σ2 hI2)
set_option maxRecDepth 100000 in
theorem tw_case12 (hI : tw_Inv σ) (hi : i + 4 ≤ L) (hL : L ≤ 2048) (hop : tw_op L xs 145 215 [.int (xs (i + 1)), .int (xs (i + 2))]) (kk : ∀ σ2, tw_Inv σ2 → tw_P L xs 100 264 873 [.ref 0, .ref 1, .ref 88, .int (nI i)] [] σ2 Q) : tw_P L xs 100 264 256 [.ref 0, .ref 1, .ref 88, .int (nI i)] [] σ Q := by
  refine tw_sgn 5 (i1 := 261) (ls0 := [.ref 0, .ref 1, .ref 88, .int (nI i)]) (st0 := [.int (nI i + nI 1), .ref 0, .ref 1]) (σ0 := _) (ls1 := [.ref 0, .ref 1, .ref 88, .int (nI i)]) (st1 := [.int (nI (i + 1)), .ref 0, .ref 1]) (σ1 := _) rfl rfl (by rw [tw_nadd]) rfl ?_
  refine tw_sl0 rfl rfl (by omega) hL ?_
  refine tw_sgn 4 (i1 := 266) (ls0 := [.ref 0, .ref 1, .ref 88, .int (nI i)]) (st0 := [.int (nI i + nI 2), .ref 0, .int (xs (i + 1)), .ref 1]) (σ0 := _) (ls1 := [.ref 0, .ref 1, .ref 88, .int (nI i)]) (st1 := [.int (nI (i + 2)), .ref 0, .int (xs (i + 1)), .ref 1]) (σ1 := _) rfl rfl (by rw [tw_nadd]) rfl ?_
  refine tw_sl0 rfl rfl (by omega) hL ?_
  refine tw_cl1 rfl rfl (by decide) (hop σ hI) ?_
  rintro _ σ1 ⟨u, rfl, hE⟩
  show tw_P L xs _ 264 268 [.ref 0, .ref 1, .ref 88, .int (nI i)] [.int u] σ1 _
  refine tw_sgn 5 (i1 := 273) (ls0 := [.ref 0, .ref 1, .ref 88, .int (nI i)]) (st0 := [.int (nI i + nI 1), .ref 0, .ref 88, .int u]) (σ0 := _) (ls1 := [.ref 0, .ref 1, .ref 88, .int (nI i)]) (st1 := [.int (nI (i + 1)), .ref 0, .ref 88, .int u]) (σ1 := _) rfl rfl (by rw [tw_nadd]) rfl ?_
  refine tw_sl0 rfl rfl (by omega) hL ?_
  refine tw_sgn 4 (i1 := 278) (ls0 := [.ref 0, .ref 1, .ref 88, .int (nI i)]) (st0 := [.int (nI i + nI 2), .ref 0, .int (xs (i + 1)), .ref 88, .int u]) (σ0 := _) (ls1 := [.ref 0, .ref 1, .ref 88, .int (nI i)]) (st1 := [.int (nI (i + 2)), .ref 0, .int (xs (i + 1)), .ref 88, .int u]) (σ1 := _) rfl rfl (by rw [tw_nadd]) rfl ?_
  refine tw_sl0 rfl rfl (by omega) hL ?_
  refine tw_cl1 rfl rfl (by decide) hE ?_
  rintro _ σ2 ⟨rfl, hI2⟩
  show tw_P L xs _ 264 280 [.ref 0, .ref 1, .ref 88, .int (nI i)] [.int u, .int u] σ2 _
  exact tw_biT (c := .eq) rfl (by rw [tw_ceq]) (kk σ2 hI2)
set_option maxRecDepth 100000 in
theorem tw_case13 (hI : tw_Inv σ) (hi : i + 4 ≤ L) (hL : L ≤ 2048) (hop : tw_op L xs 146 216 [.int (xs (i + 1)), .int (xs (i + 2))]) (kk : ∀ σ2, tw_Inv σ2 → tw_P L xs 100 264 873 [.ref 0, .ref 1, .ref 88, .int (nI i)] [] σ2 Q) : tw_P L xs 100 264 283 [.ref 0, .ref 1, .ref 88, .int (nI i)] [] σ Q := by
  refine tw_sgn 5 (i1 := 288) (ls0 := [.ref 0, .ref 1, .ref 88, .int (nI i)]) (st0 := [.int (nI i + nI 1), .ref 0, .ref 1]) (σ0 := _) (ls1 := [.ref 0, .ref 1, .ref 88, .int (nI i)]) (st1 := [.int (nI (i + 1)), .ref 0, .ref 1]) (σ1 := _) rfl rfl (by rw [tw_nadd]) rfl ?_
  refine tw_sl0 rfl rfl (by omega) hL ?_
  refine tw_sgn 4 (i1 := 293) (ls0 := [.ref 0, .ref 1, .ref 88, .int (nI i)]) (st0 := [.int (nI i + nI 2), .ref 0, .int (xs (i + 1)), .ref 1]) (σ0 := _) (ls1 := [.ref 0, .ref 1, .ref 88, .int (nI i)]) (st1 := [.int (nI (i + 2)), .ref 0, .int (xs (i + 1)), .ref 1]) (σ1 := _) rfl rfl (by rw [tw_nadd]) rfl ?_
  refine tw_sl0 rfl rfl (by omega) hL ?_
  refine tw_cl1 rfl rfl (by decide) (hop σ hI) ?_
  rintro _ σ1 ⟨u, rfl, hE⟩
  show tw_P L xs _ 264 295 [.ref 0, .ref 1, .ref 88, .int (nI i)] [.int u] σ1 _
  refine tw_sgn 5 (i1 := 300) (ls0 := [.ref 0, .ref 1, .ref 88, .int (nI i)]) (st0 := [.int (nI i + nI 1), .ref 0, .ref 88, .int u]) (σ0 := _) (ls1 := [.ref 0, .ref 1, .ref 88, .int (nI i)]) (st1 := [.int (nI (i + 1)), .ref 0, .ref 88, .int u]) (σ1 := _) rfl rfl (by rw [tw_nadd]) rfl ?_
  refine tw_sl0 rfl rfl (by omega) hL ?_
  refine tw_sgn 4 (i1 := 305) (ls0 := [.ref 0, .ref 1, .ref 88, .int (nI i)]) (st0 := [.int (nI i + nI 2), .ref 0, .int (xs (i + 1)), .ref 88, .int u]) (σ0 := _) (ls1 := [.ref 0, .ref 1, .ref 88, .int (nI i)]) (st1 := [.int (nI (i + 2)), .ref 0, .int (xs (i + 1)), .ref 88, .int u]) (σ1 := _) rfl rfl (by rw [tw_nadd]) rfl ?_
  refine tw_sl0 rfl rfl (by omega) hL ?_
  refine tw_cl1 rfl rfl (by decide) hE ?_
  rintro _ σ2 ⟨rfl, hI2⟩
  show tw_P L xs _ 264 307 [.ref 0, .ref 1, .ref 88, .int (nI i)] [.int u, .int u] σ2 _
  exact tw_biT (c := .eq) rfl (by rw [tw_ceq]) (kk σ2 hI2)
set_option maxRecDepth 100000 in
theorem tw_case14 (hI : tw_Inv σ) (hi : i + 4 ≤ L) (hL : L ≤ 2048) (hop : tw_op L xs 147 217 [.int (xs (i + 1)), .int (xs (i + 2))]) (kk : ∀ σ2, tw_Inv σ2 → tw_P L xs 100 264 873 [.ref 0, .ref 1, .ref 88, .int (nI i)] [] σ2 Q) : tw_P L xs 100 264 310 [.ref 0, .ref 1, .ref 88, .int (nI i)] [] σ Q := by
  refine tw_sgn 5 (i1 := 315) (ls0 := [.ref 0, .ref 1, .ref 88, .int (nI i)]) (st0 := [.int (nI i + nI 1), .ref 0, .ref 1]) (σ0 := _) (ls1 := [.ref 0, .ref 1, .ref 88, .int (nI i)]) (st1 := [.int (nI (i + 1)), .ref 0, .ref 1]) (σ1 := _) rfl rfl (by rw [tw_nadd]) rfl ?_
  refine tw_sl0 rfl rfl (by omega) hL ?_
  refine tw_sgn 4 (i1 := 320) (ls0 := [.ref 0, .ref 1, .ref 88, .int (nI i)]) (st0 := [.int (nI i + nI 2), .ref 0, .int (xs (i + 1)), .ref 1]) (σ0 := _) (ls1 := [.ref 0, .ref 1, .ref 88, .int (nI i)]) (st1 := [.int (nI (i + 2)), .ref 0, .int (xs (i + 1)), .ref 1]) (σ1 := _) rfl rfl (by rw [tw_nadd]) rfl ?_
  refine tw_sl0 rfl rfl (by omega) hL ?_
  refine tw_cl1 rfl rfl (by decide) (hop σ hI) ?_
  rintro _ σ1 ⟨u, rfl, hE⟩
  show tw_P L xs _ 264 322 [.ref 0, .ref 1, .ref 88, .int (nI i)] [.int u] σ1 _
  refine tw_sgn 5 (i1 := 327) (ls0 := [.ref 0, .ref 1, .ref 88, .int (nI i)]) (st0 := [.int (nI i + nI 1), .ref 0, .ref 88, .int u]) (σ0 := _) (ls1 := [.ref 0, .ref 1, .ref 88, .int (nI i)]) (st1 := [.int (nI (i + 1)), .ref 0, .ref 88, .int u]) (σ1 := _) rfl rfl (by rw [tw_nadd]) rfl ?_
  refine tw_sl0 rfl rfl (by omega) hL ?_
  refine tw_sgn 4 (i1 := 332) (ls0 := [.ref 0, .ref 1, .ref 88, .int (nI i)]) (st0 := [.int (nI i + nI 2), .ref 0, .int (xs (i + 1)), .ref 88, .int u]) (σ0 := _) (ls1 := [.ref 0, .ref 1, .ref 88, .int (nI i)]) (st1 := [.int (nI (i + 2)), .ref 0, .int (xs (i + 1)), .ref 88, .int u]) (σ1 := _) rfl rfl (by rw [tw_nadd]) rfl ?_
  refine tw_sl0 rfl rfl (by omega) hL ?_
  refine tw_cl1 rfl rfl (by decide) hE ?_
  rintro _ σ2 ⟨rfl, hI2⟩
  show tw_P L xs _ 264 334 [.ref 0, .ref 1, .ref 88, .int (nI i)] [.int u, .int u] σ2 _
  exact tw_biT (c := .eq) rfl (by rw [tw_ceq]) (kk σ2 hI2)
set_option maxRecDepth 100000 in
theorem tw_case15 (hI : tw_Inv σ) (hi : i + 4 ≤ L) (hL : L ≤ 2048) (hop : tw_op L xs 148 218 [.int (xs (i + 1)), .int (xs (i + 2))]) (kk : ∀ σ2, tw_Inv σ2 → tw_P L xs 100 264 873 [.ref 0, .ref 1, .ref 88, .int (nI i)] [] σ2 Q) : tw_P L xs 100 264 337 [.ref 0, .ref 1, .ref 88, .int (nI i)] [] σ Q := by
  refine tw_sgn 5 (i1 := 342) (ls0 := [.ref 0, .ref 1, .ref 88, .int (nI i)]) (st0 := [.int (nI i + nI 1), .ref 0, .ref 1]) (σ0 := _) (ls1 := [.ref 0, .ref 1, .ref 88, .int (nI i)]) (st1 := [.int (nI (i + 1)), .ref 0, .ref 1]) (σ1 := _) rfl rfl (by rw [tw_nadd]) rfl ?_
  refine tw_sl0 rfl rfl (by omega) hL ?_
  refine tw_sgn 4 (i1 := 347) (ls0 := [.ref 0, .ref 1, .ref 88, .int (nI i)]) (st0 := [.int (nI i + nI 2), .ref 0, .int (xs (i + 1)), .ref 1]) (σ0 := _) (ls1 := [.ref 0, .ref 1, .ref 88, .int (nI i)]) (st1 := [.int (nI (i + 2)), .ref 0, .int (xs (i + 1)), .ref 1]) (σ1 := _) rfl rfl (by rw [tw_nadd]) rfl ?_
  refine tw_sl0 rfl rfl (by omega) hL ?_
  refine tw_cl1 rfl rfl (by decide) (hop σ hI) ?_
  rintro _ σ1 ⟨u, rfl, hE⟩
  show tw_P L xs _ 264 349 [.ref 0, .ref 1, .ref 88, .int (nI i)] [.int u] σ1 _
  refine tw_sgn 5 (i1 := 354) (ls0 := [.ref 0, .ref 1, .ref 88, .int (nI i)]) (st0 := [.int (nI i + nI 1), .ref 0, .ref 88, .int u]) (σ0 := _) (ls1 := [.ref 0, .ref 1, .ref 88, .int (nI i)]) (st1 := [.int (nI (i + 1)), .ref 0, .ref 88, .int u]) (σ1 := _) rfl rfl (by rw [tw_nadd]) rfl ?_
  refine tw_sl0 rfl rfl (by omega) hL ?_
  refine tw_sgn 4 (i1 := 359) (ls0 := [.ref 0, .ref 1, .ref 88, .int (nI i)]) (st0 := [.int (nI i + nI 2), .ref 0, .int (xs (i + 1)), .ref 88, .int u]) (σ0 := _) (ls1 := [.ref 0, .ref 1, .ref 88, .int (nI i)]) (st1 := [.int (nI (i + 2)), .ref 0, .int (xs (i + 1)), .ref 88, .int u]) (σ1 := _) rfl rfl (by rw [tw_nadd]) rfl ?_
  refine tw_sl0 rfl rfl (by omega) hL ?_
  refine tw_cl1 rfl rfl (by decide) hE ?_
  rintro _ σ2 ⟨rfl, hI2⟩
  show tw_P L xs _ 264 361 [.ref 0, .ref 1, .ref 88, .int (nI i)] [.int u, .int u] σ2 _
  exact tw_biT (c := .eq) rfl (by rw [tw_ceq]) (kk σ2 hI2)
set_option maxRecDepth 100000 in
theorem tw_case16 (hI : tw_Inv σ) (hi : i + 4 ≤ L) (hL : L ≤ 2048) (hop : tw_op L xs 149 223 []) (kk : ∀ σ2, tw_Inv σ2 → tw_P L xs 100 264 873 [.ref 0, .ref 1, .ref 88, .int (nI i)] [] σ2 Q) : tw_P L xs 100 264 364 [.ref 0, .ref 1, .ref 88, .int (nI i)] [] σ Q := by
  refine tw_sg 1 (i1 := 365) (ls1 := [.ref 0, .ref 1, .ref 88, .int (nI i)]) (st1 := [.ref 1]) (σ1 := _) rfl ?_
  refine tw_cl1 rfl rfl (by decide) (hop σ hI) ?_
  rintro _ σ1 ⟨u, rfl, hE⟩
  show tw_P L xs _ 264 366 [.ref 0, .ref 1, .ref 88, .int (nI i)] [.int u] σ1 _
  refine tw_sg 1 (i1 := 367) (ls1 := [.ref 0, .ref 1, .ref 88, .int (nI i)]) (st1 := [.ref 88, .int u]) (σ1 := _) rfl ?_
  refine tw_cl1 rfl rfl (by decide) hE ?_
  rintro _ σ2 ⟨rfl, hI2⟩
  show tw_P L xs _ 264 368 [.ref 0, .ref 1, .ref 88, .int (nI i)] [.int u, .int u] σ2 _
  exact tw_biT (c := .eq) rfl (by rw [tw_ceq]) (kk σ2 hI2)
set_option maxRecDepth 100000 in
theorem tw_case17 (hI : tw_Inv σ) (hi : i + 4 ≤ L) (hL : L ≤ 2048) (hop : tw_op L xs 150 224 []) (kk : ∀ σ2, tw_Inv σ2 → tw_P L xs 100 264 873 [.ref 0, .ref 1, .ref 88, .int (nI i)] [] σ2 Q) : tw_P L xs 100 264 371 [.ref 0, .ref 1, .ref 88, .int (nI i)] [] σ Q := by
  refine tw_sg 1 (i1 := 372) (ls1 := [.ref 0, .ref 1, .ref 88, .int (nI i)]) (st1 := [.ref 1]) (σ1 := _) rfl ?_
  refine tw_cl1 rfl rfl (by decide) (hop σ hI) ?_
  rintro _ σ1 ⟨u, rfl, hE⟩
  show tw_P L xs _ 264 373 [.ref 0, .ref 1, .ref 88, .int (nI i)] [.int u] σ1 _
  refine tw_sg 1 (i1 := 374) (ls1 := [.ref 0, .ref 1, .ref 88, .int (nI i)]) (st1 := [.ref 88, .int u]) (σ1 := _) rfl ?_
  refine tw_cl1 rfl rfl (by decide) hE ?_
  rintro _ σ2 ⟨rfl, hI2⟩
  show tw_P L xs _ 264 375 [.ref 0, .ref 1, .ref 88, .int (nI i)] [.int u, .int u] σ2 _
  exact tw_biT (c := .eq) rfl (by rw [tw_ceq]) (kk σ2 hI2)
set_option maxRecDepth 100000 in
theorem tw_case18 (hI : tw_Inv σ) (hi : i + 4 ≤ L) (hL : L ≤ 2048) (hop : tw_op L xs 151 225 []) (kk : ∀ σ2, tw_Inv σ2 → tw_P L xs 100 264 873 [.ref 0, .ref 1, .ref 88, .int (nI i)] [] σ2 Q) : tw_P L xs 100 264 378 [.ref 0, .ref 1, .ref 88, .int (nI i)] [] σ Q := by
  refine tw_sg 1 (i1 := 379) (ls1 := [.ref 0, .ref 1, .ref 88, .int (nI i)]) (st1 := [.ref 1]) (σ1 := _) rfl ?_
  refine tw_cl1 rfl rfl (by decide) (hop σ hI) ?_
  rintro _ σ1 ⟨u, rfl, hE⟩
  show tw_P L xs _ 264 380 [.ref 0, .ref 1, .ref 88, .int (nI i)] [.int u] σ1 _
  refine tw_sg 1 (i1 := 381) (ls1 := [.ref 0, .ref 1, .ref 88, .int (nI i)]) (st1 := [.ref 88, .int u]) (σ1 := _) rfl ?_
  refine tw_cl1 rfl rfl (by decide) hE ?_
  rintro _ σ2 ⟨rfl, hI2⟩
  show tw_P L xs _ 264 382 [.ref 0, .ref 1, .ref 88, .int (nI i)] [.int u, .int u] σ2 _
  exact tw_biT (c := .eq) rfl (by rw [tw_ceq]) (kk σ2 hI2)
set_option maxRecDepth 100000 in
theorem tw_case19 (hI : tw_Inv σ) (hi : i + 4 ≤ L) (hL : L ≤ 2048) (hop : tw_op L xs 152 227 [.int (xs (i + 1)), .int (xs (i + 2))]) (kk : ∀ σ2, tw_Inv σ2 → tw_P L xs 100 264 873 [.ref 0, .ref 1, .ref 88, .int (nI i)] [] σ2 Q) : tw_P L xs 100 264 385 [.ref 0, .ref 1, .ref 88, .int (nI i)] [] σ Q := by
  refine tw_sgn 5 (i1 := 390) (ls0 := [.ref 0, .ref 1, .ref 88, .int (nI i)]) (st0 := [.int (nI i + nI 1), .ref 0, .ref 1]) (σ0 := _) (ls1 := [.ref 0, .ref 1, .ref 88, .int (nI i)]) (st1 := [.int (nI (i + 1)), .ref 0, .ref 1]) (σ1 := _) rfl rfl (by rw [tw_nadd]) rfl ?_
  refine tw_sl0 rfl rfl (by omega) hL ?_
  refine tw_sgn 4 (i1 := 395) (ls0 := [.ref 0, .ref 1, .ref 88, .int (nI i)]) (st0 := [.int (nI i + nI 2), .ref 0, .int (xs (i + 1)), .ref 1]) (σ0 := _) (ls1 := [.ref 0, .ref 1, .ref 88, .int (nI i)]) (st1 := [.int (nI (i + 2)), .ref 0, .int (xs (i + 1)), .ref 1]) (σ1 := _) rfl rfl (by rw [tw_nadd]) rfl ?_
  refine tw_sl0 rfl rfl (by omega) hL ?_
  refine tw_cl1 rfl rfl (by decide) (hop σ hI) ?_
  rintro _ σ1 ⟨u, rfl, hE⟩
  show tw_P L xs _ 264 397 [.ref 0, .ref 1, .ref 88, .int (nI i)] [.int u] σ1 _
  refine tw_sgn 5 (i1 := 402) (ls0 := [.ref 0, .ref 1, .ref 88, .int (nI i)]) (st0 := [.int (nI i + nI 1), .ref 0, .ref 88, .int u]) (σ0 := _) (ls1 := [.ref 0, .ref 1, .ref 88, .int (nI i)]) (st1 := [.int (nI (i + 1)), .ref 0, .ref 88, .int u]) (σ1 := _) rfl rfl (by rw [tw_nadd]) rfl ?_
  refine tw_sl0 rfl rfl (by omega) hL ?_
  refine tw_sgn 4 (i1 := 407) (ls0 := [.ref 0, .ref 1, .ref 88, .int (nI i)]) (st0 := [.int (nI i + nI 2), .ref 0, .int (xs (i + 1)), .ref 88, .int u]) (σ0 := _) (ls1 := [.ref 0, .ref 1, .ref 88, .int (nI i)]) (st1 := [.int (nI (i + 2)), .ref 0, .int (xs (i + 1)), .ref 88, .int u]) (σ1 := _) rfl rfl (by rw [tw_nadd]) rfl ?_
  refine tw_sl0 rfl rfl (by omega) hL ?_
  refine tw_cl1 rfl rfl (by decide) hE ?_
  rintro _ σ2 ⟨rfl, hI2⟩
  show tw_P L xs _ 264 409 [.ref 0, .ref 1, .ref 88, .int (nI i)] [.int u, .int u] σ2 _
  exact tw_biT (c := .eq) rfl (by rw [tw_ceq]) (kk σ2 hI2)
set_option maxRecDepth 100000 in
theorem tw_case20 (hI : tw_Inv σ) (hi : i + 4 ≤ L) (hL : L ≤ 2048) (hop : tw_op L xs 153 228 [.int (xs (i + 1)), .int (xs (i + 2)), .int (xs (i + 3))]) (kk : ∀ σ2, tw_Inv σ2 → tw_P L xs 100 264 873 [.ref 0, .ref 1, .ref 88, .int (nI i)] [] σ2 Q) : tw_P L xs 100 264 412 [.ref 0, .ref 1, .ref 88, .int (nI i)] [] σ Q := by
  refine tw_sgn 5 (i1 := 417) (ls0 := [.ref 0, .ref 1, .ref 88, .int (nI i)]) (st0 := [.int (nI i + nI 1), .ref 0, .ref 1]) (σ0 := _) (ls1 := [.ref 0, .ref 1, .ref 88, .int (nI i)]) (st1 := [.int (nI (i + 1)), .ref 0, .ref 1]) (σ1 := _) rfl rfl (by rw [tw_nadd]) rfl ?_
  refine tw_sl0 rfl rfl (by omega) hL ?_
  refine tw_sgn 4 (i1 := 422) (ls0 := [.ref 0, .ref 1, .ref 88, .int (nI i)]) (st0 := [.int (nI i + nI 2), .ref 0, .int (xs (i + 1)), .ref 1]) (σ0 := _) (ls1 := [.ref 0, .ref 1, .ref 88, .int (nI i)]) (st1 := [.int (nI (i + 2)), .ref 0, .int (xs (i + 1)), .ref 1]) (σ1 := _) rfl rfl (by rw [tw_nadd]) rfl ?_
  refine tw_sl0 rfl rfl (by omega) hL ?_
  refine tw_sgn 4 (i1 := 427) (ls0 := [.ref 0, .ref 1, .ref 88, .int (nI i)]) (st0 := [.int (nI i + nI 3), .ref 0, .int (xs (i + 2)), .int (xs (i + 1)), .ref 1]) (σ0 := _) (ls1 := [.ref 0, .ref 1, .ref 88, .int (nI i)]) (st1 := [.int (nI (i + 3)), .ref 0, .int (xs (i + 2)), .int (xs (i + 1)), .ref 1]) (σ1 := _) rfl rfl (by rw [tw_nadd]) rfl ?_
  refine tw_sl0 rfl rfl (by omega) hL ?_
  refine tw_cl1 rfl rfl (by decide) (hop σ hI) ?_
  rintro _ σ1 ⟨u, rfl, hE⟩
  show tw_P L xs _ 264 429 [.ref 0, .ref 1, .ref 88, .int (nI i)] [.int u] σ1 _
  refine tw_sgn 5 (i1 := 434) (ls0 := [.ref 0, .ref 1, .ref 88, .int (nI i)]) (st0 := [.int (nI i + nI 1), .ref 0, .ref 88, .int u]) (σ0 := _) (ls1 := [.ref 0, .ref 1, .ref 88, .int (nI i)]) (st1 := [.int (nI (i + 1)), .ref 0, .ref 88, .int u]) (σ1 := _) rfl rfl (by rw [tw_nadd]) rfl ?_
  refine tw_sl0 rfl rfl (by omega) hL ?_
  refine tw_sgn 4 (i1 := 439) (ls0 := [.ref 0, .ref 1, .ref 88, .int (nI i)]) (st0 := [.int (nI i + nI 2), .ref 0, .int (xs (i + 1)), .ref 88, .int u]) (σ0 := _) (ls1 := [.ref 0, .ref 1, .ref 88, .int (nI i)]) (st1 := [.int (nI (i + 2)), .ref 0, .int (xs (i + 1)), .ref 88, .int u]) (σ1 := _) rfl rfl (by rw [tw_nadd]) rfl ?_
  refine tw_sl0 rfl rfl (by omega) hL ?_
  refine tw_sgn 4 (i1 := 444) (ls0 := [.ref 0, .ref 1, .ref 88, .int (nI i)]) (st0 := [.int (nI i + nI 3), .ref 0, .int (xs (i + 2)), .int (xs (i + 1)), .ref 88, .int u]) (σ0 := _) (ls1 := [.ref 0, .ref 1, .ref 88, .int (nI i)]) (st1 := [.int (nI (i + 3)), .ref 0, .int (xs (i + 2)), .int (xs (i + 1)), .ref 88, .int u]) (σ1 := _) rfl rfl (by rw [tw_nadd]) rfl ?_
  refine tw_sl0 rfl rfl (by omega) hL ?_
  refine tw_cl1 rfl rfl (by decide) hE ?_
  rintro _ σ2 ⟨rfl, hI2⟩
  show tw_P L xs _ 264 446 [.ref 0, .ref 1, .ref 88, .int (nI i)] [.int u, .int u] σ2 _
  exact tw_biT (c := .eq) rfl (by rw [tw_ceq]) (kk σ2 hI2)
set_option maxRecDepth 100000 in
theorem tw_case21 (hI : tw_Inv σ) (hi : i + 4 ≤ L) (hL : L ≤ 2048) (hop : tw_op L xs 154 229 [.int (xs (i + 1))]) (kk : ∀ σ2, tw_Inv σ2 → tw_P L xs 100 264 873 [.ref 0, .ref 1, .ref 88, .int (nI i)] [] σ2 Q) : tw_P L xs 100 264 449 [.ref 0, .ref 1, .ref 88, .int (nI i)] [] σ Q := by
  refine tw_sgn 5 (i1 := 454) (ls0 := [.ref 0, .ref 1, .ref 88, .int (nI i)]) (st0 := [.int (nI i + nI 1), .ref 0, .ref 1]) (σ0 := _) (ls1 := [.ref 0, .ref 1, .ref 88, .int (nI i)]) (st1 := [.int (nI (i + 1)), .ref 0, .ref 1]) (σ1 := _) rfl rfl (by rw [tw_nadd]) rfl ?_
  refine tw_sl0 rfl rfl (by omega) hL ?_
  refine tw_cl1 rfl rfl (by decide) (hop σ hI) ?_
  rintro _ σ1 ⟨u, rfl, hE⟩
  show tw_P L xs _ 264 456 [.ref 0, .ref 1, .ref 88, .int (nI i)] [.int u] σ1 _
  refine tw_sgn 5 (i1 := 461) (ls0 := [.ref 0, .ref 1, .ref 88, .int (nI i)]) (st0 := [.int (nI i + nI 1), .ref 0, .ref 88, .int u]) (σ0 := _) (ls1 := [.ref 0, .ref 1, .ref 88, .int (nI i)]) (st1 := [.int (nI (i + 1)), .ref 0, .ref 88, .int u]) (σ1 := _) rfl rfl (by rw [tw_nadd]) rfl ?_
  refine tw_sl0 rfl rfl (by omega) hL ?_
  refine tw_cl1 rfl rfl (by decide) hE ?_
  rintro _ σ2 ⟨rfl, hI2⟩
  show tw_P L xs _ 264 463 [.ref 0, .ref 1, .ref 88, .int (nI i)] [.int u, .int u] σ2 _
  exact tw_biT (c := .eq) rfl (by rw [tw_ceq]) (kk σ2 hI2)
set_option maxRecDepth 100000 in
theorem tw_case22 (hI : tw_Inv σ) (hi : i + 4 ≤ L) (hL : L ≤ 2048) (hop : tw_op L xs 155 233 [.int (xs (i + 1)), .int (xs (i + 2))]) (kk : ∀ σ2, tw_Inv σ2 → tw_P L xs 100 264 873 [.ref 0, .ref 1, .ref 88, .int (nI i)] [] σ2 Q) : tw_P L xs 100 264 466 [.ref 0, .ref 1, .ref 88, .int (nI i)] [] σ Q := by
  refine tw_sgn 5 (i1 := 471) (ls0 := [.ref 0, .ref 1, .ref 88, .int (nI i)]) (st0 := [.int (nI i + nI 1), .ref 0, .ref 1]) (σ0 := _) (ls1 := [.ref 0, .ref 1, .ref 88, .int (nI i)]) (st1 := [.int (nI (i + 1)), .ref 0, .ref 1]) (σ1 := _) rfl rfl (by rw [tw_nadd]) rfl ?_
  refine tw_sl0 rfl rfl (by omega) hL ?_
  refine tw_sgn 4 (i1 := 476) (ls0 := [.ref 0, .ref 1, .ref 88, .int (nI i)]) (st0 := [.int (nI i + nI 2), .ref 0, .int (xs (i + 1)), .ref 1]) (σ0 := _) (ls1 := [.ref 0, .ref 1, .ref 88, .int (nI i)]) (st1 := [.int (nI (i + 2)), .ref 0, .int (xs (i + 1)), .ref 1]) (σ1 := _) rfl rfl (by rw [tw_nadd]) rfl ?_
  refine tw_sl0 rfl rfl (by omega) hL ?_
  refine tw_cl1 rfl rfl (by decide) (hop σ hI) ?_
  rintro _ σ1 ⟨u, rfl, hE⟩
  show tw_P L xs _ 264 478 [.ref 0, .ref 1, .ref 88, .int (nI i)] [.int u] σ1 _
  refine tw_sgn 5 (i1 := 483) (ls0 := [.ref 0, .ref 1, .ref 88, .int (nI i)]) (st0 := [.int (nI i + nI 1), .ref 0, .ref 88, .int u]) (σ0 := _) (ls1 := [.ref 0, .ref 1, .ref 88, .int (nI i)]) (st1 := [.int (nI (i + 1)), .ref 0, .ref 88, .int u]) (σ1 := _) rfl rfl (by rw [tw_nadd]) rfl ?_
  refine tw_sl0 rfl rfl (by omega) hL ?_
  refine tw_sgn 4 (i1 := 488) (ls0 := [.ref 0, .ref 1, .ref 88, .int (nI i)]) (st0 := [.int (nI i + nI 2), .ref 0, .int (xs (i + 1)), .ref 88, .int u]) (σ0 := _) (ls1 := [.ref 0, .ref 1, .ref 88, .int (nI i)]) (st1 := [.int (nI (i + 2)), .ref 0, .int (xs (i + 1)), .ref 88, .int u]) (σ1 := _) rfl rfl (by rw [tw_nadd]) rfl ?_
  refine tw_sl0 rfl rfl (by omega) hL ?_
  refine tw_cl1 rfl rfl (by decide) hE ?_
  rintro _ σ2 ⟨rfl, hI2⟩
  show tw_P L xs _ 264 490 [.ref 0, .ref 1, .ref 88, .int (nI i)] [.int u, .int u] σ2 _
  exact tw_biT (c := .eq) rfl (by rw [tw_ceq]) (kk σ2 hI2)
set_option maxRecDepth 100000 in
theorem tw_case23 (hI : tw_Inv σ) (hi : i + 4 ≤ L) (hL : L ≤ 2048) (hop : tw_op L xs 156 234 [.int (xs (i + 1))]) (kk : ∀ σ2, tw_Inv σ2 → tw_P L xs 100 264 873 [.ref 0, .ref 1, .ref 88, .int (nI i)] [] σ2 Q) : tw_P L xs 100 264 493 [.ref 0, .ref 1, .ref 88, .int (nI i)] [] σ Q := by
  refine tw_sgn 5 (i1 := 498) (ls0 := [.ref 0, .ref 1, .ref 88, .int (nI i)]) (st0 := [.int (nI i + nI 1), .ref 0, .ref 1]) (σ0 := _) (ls1 := [.ref 0, .ref 1, .ref 88, .int (nI i)]) (st1 := [.int (nI (i + 1)), .ref 0, .ref 1]) (σ1 := _) rfl rfl (by rw [tw_nadd]) rfl ?_
  refine tw_sl0 rfl rfl (by omega) hL ?_
  refine tw_cl1 rfl rfl (by decide) (hop σ hI) ?_
  rintro _ σ1 ⟨u, rfl, hE⟩
  show tw_P L xs _ 264 500 [.ref 0, .ref 1, .ref 88, .int (nI i)] [.int u] σ1 _
  refine tw_sgn 5 (i1 := 505) (ls0 := [.ref 0, .ref 1, .ref 88, .int (nI i)]) (st0 := [.int (nI i + nI 1), .ref 0, .ref 88, .int u]) (σ0 := _) (ls1 := [.ref 0, .ref 1, .ref 88, .int (nI i)]) (st1 := [.int (nI (i + 1)), .ref 0, .ref 88, .int u]) (σ1 := _) rfl rfl (by rw [tw_nadd]) rfl ?_
  refine tw_sl0 rfl rfl (by omega) hL ?_
  refine tw_cl1 rfl rfl (by decide) hE ?_
  rintro _ σ2 ⟨rfl, hI2⟩
  show tw_P L xs _ 264 507 [.ref 0, .ref 1, .ref 88, .int (nI i)] [.int u, .int u] σ2 _
  exact tw_biT (c := .eq) rfl (by rw [tw_ceq]) (kk σ2 hI2)
set_option maxRecDepth 100000 in
theorem tw_case24 (hI : tw_Inv σ) (hi : i + 4 ≤ L) (hL : L ≤ 2048) (hop : tw_op L xs 158 235 []) (kk : ∀ σ2, tw_Inv σ2 → tw_P L xs 100 264 873 [.ref 0, .ref 1, .ref 88, .int (nI i)] [] σ2 Q) : tw_P L xs 100 264 510 [.ref 0, .ref 1, .ref 88, .int (nI i)] [] σ Q := by
  refine tw_sg 1 (i1 := 511) (ls1 := [.ref 0, .ref 1, .ref 88, .int (nI i)]) (st1 := [.ref 1]) (σ1 := _) rfl ?_
  refine tw_cl1 rfl rfl (by decide) (hop σ hI) ?_
  rintro _ σ1 ⟨u, rfl, hE⟩
  show tw_P L xs _ 264 512 [.ref 0, .ref 1, .ref 88, .int (nI i)] [.int u] σ1 _
  refine tw_sg 1 (i1 := 513) (ls1 := [.ref 0, .ref 1, .ref 88, .int (nI i)]) (st1 := [.ref 88, .int u]) (σ1 := _) rfl ?_
  refine tw_cl1 rfl rfl (by decide) hE ?_
  rintro _ σ2 ⟨rfl, hI2⟩
  show tw_P L xs _ 264 514 [.ref 0, .ref 1, .ref 88, .int (nI i)] [.int u, .int u] σ2 _
  exact tw_biT (c := .eq) rfl (by rw [tw_ceq]) (kk σ2 hI2)
set_option maxRecDepth 100000 in
theorem tw_case25 (hI : tw_Inv σ) (hi : i + 4 ≤ L) (hL : L ≤ 2048) (hop : tw_op L xs 159 236 [.int (xs (i + 1))]) (kk : ∀ σ2, tw_Inv σ2 → tw_P L xs 100 264 873 [.ref 0, .ref 1, .ref 88, .int (nI i)] [] σ2 Q) : tw_P L xs 100 264 517 [.ref 0, .ref 1, .ref 88, .int (nI i)] [] σ Q := by
  refine tw_sgn 5 (i1 := 522) (ls0 := [.ref 0, .ref 1, .ref 88, .int (nI i)]) (st0 := [.int (nI i + nI 1), .ref 0, .ref 1]) (σ0 := _) (ls1 := [.ref 0, .ref 1, .ref 88, .int (nI i)]) (st1 := [.int (nI (i + 1)), .ref 0, .ref 1]) (σ1 := _) rfl rfl (by rw [tw_nadd]) rfl ?_
  refine tw_sl0 rfl rfl (by omega) hL ?_
  refine tw_cl1 rfl rfl (by decide) (hop σ hI) ?_
  rintro _ σ1 ⟨u, rfl, hE⟩
  show tw_P L xs _ 264 524 [.ref 0, .ref 1, .ref 88, .int (nI i)] [.int u] σ1 _
  refine tw_sgn 5 (i1 := 529) (ls0 := [.ref 0, .ref 1, .ref 88, .int (nI i)]) (st0 := [.int (nI i + nI 1), .ref 0, .ref 88, .int u]) (σ0 := _) (ls1 := [.ref 0, .ref 1, .ref 88, .int (nI i)]) (st1 := [.int (nI (i + 1)), .ref 0, .ref 88, .int u]) (σ1 := _) rfl rfl (by rw [tw_nadd]) rfl ?_
  refine tw_sl0 rfl rfl (by omega) hL ?_
  refine tw_cl1 rfl rfl (by decide) hE ?_
  rintro _ σ2 ⟨rfl, hI2⟩
  show tw_P L xs _ 264 531 [.ref 0, .ref 1, .ref 88, .int (nI i)] [.int u, .int u] σ2 _
  exact tw_biT (c := .eq) rfl (by rw [tw_ceq]) (kk σ2 hI2)
set_option maxRecDepth 100000 in
theorem tw_case26 (hI : tw_Inv σ) (hi : i + 4 ≤ L) (hL : L ≤ 2048) (hop : tw_op L xs 160 238 []) (kk : ∀ σ2, tw_Inv σ2 → tw_P L xs 100 264 873 [.ref 0, .ref 1, .ref 88, .int (nI i)] [] σ2 Q) : tw_P L xs 100 264 534 [.ref 0, .ref 1, .ref 88, .int (nI i)] [] σ Q := by
  refine tw_sg 1 (i1 := 535) (ls1 := [.ref 0, .ref 1, .ref 88, .int (nI i)]) (st1 := [.ref 1]) (σ1 := _) rfl ?_
  refine tw_cl1 rfl rfl (by decide) (hop σ hI) ?_
  rintro _ σ1 ⟨u, rfl, hE⟩
  show tw_P L xs _ 264 536 [.ref 0, .ref 1, .ref 88, .int (nI i)] [.int u] σ1 _
  refine tw_sg 1 (i1 := 537) (ls1 := [.ref 0, .ref 1, .ref 88, .int (nI i)]) (st1 := [.ref 88, .int u]) (σ1 := _) rfl ?_
  refine tw_cl1 rfl rfl (by decide) hE ?_
  rintro _ σ2 ⟨rfl, hI2⟩
  show tw_P L xs _ 264 538 [.ref 0, .ref 1, .ref 88, .int (nI i)] [.int u, .int u] σ2 _
  exact tw_biT (c := .eq) rfl (by rw [tw_ceq]) (kk σ2 hI2)
set_option maxRecDepth 100000 in
theorem tw_case27 (hI : tw_Inv σ) (hi : i + 4 ≤ L) (hL : L ≤ 2048) (hop : tw_op L xs 161 239 []) (kk : ∀ σ2, tw_Inv σ2 → tw_P L xs 100 264 873 [.ref 0, .ref 1, .ref 88, .int (nI i)] [] σ2 Q) : tw_P L xs 100 264 541 [.ref 0, .ref 1, .ref 88, .int (nI i)] [] σ Q := by
  refine tw_sg 1 (i1 := 542) (ls1 := [.ref 0, .ref 1, .ref 88, .int (nI i)]) (st1 := [.ref 1]) (σ1 := _) rfl ?_
  refine tw_cl1 rfl rfl (by decide) (hop σ hI) ?_
  rintro _ σ1 ⟨u, rfl, hE⟩
  show tw_P L xs _ 264 543 [.ref 0, .ref 1, .ref 88, .int (nI i)] [.int u] σ1 _
  refine tw_sg 1 (i1 := 544) (ls1 := [.ref 0, .ref 1, .ref 88, .int (nI i)]) (st1 := [.ref 88, .int u]) (σ1 := _) rfl ?_
  refine tw_cl1 rfl rfl (by decide) hE ?_
  rintro _ σ2 ⟨rfl, hI2⟩
  show tw_P L xs _ 264 545 [.ref 0, .ref 1, .ref 88, .int (nI i)] [.int u, .int u] σ2 _
  exact tw_biT (c := .eq) rfl (by rw [tw_ceq]) (kk σ2 hI2)
set_option maxRecDepth 100000 in
theorem tw_case28 (hI : tw_Inv σ) (hi : i + 4 ≤ L) (hL : L ≤ 2048) (hop : tw_op L xs 162 240 [.int (xs (i + 1))]) (kk : ∀ σ2, tw_Inv σ2 → tw_P L xs 100 264 873 [.ref 0, .ref 1, .ref 88, .int (nI i)] [] σ2 Q) : tw_P L xs 100 264 548 [.ref 0, .ref 1, .ref 88, .int (nI i)] [] σ Q := by
  refine tw_sgn 5 (i1 := 553) (ls0 := [.ref 0, .ref 1, .ref 88, .int (nI i)]) (st0 := [.int (nI i + nI 1), .ref 0, .ref 1]) (σ0 := _) (ls1 := [.ref 0, .ref 1, .ref 88, .int (nI i)]) (st1 := [.int (nI (i + 1)), .ref 0, .ref 1]) (σ1 := _) rfl rfl (by rw [tw_nadd]) rfl ?_
  refine tw_sl0 rfl rfl (by omega) hL ?_
  refine tw_cl1 rfl rfl (by decide) (hop σ hI) ?_
  rintro _ σ1 ⟨u, rfl, hE⟩
  show tw_P L xs _ 264 555 [.ref 0, .ref 1, .ref 88, .int (nI i)] [.int u] σ1 _
  refine tw_sgn 5 (i1 := 560) (ls0 := [.ref 0, .ref 1, .ref 88, .int (nI i)]) (st0 := [.int (nI i + nI 1), .ref 0, .ref 88, .int u]) (σ0 := _) (ls1 := [.ref 0, .ref 1, .ref 88, .int (nI i)]) (st1 := [.int (nI (i + 1)), .ref 0, .ref 88, .int u]) (σ1 := _) rfl rfl (by rw [tw_nadd]) rfl ?_
  refine tw_sl0 rfl rfl (by omega) hL ?_
  refine tw_cl1 rfl rfl (by decide) hE ?_
  rintro _ σ2 ⟨rfl, hI2⟩
  show tw_P L xs _ 264 562 [.ref 0, .ref 1, .ref 88, .int (nI i)] [.int u, .int u] σ2 _
  exact tw_biT (c := .eq) rfl (by rw [tw_ceq]) (kk σ2 hI2)
set_option maxRecDepth 100000 in
theorem tw_case29 (hI : tw_Inv σ) (hi : i + 4 ≤ L) (hL : L ≤ 2048) (hop : tw_op L xs 163 242 [.int (xs (i + 1)), .int (xs (i + 2))]) (kk : ∀ σ2, tw_Inv σ2 → tw_P L xs 100 264 873 [.ref 0, .ref 1, .ref 88, .int (nI i)] [] σ2 Q) : tw_P L xs 100 264 565 [.ref 0, .ref 1, .ref 88, .int (nI i)] [] σ Q := by
  refine tw_sgn 5 (i1 := 570) (ls0 := [.ref 0, .ref 1, .ref 88, .int (nI i)]) (st0 := [.int (nI i + nI 1), .ref 0, .ref 1]) (σ0 := _) (ls1 := [.ref 0, .ref 1, .ref 88, .int (nI i)]) (st1 := [.int (nI (i + 1)), .ref 0, .ref 1]) (σ1 := _) rfl rfl (by rw [tw_nadd]) rfl ?_
  refine tw_sl0 rfl rfl (by omega) hL ?_
  refine tw_sgn 4 (i1 := 575) (ls0 := [.ref 0, .ref 1, .ref 88, .int (nI i)]) (st0 := [.int (nI i + nI 2), .ref 0, .int (xs (i + 1)), .ref 1]) (σ0 := _) (ls1 := [.ref 0, .ref 1, .ref 88, .int (nI i)]) (st1 := [.int (nI (i + 2)), .ref 0, .int (xs (i + 1)), .ref 1]) (σ1 := _) rfl rfl (by rw [tw_nadd]) rfl ?_
  refine tw_sl0 rfl rfl (by omega) hL ?_
  refine tw_cl1 rfl rfl (by decide) (hop σ hI) ?_
  rintro _ σ1 ⟨u, rfl, hE⟩
  show tw_P L xs _ 264 577 [.ref 0, .ref 1, .ref 88, .int (nI i)] [.int u] σ1 _
  refine tw_sgn 5 (i1 := 582) (ls0 := [.ref 0, .ref 1, .ref 88, .int (nI i)]) (st0 := [.int (nI i + nI 1), .ref 0, .ref 88, .int u]) (σ0 := _) (ls1 := [.ref 0, .ref 1, .ref 88, .int (nI i)]) (st1 := [.int (nI (i + 1)), .ref 0, .ref 88, .int u]) (σ1 := _) rfl rfl (by rw [tw_nadd]) rfl ?_
  refine tw_sl0 rfl rfl (by omega) hL ?_
  refine tw_sgn 4 (i1 := 587) (ls0 := [.ref 0, .ref 1, .ref 88, .int (nI i)]) (st0 := [.int (nI i + nI 2), .ref 0, .int (xs (i + 1)), .ref 88, .int u]) (σ0 := _) (ls1 := [.ref 0, .ref 1, .ref 88, .int (nI i)]) (st1 := [.int (nI (i + 2)), .ref 0, .int (xs (i + 1)), .ref 88, .int u]) (σ1 := _) rfl rfl (by rw [tw_nadd]) rfl ?_
  refine tw_sl0 rfl rfl (by omega) hL ?_
  refine tw_cl1 rfl rfl (by decide) hE ?_
  rintro _ σ2 ⟨rfl, hI2⟩
  show tw_P L xs _ 264 589 [.ref 0, .ref 1, .ref 88, .int (nI i)] [.int u, .int u] σ2 _
  exact tw_biT (c := .eq) rfl (by rw [tw_ceq]) (kk σ2 hI2)
set_option maxRecDepth 100000 in
theorem tw_case30 (hI : tw_Inv σ) (hi : i + 4 ≤ L) (hL : L ≤ 2048) (hop : tw_op L xs 164 244 [.int (xs (i + 1))]) (kk : ∀ σ2, tw_Inv σ2 → tw_P L xs 100 264 873 [.ref 0, .ref 1, .ref 88, .int (nI i)] [] σ2 Q) : tw_P L xs 100 264 592 [.ref 0, .ref 1, .ref 88, .int (nI i)] [] σ Q := by
  refine tw_sgn 5 (i1 := 597) (ls0 := [.ref 0, .ref 1, .ref 88, .int (nI i)]) (st0 := [.int (nI i + nI 1), .ref 0, .ref 1]) (σ0 := _) (ls1 := [.ref 0, .ref 1, .ref 88, .int (nI i)]) (st1 := [.int (nI (i + 1)), .ref 0, .ref 1]) (σ1 := _) rfl rfl (by rw [tw_nadd]) rfl ?_
  refine tw_sl0 rfl rfl (by omega) hL ?_
  refine tw_cl1 rfl rfl (by decide) (hop σ hI) ?_
  rintro _ σ1 ⟨u, rfl, hE⟩
  show tw_P L xs _ 264 599 [.ref 0, .ref 1, .ref 88, .int (nI i)] [.int u] σ1 _
  refine tw_sgn 5 (i1 := 604) (ls0 := [.ref 0, .ref 1, .ref 88, .int (nI i)]) (st0 := [.int (nI i + nI 1), .ref 0, .ref 88, .int u]) (σ0 := _) (ls1 := [.ref 0, .ref 1, .ref 88, .int (nI i)]) (st1 := [.int (nI (i + 1)), .ref 0, .ref 88, .int u]) (σ1 := _) rfl rfl (by rw [tw_nadd]) rfl ?_
  refine tw_sl0 rfl rfl (by omega) hL ?_
  refine tw_cl1 rfl rfl (by decide) hE ?_
  rintro _ σ2 ⟨rfl, hI2⟩
  show tw_P L xs _ 264 606 [.ref 0, .ref 1, .ref 88, .int (nI i)] [.int u, .int u] σ2 _
  exact tw_biT (c := .eq) rfl (by rw [tw_ceq]) (kk σ2 hI2)
set_option maxRecDepth 100000 in
theorem tw_case31 (hI : tw_Inv σ) (hi : i + 4 ≤ L) (hL : L ≤ 2048) (hop : tw_op L xs 165 245 [.int (xs (i + 1)), .int (xs (i + 2))]) (kk : ∀ σ2, tw_Inv σ2 → tw_P L xs 100 264 873 [.ref 0, .ref 1, .ref 88, .int (nI i)] [] σ2 Q) : tw_P L xs 100 264 609 [.ref 0, .ref 1, .ref 88, .int (nI i)] [] σ Q := by
  refine tw_sgn 5 (i1 := 614) (ls0 := [.ref 0, .ref 1, .ref 88, .int (nI i)]) (st0 := [.int (nI i + nI 1), .ref 0, .ref 1]) (σ0 := _) (ls1 := [.ref 0, .ref 1, .ref 88, .int (nI i)]) (st1 := [.int (nI (i + 1)), .ref 0, .ref 1]) (σ1 := _) rfl rfl (by rw [tw_nadd]) rfl ?_
  refine tw_sl0 rfl rfl (by omega) hL ?_
  refine tw_sgn 4 (i1 := 619) (ls0 := [.ref 0, .ref 1, .ref 88, .int (nI i)]) (st0 := [.int (nI i + nI 2), .ref 0, .int (xs (i + 1)), .ref 1]) (σ0 := _) (ls1 := [.ref 0, .ref 1, .ref 88, .int (nI i)]) (st1 := [.int (nI (i + 2)), .ref 0, .int (xs (i + 1)), .ref 1]) (σ1 := _) rfl rfl (by rw [tw_nadd]) rfl ?_
  refine tw_sl0 rfl rfl (by omega) hL ?_
  refine tw_cl1 rfl rfl (by decide) (hop σ hI) ?_
  rintro _ σ1 ⟨u, rfl, hE⟩
  show tw_P L xs _ 264 621 [.ref 0, .ref 1, .ref 88, .int (nI i)] [.int u] σ1 _
  refine tw_sgn 5 (i1 := 626) (ls0 := [.ref 0, .ref 1, .ref 88, .int (nI i)]) (st0 := [.int (nI i + nI 1), .ref 0, .ref 88, .int u]) (σ0 := _) (ls1 := [.ref 0, .ref 1, .ref 88, .int (nI i)]) (st1 := [.int (nI (i + 1)), .ref 0, .ref 88, .int u]) (σ1 := _) rfl rfl (by rw [tw_nadd]) rfl ?_
  refine tw_sl0 rfl rfl (by omega) hL ?_
  refine tw_sgn 4 (i1 := 631) (ls0 := [.ref 0, .ref 1, .ref 88, .int (nI i)]) (st0 := [.int (nI i + nI 2), .ref 0, .int (xs (i + 1)), .ref 88, .int u]) (σ0 := _) (ls1 := [.ref 0, .ref 1, .ref 88, .int (nI i)]) (st1 := [.int (nI (i + 2)), .ref 0, .int (xs (i + 1)), .ref 88, .int u]) (σ1 := _) rfl rfl (by rw [tw_nadd]) rfl ?_
  refine tw_sl0 rfl rfl (by omega) hL ?_
  refine tw_cl1 rfl rfl (by decide) hE ?_
  rintro _ σ2 ⟨rfl, hI2⟩
  show tw_P L xs _ 264 633 [.ref 0, .ref 1, .ref 88, .int (nI i)] [.int u, .int u] σ2 _
  exact tw_biT (c := .eq) rfl (by rw [tw_ceq]) (kk σ2 hI2)
set_option maxRecDepth 100000 in
theorem tw_case32 (hI : tw_Inv σ) (hi : i + 4 ≤ L) (hL : L ≤ 2048) (hop : tw_op L xs 166 246 [.int (xs (i + 1))]) (kk : ∀ σ2, tw_Inv σ2 → tw_P L xs 100 264 873 [.ref 0, .ref 1, .ref 88, .int (nI i)] [] σ2 Q) : tw_P L xs 100 264 636 [.ref 0, .ref 1, .ref 88, .int (nI i)] [] σ Q := by
  refine tw_sgn 5 (i1 := 641) (ls0 := [.ref 0, .ref 1, .ref 88, .int (nI i)]) (st0 := [.int (nI i + nI 1), .ref 0, .ref 1]) (σ0 := _) (ls1 := [.ref 0, .ref 1, .ref 88, .int (nI i)]) (st1 := [.int (nI (i + 1)), .ref 0, .ref 1]) (σ1 := _) rfl rfl (by rw [tw_nadd]) rfl ?_
  refine tw_sl0 rfl rfl (by omega) hL ?_
  refine tw_cl1 rfl rfl (by decide) (hop σ hI) ?_
  rintro _ σ1 ⟨u, rfl, hE⟩
  show tw_P L xs _ 264 643 [.ref 0, .ref 1, .ref 88, .int (nI i)] [.int u] σ1 _
  refine tw_sgn 5 (i1 := 648) (ls0 := [.ref 0, .ref 1, .ref 88, .int (nI i)]) (st0 := [.int (nI i + nI 1), .ref 0, .ref 88, .int u]) (σ0 := _) (ls1 := [.ref 0, .ref 1, .ref 88, .int (nI i)]) (st1 := [.int (nI (i + 1)), .ref 0, .ref 88, .int u]) (σ1 := _) rfl rfl (by rw [tw_nadd]) rfl ?_
  refine tw_sl0 rfl rfl (by omega) hL ?_
  refine tw_cl1 rfl rfl (by decide) hE ?_
  rintro _ σ2 ⟨rfl, hI2⟩
  show tw_P L xs _ 264 650 [.ref 0, .ref 1, .ref 88, .int (nI i)] [.int u, .int u] σ2 _
  exact tw_biT (c := .eq) rfl (by rw [tw_ceq]) (kk σ2 hI2)
set_option maxRecDepth 100000 in
theorem tw_case33 (hI : tw_Inv σ) (hi : i + 4 ≤ L) (hL : L ≤ 2048) (hop : tw_op L xs 167 247 []) (kk : ∀ σ2, tw_Inv σ2 → tw_P L xs 100 264 873 [.ref 0, .ref 1, .ref 88, .int (nI i)] [] σ2 Q) : tw_P L xs 100 264 653 [.ref 0, .ref 1, .ref 88, .int (nI i)] [] σ Q := by
  refine tw_sg 1 (i1 := 654) (ls1 := [.ref 0, .ref 1, .ref 88, .int (nI i)]) (st1 := [.ref 1]) (σ1 := _) rfl ?_
  refine tw_cl1 rfl rfl (by decide) (hop σ hI) ?_
  rintro _ σ1 ⟨u, rfl, hE⟩
  show tw_P L xs _ 264 655 [.ref 0, .ref 1, .ref 88, .int (nI i)] [.int u] σ1 _
  refine tw_sg 1 (i1 := 656) (ls1 := [.ref 0, .ref 1, .ref 88, .int (nI i)]) (st1 := [.ref 88, .int u]) (σ1 := _) rfl ?_
  refine tw_cl1 rfl rfl (by decide) hE ?_
  rintro _ σ2 ⟨rfl, hI2⟩
  show tw_P L xs _ 264 657 [.ref 0, .ref 1, .ref 88, .int (nI i)] [.int u, .int u] σ2 _
  exact tw_biT (c := .eq) rfl (by rw [tw_ceq]) (kk σ2 hI2)
set_option maxRecDepth 100000 in
theorem tw_case34 (hI : tw_Inv σ) (hi : i + 4 ≤ L) (hL : L ≤ 2048) (hop : tw_op L xs 168 248 [.int (xs (i + 1))]) (kk : ∀ σ2, tw_Inv σ2 → tw_P L xs 100 264 873 [.ref 0, .ref 1, .ref 88, .int (nI i)] [] σ2 Q) : tw_P L xs 100 264 660 [.ref 0, .ref 1, .ref 88, .int (nI i)] [] σ Q := by
  refine tw_sgn 5 (i1 := 665) (ls0 := [.ref 0, .ref 1, .ref 88, .int (nI i)]) (st0 := [.int (nI i + nI 1), .ref 0, .ref 1]) (σ0 := _) (ls1 := [.ref 0, .ref 1, .ref 88, .int (nI i)]) (st1 := [.int (nI (i + 1)), .ref 0, .ref 1]) (σ1 := _) rfl rfl (by rw [tw_nadd]) rfl ?_
  refine tw_sl0 rfl rfl (by omega) hL ?_
  refine tw_cl1 rfl rfl (by decide) (hop σ hI) ?_
  rintro _ σ1 ⟨u, rfl, hE⟩
  show tw_P L xs _ 264 667 [.ref 0, .ref 1, .ref 88, .int (nI i)] [.int u] σ1 _
  refine tw_sgn 5 (i1 := 672) (ls0 := [.ref 0, .ref 1, .ref 88, .int (nI i)]) (st0 := [.int (nI i + nI 1), .ref 0, .ref 88, .int u]) (σ0 := _) (ls1 := [.ref 0, .ref 1, .ref 88, .int (nI i)]) (st1 := [.int (nI (i + 1)), .ref 0, .ref 88, .int u]) (σ1 := _) rfl rfl (by rw [tw_nadd]) rfl ?_
  refine tw_sl0 rfl rfl (by omega) hL ?_
  refine tw_cl1 rfl rfl (by decide) hE ?_
  rintro _ σ2 ⟨rfl, hI2⟩
  show tw_P L xs _ 264 674 [.ref 0, .ref 1, .ref 88, .int (nI i)] [.int u, .int u] σ2 _
  exact tw_biT (c := .eq) rfl (by rw [tw_ceq]) (kk σ2 hI2)
set_option maxRecDepth 100000 in
theorem tw_case35 (hI : tw_Inv σ) (hi : i + 4 ≤ L) (hL : L ≤ 2048) (hop : tw_op L xs 169 249 [.int (xs (i + 1))]) (kk : ∀ σ2, tw_Inv σ2 → tw_P L xs 100 264 873 [.ref 0, .ref 1, .ref 88, .int (nI i)] [] σ2 Q) : tw_P L xs 100 264 677 [.ref 0, .ref 1, .ref 88, .int (nI i)] [] σ Q := by
  refine tw_sgn 5 (i1 := 682) (ls0 := [.ref 0, .ref 1, .ref 88, .int (nI i)]) (st0 := [.int (nI i + nI 1), .ref 0, .ref 1]) (σ0 := _) (ls1 := [.ref 0, .ref 1, .ref 88, .int (nI i)]) (st1 := [.int (nI (i + 1)), .ref 0, .ref 1]) (σ1 := _) rfl rfl (by rw [tw_nadd]) rfl ?_
  refine tw_sl0 rfl rfl (by omega) hL ?_
  refine tw_cl1 rfl rfl (by decide) (hop σ hI) ?_
  rintro _ σ1 ⟨u, rfl, hE⟩
  show tw_P L xs _ 264 684 [.ref 0, .ref 1, .ref 88, .int (nI i)] [.int u] σ1 _
  refine tw_sgn 5 (i1 := 689) (ls0 := [.ref 0, .ref 1, .ref 88, .int (nI i)]) (st0 := [.int (nI i + nI 1), .ref 0, .ref 88, .int u]) (σ0 := _) (ls1 := [.ref 0, .ref 1, .ref 88, .int (nI i)]) (st1 := [.int (nI (i + 1)), .ref 0, .ref 88, .int u]) (σ1 := _) rfl rfl (by rw [tw_nadd]) rfl ?_
  refine tw_sl0 rfl rfl (by omega) hL ?_
  refine tw_cl1 rfl rfl (by decide) hE ?_
  rintro _ σ2 ⟨rfl, hI2⟩
  show tw_P L xs _ 264 691 [.ref 0, .ref 1, .ref 88, .int (nI i)] [.int u, .int u] σ2 _
  exact tw_biT (c := .eq) rfl (by rw [tw_ceq]) (kk σ2 hI2)
set_option maxRecDepth 100000 in
theorem tw_case36 (hI : tw_Inv σ) (hi : i + 4 ≤ L) (hL : L ≤ 2048) (hop : tw_op L xs 170 251 [.int (xs (i + 1)), .int (xs (i + 2))]) (kk : ∀ σ2, tw_Inv σ2 → tw_P L xs 100 264 873 [.ref 0, .ref 1, .ref 88, .int (nI i)] [] σ2 Q) : tw_P L xs 100 264 694 [.ref 0, .ref 1, .ref 88, .int (nI i)] [] σ Q := by
  refine tw_sgn 5 (i1 := 699) (ls0 := [.ref 0, .ref 1, .ref 88, .int (nI i)]) (st0 := [.int (nI i + nI 1), .ref 0, .ref 1]) (σ0 := _) (ls1 := [.ref 0, .ref 1, .ref 88, .int (nI i)]) (st1 := [.int (nI (i + 1)), .ref 0, .ref 1]) (σ1 := _) rfl rfl (by rw [tw_nadd]) rfl ?_
  refine tw_sl0 rfl rfl (by omega) hL ?_
  refine tw_sgn 4 (i1 := 704) (ls0 := [.ref 0, .ref 1, .ref 88, .int (nI i)]) (st0 := [.int (nI i + nI 2), .ref 0, .int (xs (i + 1)), .ref 1]) (σ0 := _) (ls1 := [.ref 0, .ref 1, .ref 88, .int (nI i)]) (st1 := [.int (nI (i + 2)), .ref 0, .int (xs (i + 1)), .ref 1]) (σ1 := _) rfl rfl (by rw [tw_nadd]) rfl ?_
  refine tw_sl0 rfl rfl (by omega) hL ?_
  refine tw_cl1 rfl rfl (by decide) (hop σ hI) ?_
  rintro _ σ1 ⟨u, rfl, hE⟩
  show tw_P L xs _ 264 706 [.ref 0, .ref 1, .ref 88, .int (nI i)] [.int u] σ1 _
  refine tw_sgn 5 (i1 := 711) (ls0 := [.ref 0, .ref 1, .ref 88, .int (nI i)]) (st0 := [.int (nI i + nI 1), .ref 0, .ref 88, .int u]) (σ0 := _) (ls1 := [.ref 0, .ref 1, .ref 88, .int (nI i)]) (st1 := [.int (nI (i + 1)), .ref 0, .ref 88, .int u]) (σ1 := _) rfl rfl (by rw [tw_nadd]) rfl ?_
  refine tw_sl0 rfl rfl (by omega) hL ?_
  refine tw_sgn 4 (i1 := 716) (ls0 := [.ref 0, .ref 1, .ref 88, .int (nI i)]) (st0 := [.int (nI i + nI 2), .ref 0, .int (xs (i + 1)), .ref 88, .int u]) (σ0 := _) (ls1 := [.ref 0, .ref 1, .ref 88, .int (nI i)]) (st1 := [.int (nI (i + 2)), .ref 0, .int (xs (i + 1)), .ref 88, .int u]) (σ1 := _) rfl rfl (by rw [tw_nadd]) rfl ?_
  refine tw_sl0 rfl rfl (by omega) hL ?_
  refine tw_cl1 rfl rfl (by decide) hE ?_
  rintro _ σ2 ⟨rfl, hI2⟩
  show tw_P L xs _ 264 718 [.ref 0, .ref 1, .ref 88, .int (nI i)] [.int u, .int u] σ2 _
  exact tw_biT (c := .eq) rfl (by rw [tw_ceq]) (kk σ2 hI2)
set_option maxRecDepth 100000 in
theorem tw_case37 (hI : tw_Inv σ) (hi : i + 4 ≤ L) (hL : L ≤ 2048) (hop : tw_op L xs 171 252 [.int (xs (i + 1)), .int (xs (i + 2)), .int (xs (i + 3))]) (kk : ∀ σ2, tw_Inv σ2 → tw_P L xs 100 264 873 [.ref 0, .ref 1, .ref 88, .int (nI i)] [] σ2 Q) : tw_P L xs 100 264 721 [.ref 0, .ref 1, .ref 88, .int (nI i)] [] σ Q := by
  refine tw_sgn 5 (i1 := 726) (ls0 := [.ref 0, .ref 1, .ref 88, .int (nI i)]) (st0 := [.int (nI i + nI 1), .ref 0, .ref 1]) (σ0 := _) (ls1 := [.ref 0, .ref 1, .ref 88, .int (nI i)]) (st1 := [.int (nI (i + 1)), .ref 0, .ref 1]) (σ1 := _) rfl rfl (by rw [tw_nadd]) rfl ?_
  refine tw_sl0 rfl rfl (by omega) hL ?_
  refine tw_sgn 4 (i1 := 731) (ls0 := [.ref 0, .ref 1, .ref 88, .int (nI i)]) (st0 := [.int (nI i + nI 2), .ref 0, .int (xs (i + 1)), .ref 1]) (σ0 := _) (ls1 := [.ref 0, .ref 1, .ref 88, .int (nI i)]) (st1 := [.int (nI (i + 2)), .ref 0, .int (xs (i + 1)), .ref 1]) (σ1 := _) rfl rfl (by rw [tw_nadd]) rfl ?_
  refine tw_sl0 rfl rfl (by omega) hL ?_
  refine tw_sgn 4 (i1 := 736) (ls0 := [.ref 0, .ref 1, .ref 88, .int (nI i)]) (st0 := [.int (nI i + nI 3), .ref 0, .int (xs (i + 2)), .int (xs (i + 1)), .ref 1]) (σ0 := _) (ls1 := [.ref 0, .ref 1, .ref 88, .int (nI i)]) (st1 := [.int (nI (i + 3)), .ref 0, .int (xs (i + 2)), .int (xs (i + 1)), .ref 1]) (σ1 := _) rfl rfl (by rw [tw_nadd]) rfl ?_
  refine tw_sl0 rfl rfl (by omega) hL ?_
  refine tw_cl1 rfl rfl (by decide) (hop σ hI) ?_
  rintro _ σ1 ⟨u, rfl, hE⟩
  show tw_P L xs _ 264 738 [.ref 0, .ref 1, .ref 88, .int (nI i)] [.int u] σ1 _
  refine tw_sgn 5 (i1 := 743) (ls0 := [.ref 0, .ref 1, .ref 88, .int (nI i)]) (st0 := [.int (nI i + nI 1), .ref 0, .ref 88, .int u]) (σ0 := _) (ls1 := [.ref 0, .ref 1, .ref 88, .int (nI i)]) (st1 := [.int (nI (i + 1)), .ref 0, .ref 88, .int u]) (σ1 := _) rfl rfl (by rw [tw_nadd]) rfl ?_
  refine tw_sl0 rfl rfl (by omega) hL ?_
  refine tw_sgn 4 (i1 := 748) (ls0 := [.ref 0, .ref 1, .ref 88, .int (nI i)]) (st0 := [.int (nI i + nI 2), .ref 0, .int (xs (i + 1)), .ref 88, .int u]) (σ0 := _) (ls1 := [.ref 0, .ref 1, .ref 88, .int (nI i)]) (st1 := [.int (nI (i + 2)), .ref 0, .int (xs (i + 1)), .ref 88, .int u]) (σ1 := _) rfl rfl (by rw [tw_nadd]) rfl ?_
  refine tw_sl0 rfl rfl (by omega) hL ?_
  refine tw_sgn 4 (i1 := 753) (ls0 := [.ref 0, .ref 1, .ref 88, .int (nI i)]) (st0 := [.int (nI i + nI 3), .ref 0, .int (xs (i + 2)), .int (xs (i + 1)), .ref 88, .int u]) (σ0 := _) (ls1 := [.ref 0, .ref 1, .ref 88, .int (nI i)]) (st1 := [.int (nI (i + 3)), .ref 0, .int (xs (i + 2)), .int (xs (i + 1)), .ref 88, .int u]) (σ1 := _) rfl rfl (by rw [tw_nadd]) rfl ?_
  refine tw_sl0 rfl rfl (by omega) hL ?_
  refine tw_cl1 rfl rfl (by decide) hE ?_
  rintro _ σ2 ⟨rfl, hI2⟩
  show tw_P L xs _ 264 755 [.ref 0, .ref 1, .ref 88, .int (nI i)] [.int u, .int u] σ2 _
  exact tw_biT (c := .eq) rfl (by rw [tw_ceq]) (kk σ2 hI2)
set_option maxRecDepth 100000 in
theorem tw_case38 (hI : tw_Inv σ) (hi : i + 4 ≤ L) (hL : L ≤ 2048) (hop : tw_op L xs 172 253 [.int (xs (i + 1)), .int (xs (i + 2))]) (kk : ∀ σ2, tw_Inv σ2 → tw_P L xs 100 264 873 [.ref 0, .ref 1, .ref 88, .int (nI i)] [] σ2 Q) : tw_P L xs 100 264 758 [.ref 0, .ref 1, .ref 88, .int (nI i)] [] σ Q := by
  refine tw_sgn 5 (i1 := 763) (ls0 := [.ref 0, .ref 1, .ref 88, .int (nI i)]) (st0 := [.int (nI i + nI 1), .ref 0, .ref 1]) (σ0 := _) (ls1 := [.ref 0, .ref 1, .ref 88, .int (nI i)]) (st1 := [.int (nI (i + 1)), .ref 0, .ref 1]) (σ1 := _) rfl rfl (by rw [tw_nadd]) rfl ?_
  refine tw_sl0 rfl rfl (by omega) hL ?_
  refine tw_sgn 4 (i1 := 768) (ls0 := [.ref 0, .ref 1, .ref 88, .int (nI i)]) (st0 := [.int (nI i + nI 2), .ref 0, .int (xs (i + 1)), .ref 1]) (σ0 := _) (ls1 := [.ref 0, .ref 1, .ref 88, .int (nI i)]) (st1 := [.int (nI (i + 2)), .ref 0, .int (xs (i + 1)), .ref 1]) (σ1 := _) rfl rfl (by rw [tw_nadd]) rfl ?_
  refine tw_sl0 rfl rfl (by omega) hL ?_
  refine tw_cl1 rfl rfl (by decide) (hop σ hI) ?_
  rintro _ σ1 ⟨u, rfl, hE⟩
  show tw_P L xs _ 264 770 [.ref 0, .ref 1, .ref 88, .int (nI i)] [.int u] σ1 _
  refine tw_sgn 5 (i1 := 775) (ls0 := [.ref 0, .ref 1, .ref 88, .int (nI i)]) (st0 := [.int (nI i + nI 1), .ref 0, .ref 88, .int u]) (σ0 := _) (ls1 := [.ref 0, .ref 1, .ref 88, .int (nI i)]) (st1 := [.int (nI (i + 1)), .ref 0, .ref 88, .int u]) (σ1 := _) rfl rfl (by rw [tw_nadd]) rfl ?_
  refine tw_sl0 rfl rfl (by omega) hL ?_
  refine tw_sgn 4 (i1 := 780) (ls0 := [.ref 0, .ref 1, .ref 88, .int (nI i)]) (st0 := [.int (nI i + nI 2), .ref 0, .int (xs (i + 1)), .ref 88, .int u]) (σ0 := _) (ls1 := [.ref 0, .ref 1, .ref 88, .int (nI i)]) (st1 := [.int (nI (i + 2)), .ref 0, .int (xs (i + 1)), .ref 88, .int u]) (σ1 := _) rfl rfl (by rw [tw_nadd]) rfl ?_
  refine tw_sl0 rfl rfl (by omega) hL ?_
  refine tw_cl1 rfl rfl (by decide) hE ?_
  rintro _ σ2 ⟨rfl, hI2⟩
  show tw_P L xs _ 264 782 [.ref 0, .ref 1, .ref 88, .int (nI i)] [.int u, .int u] σ2 _
  exact tw_biT (c := .eq) rfl (by rw [tw_ceq]) (kk σ2 hI2)
set_option maxRecDepth 100000 in
theorem tw_case39 (hI : tw_Inv σ) (hi : i + 4 ≤ L) (hL : L ≤ 2048) (hop : tw_op L xs 173 254 [.int (xs (i + 1)), .int (xs (i + 2)), .int (xs (i + 3))]) (kk : ∀ σ2, tw_Inv σ2 → tw_P L xs 100 264 873 [.ref 0, .ref 1, .ref 88, .int (nI i)] [] σ2 Q) : tw_P L xs 100 264 785 [.ref 0, .ref 1, .ref 88, .int (nI i)] [] σ Q := by
  refine tw_sgn 5 (i1 := 790) (ls0 := [.ref 0, .ref 1, .ref 88, .int (nI i)]) (st0 := [.int (nI i + nI 1), .ref 0, .ref 1]) (σ0 := _) (ls1 := [.ref 0, .ref 1, .ref 88, .int (nI i)]) (st1 := [.int (nI (i + 1)), .ref 0, .ref 1]) (σ1 := _) rfl rfl (by rw [tw_nadd]) rfl ?_
  refine tw_sl0 rfl rfl (by omega) hL ?_
  refine tw_sgn 4 (i1 := 795) (ls0 := [.ref 0, .ref 1, .ref 88, .int (nI i)]) (st0 := [.int (nI i + nI 2), .ref 0, .int (xs (i + 1)), .ref 1]) (σ0 := _) (ls1 := [.ref 0, .ref 1, .ref 88, .int (nI i)]) (st1 := [.int (nI (i + 2)), .ref 0, .int (xs (i + 1)), .ref 1]) (σ1 := _) rfl rfl (by rw [tw_nadd]) rfl ?_
  refine tw_sl0 rfl rfl (by omega) hL ?_
  refine tw_sgn 4 (i1 := 800) (ls0 := [.ref 0, .ref 1, .ref 88, .int (nI i)]) (st0 := [.int (nI i + nI 3), .ref 0, .int (xs (i + 2)), .int (xs (i + 1)), .ref 1]) (σ0 := _) (ls1 := [.ref 0, .ref 1, .ref 88, .int (nI i)]) (st1 := [.int (nI (i + 3)), .ref 0, .int (xs (i + 2)), .int (xs (i + 1)), .ref 1]) (σ1 := _) rfl rfl (by rw [tw_nadd]) rfl ?_
  refine tw_sl0 rfl rfl (by omega) hL ?_
  refine tw_cl1 rfl rfl (by decide) (hop σ hI) ?_
  rintro _ σ1 ⟨u, rfl, hE⟩
  show tw_P L xs _ 264 802 [.ref 0, .ref 1, .ref 88, .int (nI i)] [.int u] σ1 _
  refine tw_sgn 5 (i1 := 807) (ls0 := [.ref 0, .ref 1, .ref 88, .int (nI i)]) (st0 := [.int (nI i + nI 1), .ref 0, .ref 88, .int u]) (σ0 := _) (ls1 := [.ref 0, .ref 1, .ref 88, .int (nI i)]) (st1 := [.int (nI (i + 1)), .ref 0, .ref 88, .int u]) (σ1 := _) rfl rfl (by rw [tw_nadd]) rfl ?_
  refine tw_sl0 rfl rfl (by omega) hL ?_
  refine tw_sgn 4 (i1 := 812) (ls0 := [.ref 0, .ref 1, .ref 88, .int (nI i)]) (st0 := [.int (nI i + nI 2), .ref 0, .int (xs (i + 1)), .ref 88, .int u]) (σ0 := _) (ls1 := [.ref 0, .ref 1, .ref 88, .int (nI i)]) (st1 := [.int (nI (i + 2)), .ref 0, .int (xs (i + 1)), .ref 88, .int u]) (σ1 := _) rfl rfl (by rw [tw_nadd]) rfl ?_
  refine tw_sl0 rfl rfl (by omega) hL ?_
  refine tw_sgn 4 (i1 := 817) (ls0 := [.ref 0, .ref 1, .ref 88, .int (nI i)]) (st0 := [.int (nI i + nI 3), .ref 0, .int (xs (i + 2)), .int (xs (i + 1)), .ref 88, .int u]) (σ0 := _) (ls1 := [.ref 0, .ref 1, .ref 88, .int (nI i)]) (st1 := [.int (nI (i + 3)), .ref 0, .int (xs (i + 2)), .int (xs (i + 1)), .ref 88, .int u]) (σ1 := _) rfl rfl (by rw [tw_nadd]) rfl ?_
  refine tw_sl0 rfl rfl (by omega) hL ?_
  refine tw_cl1 rfl rfl (by decide) hE ?_
  rintro _ σ2 ⟨rfl, hI2⟩
  show tw_P L xs _ 264 819 [.ref 0, .ref 1, .ref 88, .int (nI i)] [.int u, .int u] σ2 _
  exact tw_biT (c := .eq) rfl (by rw [tw_ceq]) (kk σ2 hI2)
set_option maxRecDepth 100000 in
theorem tw_case40 (hI : tw_Inv σ) (hi : i + 4 ≤ L) (hL : L ≤ 2048) (hop : tw_op L xs 174 255 [.int (xs (i + 1)), .int (xs (i + 2)), .int (xs (i + 3))]) (kk : ∀ σ2, tw_Inv σ2 → tw_P L xs 100 264 873 [.ref 0, .ref 1, .ref 88, .int (nI i)] [] σ2 Q) : tw_P L xs 100 264 822 [.ref 0, .ref 1, .ref 88, .int (nI i)] [] σ Q := by
  refine tw_sgn 5 (i1 := 827) (ls0 := [.ref 0, .ref 1, .ref 88, .int (nI i)]) (st0 := [.int (nI i + nI 1), .ref 0, .ref 1]) (σ0 := _) (ls1 := [.ref 0, .ref 1, .ref 88, .int (nI i)]) (st1 := [.int (nI (i + 1)), .ref 0, .ref 1]) (σ1 := _) rfl rfl (by rw [tw_nadd]) rfl ?_
  refine tw_sl0 rfl rfl (by omega) hL ?_
  refine tw_sgn 4 (i1 := 832) (ls0 := [.ref 0, .ref 1, .ref 88, .int (nI i)]) (st0 := [.int (nI i + nI 2), .ref 0, .int (xs (i + 1)), .ref 1]) (σ0 := _) (ls1 := [.ref 0, .ref 1, .ref 88, .int (nI i)]) (st1 := [.int (nI (i + 2)), .ref 0, .int (xs (i + 1)), .ref 1]) (σ1 := _) rfl rfl (by rw [tw_nadd]) rfl ?_
  refine tw_sl0 rfl rfl (by omega) hL ?_
  refine tw_sgn 4 (i1 := 837) (ls0 := [.ref 0, .ref 1, .ref 88, .int (nI i)]) (st0 := [.int (nI i + nI 3), .ref 0, .int (xs (i + 2)), .int (xs (i + 1)), .ref 1]) (σ0 := _) (ls1 := [.ref 0, .ref 1, .ref 88, .int (nI i)]) (st1 := [.int (nI (i + 3)), .ref 0, .int (xs (i + 2)), .int (xs (i + 1)), .ref 1]) (σ1 := _) rfl rfl (by rw [tw_nadd]) rfl ?_
  refine tw_sl0 rfl rfl (by omega) hL ?_
  refine tw_cl1 rfl rfl (by decide) (hop σ hI) ?_
  rintro _ σ1 ⟨u, rfl, hE⟩
  show tw_P L xs _ 264 839 [.ref 0, .ref 1, .ref 88, .int (nI i)] [.int u] σ1 _
  refine tw_sgn 5 (i1 := 844) (ls0 := [.ref 0, .ref 1, .ref 88, .int (nI i)]) (st0 := [.int (nI i + nI 1), .ref 0, .ref 88, .int u]) (σ0 := _) (ls1 := [.ref 0, .ref 1, .ref 88, .int (nI i)]) (st1 := [.int (nI (i + 1)), .ref 0, .ref 88, .int u]) (σ1 := _) rfl rfl (by rw [tw_nadd]) rfl ?_
  refine tw_sl0 rfl rfl (by omega) hL ?_
  refine tw_sgn 4 (i1 := 849) (ls0 := [.ref 0, .ref 1, .ref 88, .int (nI i)]) (st0 := [.int (nI i + nI 2), .ref 0, .int (xs (i + 1)), .ref 88, .int u]) (σ0 := _) (ls1 := [.ref 0, .ref 1, .ref 88, .int (nI i)]) (st1 := [.int (nI (i + 2)), .ref 0, .int (xs (i + 1)), .ref 88, .int u]) (σ1 := _) rfl rfl (by rw [tw_nadd]) rfl ?_
  refine tw_sl0 rfl rfl (by omega) hL ?_
  refine tw_sgn 4 (i1 := 854) (ls0 := [.ref 0, .ref 1, .ref 88, .int (nI i)]) (st0 := [.int (nI i + nI 3), .ref 0, .int (xs (i + 2)), .int (xs (i + 1)), .ref 88, .int u]) (σ0 := _) (ls1 := [.ref 0, .ref 1, .ref 88, .int (nI i)]) (st1 := [.int (nI (i + 3)), .ref 0, .int (xs (i + 2)), .int (xs (i + 1)), .ref 88, .int u]) (σ1 := _) rfl rfl (by rw [tw_nadd]) rfl ?_
  refine tw_sl0 rfl rfl (by omega) hL ?_
  refine tw_cl1 rfl rfl (by decide) hE ?_
  rintro _ σ2 ⟨rfl, hI2⟩
  show tw_P L xs _ 264 856 [.ref 0, .ref 1, .ref 88, .int (nI i)] [.int u, .int u] σ2 _
  exact tw_biT (c := .eq) rfl (by rw [tw_ceq]) (kk σ2 hI2)
set_option maxRecDepth 100000 in
theorem tw_case41 (hI : tw_Inv σ) (hi : i + 4 ≤ L) (hL : L ≤ 2048) (hop : tw_op L xs 175 258 []) (kk : ∀ σ2, tw_Inv σ2 → tw_P L xs 100 264 873 [.ref 0, .ref 1, .ref 88, .int (nI i)] [] σ2 Q) : tw_P L xs 100 264 859 [.ref 0, .ref 1, .ref 88, .int (nI i)] [] σ Q := by
  refine tw_sg 1 (i1 := 860) (ls1 := [.ref 0, .ref 1, .ref 88, .int (nI i)]) (st1 := [.ref 1]) (σ1 := _) rfl ?_
  refine tw_cl1 rfl rfl (by decide) (hop σ hI) ?_
  rintro _ σ1 ⟨u, rfl, hE⟩
  show tw_P L xs _ 264 861 [.ref 0, .ref 1, .ref 88, .int (nI i)] [.int u] σ1 _
  refine tw_sg 1 (i1 := 862) (ls1 := [.ref 0, .ref 1, .ref 88, .int (nI i)]) (st1 := [.ref 88, .int u]) (σ1 := _) rfl ?_
  refine tw_cl1 rfl rfl (by decide) hE ?_
  rintro _ σ2 ⟨rfl, hI2⟩
  show tw_P L xs _ 264 863 [.ref 0, .ref 1, .ref 88, .int (nI i)] [.int u, .int u] σ2 _
  exact tw_biT (c := .eq) rfl (by rw [tw_ceq]) (kk σ2 hI2)
set_option maxRecDepth 100000 in
theorem tw_case42 (hI : tw_Inv σ) (hi : i + 4 ≤ L) (hL : L ≤ 2048) (hop : tw_op L xs 176 259 []) (kk : ∀ σ2, tw_Inv σ2 → tw_P L xs 100 264 873 [.ref 0, .ref 1, .ref 88, .int (nI i)] [] σ2 Q) : tw_P L xs 100 264 866 [.ref 0, .ref 1, .ref 88, .int (nI i)] [] σ Q := by
  refine tw_sg 1 (i1 := 867) (ls1 := [.ref 0, .ref 1, .ref 88, .int (nI i)]) (st1 := [.ref 1]) (σ1 := _) rfl ?_
  refine tw_cl1 rfl rfl (by decide) (hop σ hI) ?_
  rintro _ σ1 ⟨u, rfl, hE⟩
  show tw_P L xs _ 264 868 [.ref 0, .ref 1, .ref 88, .int (nI i)] [.int u] σ1 _
  refine tw_sg 1 (i1 := 869) (ls1 := [.ref 0, .ref 1, .ref 88, .int (nI i)]) (st1 := [.ref 88, .int u]) (σ1 := _) rfl ?_
  refine tw_cl1 rfl rfl (by decide) hE ?_
  rintro _ σ2 ⟨rfl, hI2⟩
  show tw_P L xs _ 264 870 [.ref 0, .ref 1, .ref 88, .int (nI i)] [.int u, .int u] σ2 _
  exact tw_biT (c := .eq) rfl (by rw [tw_ceq]) (kk σ2 hI2)
set_option maxRecDepth 100000 in
theorem tw_law_loop (hL : L ≤ 2048) : ∀ (k i : Nat) (σ : tw_Mem), L + 4 - i ≤ k → i ≤ 4000 → tw_Inv σ → tw_P L xs 100 264 10 [.ref 0, .ref 1, .ref 88, .int (nI i)] [] σ (fun v _ => v = some (.int (nI 1))) := by
  intro k
  induction k with
  | zero =>
    intro i σ hk hi hI
    refine tw_sg 2 (i1 := 12) (ls1 := [.ref 0, .ref 1, .ref 88, .int (nI i)]) (st1 := [.ref 0, .int (nI i)]) (σ1 := σ) rfl ?_
    refine tw_slen0 rfl ?_
    refine tw_sg 2 (i1 := 15) (ls1 := [.ref 0, .ref 1, .ref 88, .int (nI i)]) (st1 := [.int (nI L - nI 4), .int (nI i)]) (σ1 := σ) rfl ?_
    refine tw_biT (c := .gt) rfl (by rw [tw_cgt, tw_lm4 hL (by omega)]; omega) ?_
    show tw_P L xs _ 264 875 [.ref 0, .ref 1, .ref 88, .int (nI i)] [] σ _
    refine tw_sg 1 (i1 := 876) (ls1 := [.ref 0, .ref 1, .ref 88, .int (nI i)]) (st1 := [.int (nI 1)]) (σ1 := σ) rfl ?_
    exact tw_ri rfl rfl rfl
  | succ k ih =>
    intro i σ hk hi hI
    refine tw_sg 2 (i1 := 12) (ls1 := [.ref 0, .ref 1, .ref 88, .int (nI i)]) (st1 := [.ref 0, .int (nI i)]) (σ1 := σ) rfl ?_
    refine tw_slen0 rfl ?_
    refine tw_sg 2 (i1 := 15) (ls1 := [.ref 0, .ref 1, .ref 88, .int (nI i)]) (st1 := [.int (nI L - nI 4), .int (nI i)]) (σ1 := σ) rfl ?_
    refine tw_bi (c := .gt) rfl (fun h => ?_) (fun h => ?_)
    · show tw_P L xs _ 264 875 [.ref 0, .ref 1, .ref 88, .int (nI i)] [] σ _
      refine tw_sg 1 (i1 := 876) (ls1 := [.ref 0, .ref 1, .ref 88, .int (nI i)]) (st1 := [.int (nI 1)]) (σ1 := σ) rfl ?_
      exact tw_ri rfl rfl rfl
    · rw [tw_cgt', tw_lm4 hL (by omega)] at h
      have hn : ∀ σ2, tw_Inv σ2 → tw_P L xs 100 264 873 [.ref 0, .ref 1, .ref 88, .int (nI i)] [] σ2 (fun v _ => v = some (.int (nI 1))) := fun σ2 hI2 => by
        refine tw_sgn 2 (i1 := 10) (ls0 := [.ref 0, .ref 1, .ref 88, .int (nI i + nI 4)]) (st0 := []) (σ0 := σ2) (ls1 := [.ref 0, .ref 1, .ref 88, .int (nI (i + 4))]) (st1 := []) (σ1 := σ2) rfl (by rw [tw_nadd]) rfl rfl ?_
        exact ih (i + 4) σ2 (by omega) (by omega) hI2
      refine tw_sg 2 (i1 := 18) (ls1 := [.ref 0, .ref 1, .ref 88, .int (nI i)]) (st1 := [.int (nI i), .ref 0]) (σ1 := σ) rfl ?_
      refine tw_sl0 rfl rfl (by omega) hL ?_
      refine tw_sg 2 (i1 := 21) (ls1 := [.ref 0, .ref 1, .ref 88, .int (nI i)]) (st1 := [.int (xs i &&& nI 63)]) (σ1 := σ) rfl ?_
      rcases tw_within (xs i &&& nI 63) 43 (by decide) with ⟨q, hq, hu⟩ | hu
      · rcases (show q = 0 ∨ q = 1 ∨ q = 2 ∨ q = 3 ∨ q = 4 ∨ q = 5 ∨ q = 6 ∨ q = 7 ∨ q = 8 ∨ q = 9 ∨ q = 10 ∨ q = 11 ∨ q = 12 ∨ q = 13 ∨ q = 14 ∨ q = 15 ∨ q = 16 ∨ q = 17 ∨ q = 18 ∨ q = 19 ∨ q = 20 ∨ q = 21 ∨ q = 22 ∨ q = 23 ∨ q = 24 ∨ q = 25 ∨ q = 26 ∨ q = 27 ∨ q = 28 ∨ q = 29 ∨ q = 30 ∨ q = 31 ∨ q = 32 ∨ q = 33 ∨ q = 34 ∨ q = 35 ∨ q = 36 ∨ q = 37 ∨ q = 38 ∨ q = 39 ∨ q = 40 ∨ q = 41 ∨ q = 42 by omega) with rfl | rfl | rfl | rfl | rfl | rfl | rfl | rfl | rfl | rfl | rfl | rfl | rfl | rfl | rfl | rfl | rfl | rfl | rfl | rfl | rfl | rfl | rfl | rfl | rfl | rfl | rfl | rfl | rfl | rfl | rfl | rfl | rfl | rfl | rfl | rfl | rfl | rfl | rfl | rfl | rfl | rfl | rfl
        · exact tw_sw (j := 0) rfl hu (by decide) (by decide) rfl (tw_case0 hI (by omega) hL (tw_o_feed _) hn)
        · exact tw_sw (j := 1) rfl hu (by decide) (by decide) rfl (tw_case1 hI (by omega) hL (tw_o_clear) hn)
        · exact tw_sw (j := 2) rfl hu (by decide) (by decide) rfl (tw_case2 hI (by omega) hL (tw_o_thread) hn)
        · exact tw_sw (j := 3) rfl hu (by decide) (by decide) rfl (tw_case3 hI (by omega) hL (tw_o_law) hn)
        · exact tw_sw (j := 4) rfl hu (by decide) (by decide) rfl (tw_case4 hI (by omega) hL (tw_o_card _ _) hn)
        · exact tw_sw (j := 5) rfl hu (by decide) (by decide) rfl (tw_case5 hI (by omega) hL (tw_o_slant _) hn)
        · exact tw_sw (j := 6) rfl hu (by decide) (by decide) rfl (tw_case6 hI (by omega) hL (tw_o_place _ _) hn)
        · exact tw_sw (j := 7) rfl hu (by decide) (by decide) rfl (tw_case7 hI (by omega) hL (tw_o_recolour _ _ _) hn)
        · exact tw_sw (j := 8) rfl hu (by decide) (by decide) rfl (tw_case8 hI (by omega) hL (tw_o_turn _ _) hn)
        · exact tw_sw (j := 9) rfl hu (by decide) (by decide) rfl (tw_case9 hI (by omega) hL (tw_o_pack _ _) hn)
        · exact tw_sw (j := 10) rfl hu (by decide) (by decide) rfl (tw_case10 hI (by omega) hL (tw_o_weave _) hn)
        · exact tw_sw (j := 11) rfl hu (by decide) (by decide) rfl (tw_case11 hI (by omega) hL (tw_o_unweave _) hn)
        · exact tw_sw (j := 12) rfl hu (by decide) (by decide) rfl (tw_case12 hI (by omega) hL (tw_o_front _ _) hn)
        · exact tw_sw (j := 13) rfl hu (by decide) (by decide) rfl (tw_case13 hI (by omega) hL (tw_o_back _ _) hn)
        · exact tw_sw (j := 14) rfl hu (by decide) (by decide) rfl (tw_case14 hI (by omega) hL (tw_o_lean _ _) hn)
        · exact tw_sw (j := 15) rfl hu (by decide) (by decide) rfl (tw_case15 hI (by omega) hL (tw_o_turning _ _) hn)
        · exact tw_sw (j := 16) rfl hu (by decide) (by decide) rfl (tw_case16 hI (by omega) hL (tw_o_returns) hn)
        · exact tw_sw (j := 17) rfl hu (by decide) (by decide) rfl (tw_case17 hI (by omega) hL (tw_o_flat) hn)
        · exact tw_sw (j := 18) rfl hu (by decide) (by decide) rfl (tw_case18 hI (by omega) hL (tw_o_jam) hn)
        · exact tw_sw (j := 19) rfl hu (by decide) (by decide) rfl (tw_case19 hI (by omega) hL (tw_o_undoing _ _) hn)
        · exact tw_sw (j := 20) rfl hu (by decide) (by decide) rfl (tw_case20 hI (by omega) hL (tw_o_paint _ _ _) hn)
        · exact tw_sw (j := 21) rfl hu (by decide) (by decide) rfl (tw_case21 hI (by omega) hL (tw_o_lines _) hn)
        · exact tw_sw (j := 22) rfl hu (by decide) (by decide) rfl (tw_case22 hI (by omega) hL (tw_o_draft _ _) hn)
        · exact tw_sw (j := 23) rfl hu (by decide) (by decide) rfl (tw_case23 hI (by omega) hL (tw_o_fewest _) hn)
        · exact tw_sw (j := 24) rfl hu (by decide) (by decide) rfl (tw_case24 hI (by omega) hL (tw_o_weaveDraft) hn)
        · exact tw_sw (j := 25) rfl hu (by decide) (by decide) rfl (tw_case25 hI (by omega) hL (tw_o_matches _) hn)
        · exact tw_sw (j := 26) rfl hu (by decide) (by decide) rfl (tw_case26 hI (by omega) hL (tw_o_period) hn)
        · exact tw_sw (j := 27) rfl hu (by decide) (by decide) rfl (tw_case27 hI (by omega) hL (tw_o_mirrors) hn)
        · exact tw_sw (j := 28) rfl hu (by decide) (by decide) rfl (tw_case28 hI (by omega) hL (tw_o_run _) hn)
        · exact tw_sw (j := 29) rfl hu (by decide) (by decide) rfl (tw_case29 hI (by omega) hL (tw_o_colours _ _) hn)
        · exact tw_sw (j := 30) rfl hu (by decide) (by decide) rfl (tw_case30 hI (by omega) hL (tw_o_ranked _) hn)
        · exact tw_sw (j := 31) rfl hu (by decide) (by decide) rfl (tw_case31 hI (by omega) hL (tw_o_alike _ _) hn)
        · exact tw_sw (j := 32) rfl hu (by decide) (by decide) rfl (tw_case32 hI (by omega) hL (tw_o_faces _) hn)
        · exact tw_sw (j := 33) rfl hu (by decide) (by decide) rfl (tw_case33 hI (by omega) hL (tw_o_spell) hn)
        · exact tw_sw (j := 34) rfl hu (by decide) (by decide) rfl (tw_case34 hI (by omega) hL (tw_o_paper _) hn)
        · exact tw_sw (j := 35) rfl hu (by decide) (by decide) rfl (tw_case35 hI (by omega) hL (tw_o_told _) hn)
        · exact tw_sw (j := 36) rfl hu (by decide) (by decide) rfl (tw_case36 hI (by omega) hL (tw_o_list _ _) hn)
        · exact tw_sw (j := 37) rfl hu (by decide) (by decide) rfl (tw_case37 hI (by omega) hL (tw_o_set _ _ _) hn)
        · exact tw_sw (j := 38) rfl hu (by decide) (by decide) rfl (tw_case38 hI (by omega) hL (tw_o_get _ _) hn)
        · exact tw_sw (j := 39) rfl hu (by decide) (by decide) rfl (tw_case39 hI (by omega) hL (tw_o_lay _ _ _) hn)
        · exact tw_sw (j := 40) rfl hu (by decide) (by decide) rfl (tw_case40 hI (by omega) hL (tw_o_judge _ _ _) hn)
        · exact tw_sw (j := 41) rfl hu (by decide) (by decide) rfl (tw_case41 hI (by omega) hL (tw_o_image) hn)
        · exact tw_sw (j := 42) rfl hu (by decide) (by decide) rfl (tw_case42 hI (by omega) hL (tw_o_undo) hn)
      · refine tw_swo rfl (hu.imp id (fun h => tw_lt_of_le' h.2)) (by decide) ?_
        exact hn σ hI
set_option maxRecDepth 100000 in
theorem tw_pure (L : Nat) (xs : Nat → Int32) (hL : L ≤ 2048) : ∃ σ1, tw_R L xs 100 tw_LAW (0, tw_ent tw_LAW [.ref 0], [], some 0, fun _ _ => 0) (some (.int 1), none, σ1) := by
  obtain ⟨v, σ1, h1, h2⟩ := tw_law_loop (xs := xs) hL (L + 4) 0 tw_sB (by omega) (by omega) tw_Inv0
  subst h2
  refine ⟨σ1, ?_⟩
  refine tw_go1 (g := (1, [.ref 0, tw_U, tw_U, tw_U], [.ref 1], some 1, tw_born (fun _ _ => 0) 1)) rfl rfl ?_
  refine tw_go1 (g := (2, [.ref 0, tw_U, tw_U, tw_U], [.ref 1, .ref 1], some 1, tw_born (fun _ _ => 0) 1)) rfl rfl ?_
  refine tw_call1 (d1 := 20) rfl rfl (by decide) (tw_evg_R 2000 20 131 _ _ tw_cA_eq) ?_
  show tw_R L xs _ _ (3, [.ref 0, tw_U, tw_U, tw_U], [.ref 1], some 87, tw_sA) _
  refine tw_go1 (g := (4, [.ref 0, .ref 1, tw_U, tw_U], [], some 87, tw_sA)) rfl rfl ?_
  refine tw_go1 (g := (5, [.ref 0, .ref 1, tw_U, tw_U], [.ref 88], some 88, tw_born tw_sA 88)) rfl rfl ?_
  refine tw_go1 (g := (6, [.ref 0, .ref 1, tw_U, tw_U], [.ref 88, .ref 88], some 88, tw_born tw_sA 88)) rfl rfl ?_
  refine tw_call1 (d1 := 20) rfl rfl (by decide) (tw_evg_R 2000 20 183 _ _ tw_cB_eq) ?_
  show tw_R L xs _ _ (7, [.ref 0, .ref 1, tw_U, tw_U], [.ref 88], some tw_NC, tw_sB) _
  refine tw_full1 tw_sB_full ?_
  refine tw_go1 (g := (8, [.ref 0, .ref 1, .ref 88, tw_U], [], none, tw_sB)) rfl rfl ?_
  refine tw_go1 (g := (9, [.ref 0, .ref 1, .ref 88, tw_U], [.int (nI 0)], none, tw_sB)) rfl rfl ?_
  refine tw_go1 (g := (10, [.ref 0, .ref 1, .ref 88, .int (nI 0)], [], none, tw_sB)) rfl rfl ?_
  exact h1
end tw_L
