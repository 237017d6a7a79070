/-! judge, the loops -/
section tw_s48
variable {L : Nat} {xs : Nat → Int32} {σ : tw_Mem} {x y w : Int32} {n r i c k h q a b e : Nat}
theorem tw_sub_toI {a b : Nat} (ha : a < 1000000) (hb : b < 1000000) : (nI a - nI b).toInt = (a : Int) - (b : Int) := by
  rw [Int32.toInt_sub, tw_ntoI (by omega), tw_ntoI (by omega), Int.bmod_eq_of_le (by omega) (by omega)]
theorem tw_ysc {y s c : Nat} (hy : y < 2147483648) (hs : s < 1000000) (hc : c < 1000000) : (nI y < nI s - nI c) = (y + c < s) := by
  rw [Int32.lt_iff_toInt_lt, tw_sub_toI hs hc, tw_ntoI hy]
  exact propext (by omega)
def tw_jd (w v : Nat → Int32) (s y : Nat) : Nat → Nat → Int32
  | _, 0 => (-5)
  | c, f + 1 => if y + c < s then (if v (y + c) = w c then tw_jd w v s y (c + 1) f else nI c) else nI (100 + c)
set_option maxHeartbeats 4000000 in
set_option maxRecDepth 100000 in
theorem tw_e_readW {l s : Nat} {z : Nat} (hl : l < 4) (hs : s ≤ 20) (e1 : σ 87 l = nI s) (e4 : ∀ z, z < s → σ 86 (l * 20 + z) = σ 119 (20 * l + z)) (hx : z < s) : tw_E L xs 2 79 [.ref 85, .int (nI l), .int (nI z)] σ (fun v σ1 => v = some (.int (σ 119 (20 * l + z))) ∧ σ = σ1) := by
  show tw_P L xs _ 79 0 [.ref 85, .int (nI l), .int (nI z)] [] σ _
  refine tw_sg 3 (i1 := 3) (ls1 := [.ref 85, .int (nI l), .int (nI z)]) (st1 := [.int (nI z), .int (nI l), .ref 85]) (σ1 := σ) rfl ?_
  refine tw_cl0 1 rfl (rfl) (by decide) ?_
  show tw_P L xs _ 76 0 [.ref 85, .int (nI l), .int (nI z)] [] σ _
  refine tw_sg 2 (i1 := 2) (ls1 := [.ref 85, .int (nI l), .int (nI z)]) (st1 := [.int (nI l), .ref 85]) (σ1 := σ) rfl ?_
  refine tw_cl0 0 rfl (rfl) (by decide) ?_
  show tw_P L xs _ 74 0 [.ref 85, .int (nI l)] [] σ _
  refine tw_sg 1 (i1 := 1) (ls1 := [.ref 85, .int (nI l)]) (st1 := [.int (nI l)]) (σ1 := σ) rfl ?_
  refine tw_bzF (c := .lt) rfl (by rw [tw_clt', tw_nlt (by omega) (by omega)] <;> omega) ?_
  show tw_P L xs _ 74 2 [.ref 85, .int (nI l)] [] σ _
  refine tw_sg 2 (i1 := 4) (ls1 := [.ref 85, .int (nI l)]) (st1 := [.int (nI 4), .int (nI l)]) (σ1 := σ) rfl ?_
  refine tw_biF (c := .ge) rfl (by rw [tw_cge', tw_nle (by omega) (by omega)] <;> omega) ?_
  show tw_P L xs _ 74 5 [.ref 85, .int (nI l)] [] σ _
  refine tw_sg 2 (i1 := 8) (ls1 := [.ref 85, .int (nI l)]) (st1 := [.int (nI 1)]) (σ1 := σ) rfl ?_
  refine tw_ri rfl (rfl) ?_
  show tw_P L xs _ 76 3 [.ref 85, .int (nI l), .int (nI z)] [.int (nI 1)] σ _
  refine tw_bzF (c := .eq) rfl (by rw [tw_ceq', tw_neq (by omega) (by omega)] <;> omega) ?_
  show tw_P L xs _ 76 4 [.ref 85, .int (nI l), .int (nI z)] [] σ _
  refine tw_sg 1 (i1 := 5) (ls1 := [.ref 85, .int (nI l), .int (nI z)]) (st1 := [.int (nI z)]) (σ1 := σ) rfl ?_
  refine tw_bzF (c := .lt) rfl (by rw [tw_clt', tw_nlt (by omega) (by omega)] <;> omega) ?_
  show tw_P L xs _ 76 6 [.ref 85, .int (nI l), .int (nI z)] [] σ _
  refine tw_sg 4 (i1 := 10) (ls1 := [.ref 85, .int (nI l), .int (nI z)]) (st1 := [.int (nI l), .ref 87, .int (nI z)]) (σ1 := σ) rfl ?_
  refine tw_al (k := 87) (j := l) (len := 4) rfl rfl rfl rfl (rfl) (by omega) (by decide) ?_
  rw [e1]
  refine tw_biF (c := .ge) rfl (by rw [tw_cge', tw_nle (by omega) (by omega)] <;> omega) ?_
  show tw_P L xs _ 76 12 [.ref 85, .int (nI l), .int (nI z)] [] σ _
  refine tw_sg 2 (i1 := 15) (ls1 := [.ref 85, .int (nI l), .int (nI z)]) (st1 := [.int (nI 1)]) (σ1 := σ) rfl ?_
  refine tw_ri rfl (rfl) ?_
  show tw_P L xs _ 79 4 [.ref 85, .int (nI l), .int (nI z)] [.int (nI 1)] σ _
  refine tw_bzF (c := .eq) rfl (by rw [tw_ceq', tw_neq (by omega) (by omega)] <;> omega) ?_
  show tw_P L xs _ 79 5 [.ref 85, .int (nI l), .int (nI z)] [] σ _
  refine tw_sgn 7 (i1 := 12) (ls0 := [.ref 85, .int (nI l), .int (nI z)]) (st0 := [.int ((nI l * nI 20) + nI z), .ref 86]) (σ0 := σ) (ls1 := [.ref 85, .int (nI l), .int (nI z)]) (st1 := [.int (nI ((l * 20) + z)), .ref 86]) (σ1 := σ) rfl (rfl) (by simp only [tw_nadd, tw_nmul]) (rfl) ?_
  refine tw_al (k := 86) (j := ((l * 20) + z)) (len := 80) rfl rfl rfl rfl (rfl) (by omega) (by decide) ?_
  refine tw_sg 1 (i1 := 15) (ls1 := [.ref 85, .int (nI l), .int (nI z)]) (st1 := [.int (σ 86 ((l * 20) + z))]) (σ1 := σ) rfl ?_
  refine tw_ri rfl (rfl) ?_
  exact ⟨by rw [e4 z hx], rfl⟩
set_option maxHeartbeats 4000000 in
set_option maxRecDepth 100000 in
theorem tw_l_judC {L : Nat} {xs : Nat → Int32} {σ : tw_Mem} {r n l s y i : Nat} {Q : Option Value → tw_Mem → Prop} (hl : l < 4) (hs : s ≤ 20) (hy : y < 2147483648) (hi : i < r) (h50 : r ≤ 50) (h10 : n ≤ 10) (e1 : σ 87 l = nI s) (hr9 : σ 9 3 = nI r) (hw9 : σ 9 4 = nI n) (hF : tw_isF σ 0 r n (σ 95)) (e4 : ∀ z, z < s → σ 86 (l * 20 + z) = σ 119 (20 * l + z)) : ∀ (f c : Nat), c + f = n → Q (some (.int (tw_jd (fun c => σ 95 (10 * i + c)) (fun z => σ 119 (20 * l + z)) s y c f))) σ → tw_P L xs 5 174 24 [.ref 1, .int (nI l), .int (nI y), .int (nI i), .ref 9, .int (nI c)] [] σ Q := by
  intro f
  induction f with
  | zero =>
    intro c hf hQ
    have hf : n = c := Eq.symm hf
    subst hf
    refine tw_sg 2 (i1 := 26) (ls1 := [.ref 1, .int (nI l), .int (nI y), .int (nI i), .ref 9, .int (nI n)]) (st1 := [.ref 9, .int (nI n)]) (σ1 := σ) rfl ?_
    refine tw_cl0 4 rfl (rfl) (by decide) ?_
    show tw_P L xs _ 18 0 [.ref 9] [] σ _
    refine tw_sgn 2 (i1 := 2) (ls0 := [.ref 9]) (st0 := [.int (σ 9 4)]) (σ0 := σ) (ls1 := [.ref 9]) (st1 := [.int (nI n)]) (σ1 := σ) rfl (rfl) (by simp only [hw9, tw_nadd, tw_nmul]) (rfl) ?_
    refine tw_ri rfl (rfl) ?_
    show tw_P L xs _ 174 27 [.ref 1, .int (nI l), .int (nI y), .int (nI i), .ref 9, .int (nI n)] [.int (nI n), .int (nI n)] σ _
    refine tw_biT (c := .ge) rfl (by rw [tw_cge, tw_nle (by omega) (by omega)] <;> omega) ?_
    show tw_P L xs _ 174 56 [.ref 1, .int (nI l), .int (nI y), .int (nI i), .ref 9, .int (nI n)] [] σ _
    refine tw_sg 1 (i1 := 57) (ls1 := [.ref 1, .int (nI l), .int (nI y), .int (nI i), .ref 9, .int (nI n)]) (st1 := [.int (-5)]) (σ1 := σ) rfl ?_
    refine tw_ri rfl (rfl) ?_
    exact hQ
  | succ f ih =>
    intro c hf hQ
    rw [tw_jd] at hQ
    by_cases hx : y + c < s
    · rw [if_pos hx] at hQ
      refine tw_sg 2 (i1 := 26) (ls1 := [.ref 1, .int (nI l), .int (nI y), .int (nI i), .ref 9, .int (nI c)]) (st1 := [.ref 9, .int (nI c)]) (σ1 := σ) rfl ?_
      refine tw_cl0 4 rfl (rfl) (by decide) ?_
      show tw_P L xs _ 18 0 [.ref 9] [] σ _
      refine tw_sgn 2 (i1 := 2) (ls0 := [.ref 9]) (st0 := [.int (σ 9 4)]) (σ0 := σ) (ls1 := [.ref 9]) (st1 := [.int (nI n)]) (σ1 := σ) rfl (rfl) (by simp only [hw9, tw_nadd, tw_nmul]) (rfl) ?_
      refine tw_ri rfl (rfl) ?_
      show tw_P L xs _ 174 27 [.ref 1, .int (nI l), .int (nI y), .int (nI i), .ref 9, .int (nI c)] [.int (nI n), .int (nI c)] σ _
      refine tw_biF (c := .ge) rfl (by rw [tw_cge', tw_nle (by omega) (by omega)] <;> omega) ?_
      show tw_P L xs _ 174 28 [.ref 1, .int (nI l), .int (nI y), .int (nI i), .ref 9, .int (nI c)] [] σ _
      refine tw_sg 5 (i1 := 33) (ls1 := [.ref 1, .int (nI l), .int (nI y), .int (nI i), .ref 9, .int (nI c)]) (st1 := [.int (nI c), .int (nI y), .int (nI l), .ref 85]) (σ1 := σ) rfl ?_
      refine tw_cl0 4 rfl (rfl) (by decide) ?_
      show tw_P L xs _ 77 0 [.ref 85, .int (nI l), .int (nI y), .int (nI c)] [] σ _
      refine tw_sg 3 (i1 := 3) (ls1 := [.ref 85, .int (nI l), .int (nI y), .int (nI c)]) (st1 := [.int (nI y), .int (nI l), .ref 85]) (σ1 := σ) rfl ?_
      refine tw_cl0 3 rfl (rfl) (by decide) ?_
      show tw_P L xs _ 76 0 [.ref 85, .int (nI l), .int (nI y)] [] σ _
      refine tw_sg 2 (i1 := 2) (ls1 := [.ref 85, .int (nI l), .int (nI y)]) (st1 := [.int (nI l), .ref 85]) (σ1 := σ) rfl ?_
      refine tw_cl0 2 rfl (rfl) (by decide) ?_
      show tw_P L xs _ 74 0 [.ref 85, .int (nI l)] [] σ _
      refine tw_sg 1 (i1 := 1) (ls1 := [.ref 85, .int (nI l)]) (st1 := [.int (nI l)]) (σ1 := σ) rfl ?_
      refine tw_bzF (c := .lt) rfl (by rw [tw_clt', tw_nlt (by omega) (by omega)] <;> omega) ?_
      show tw_P L xs _ 74 2 [.ref 85, .int (nI l)] [] σ _
      refine tw_sg 2 (i1 := 4) (ls1 := [.ref 85, .int (nI l)]) (st1 := [.int (nI 4), .int (nI l)]) (σ1 := σ) rfl ?_
      refine tw_biF (c := .ge) rfl (by rw [tw_cge', tw_nle (by omega) (by omega)] <;> omega) ?_
      show tw_P L xs _ 74 5 [.ref 85, .int (nI l)] [] σ _
      refine tw_sg 2 (i1 := 8) (ls1 := [.ref 85, .int (nI l)]) (st1 := [.int (nI 1)]) (σ1 := σ) rfl ?_
      refine tw_ri rfl (rfl) ?_
      show tw_P L xs _ 76 3 [.ref 85, .int (nI l), .int (nI y)] [.int (nI 1)] σ _
      refine tw_bzF (c := .eq) rfl (by rw [tw_ceq', tw_neq (by omega) (by omega)] <;> omega) ?_
      show tw_P L xs _ 76 4 [.ref 85, .int (nI l), .int (nI y)] [] σ _
      refine tw_sg 1 (i1 := 5) (ls1 := [.ref 85, .int (nI l), .int (nI y)]) (st1 := [.int (nI y)]) (σ1 := σ) rfl ?_
      refine tw_bzF (c := .lt) rfl (by rw [tw_clt', tw_nlt (by omega) (by omega)] <;> omega) ?_
      show tw_P L xs _ 76 6 [.ref 85, .int (nI l), .int (nI y)] [] σ _
      refine tw_sg 4 (i1 := 10) (ls1 := [.ref 85, .int (nI l), .int (nI y)]) (st1 := [.int (nI l), .ref 87, .int (nI y)]) (σ1 := σ) rfl ?_
      refine tw_al (k := 87) (j := l) (len := 4) rfl rfl rfl rfl (rfl) (by omega) (by decide) ?_
      rw [e1]
      refine tw_biF (c := .ge) rfl (by rw [tw_cge', tw_nle (by omega) (by omega)] <;> omega) ?_
      show tw_P L xs _ 76 12 [.ref 85, .int (nI l), .int (nI y)] [] σ _
      refine tw_sg 2 (i1 := 15) (ls1 := [.ref 85, .int (nI l), .int (nI y)]) (st1 := [.int (nI 1)]) (σ1 := σ) rfl ?_
      refine tw_ri rfl (rfl) ?_
      show tw_P L xs _ 77 4 [.ref 85, .int (nI l), .int (nI y), .int (nI c)] [.int (nI 1)] σ _
      refine tw_bzF (c := .eq) rfl (by rw [tw_ceq', tw_neq (by omega) (by omega)] <;> omega) ?_
      show tw_P L xs _ 77 5 [.ref 85, .int (nI l), .int (nI y), .int (nI c)] [] σ _
      refine tw_sgn 5 (i1 := 10) (ls0 := [.ref 85, .int (nI l), .int (nI y), .int (nI c)]) (st0 := [.int (nI y + nI c), .int (nI l), .ref 85]) (σ0 := σ) (ls1 := [.ref 85, .int (nI l), .int (nI y), .int (nI c)]) (st1 := [.int (nI (y + c)), .int (nI l), .ref 85]) (σ1 := σ) rfl (rfl) (by simp only [tw_nadd, tw_nmul]) (rfl) ?_
      refine tw_cl0 3 rfl (rfl) (by decide) ?_
      show tw_P L xs _ 76 0 [.ref 85, .int (nI l), .int (nI (y + c))] [] σ _
      refine tw_sg 2 (i1 := 2) (ls1 := [.ref 85, .int (nI l), .int (nI (y + c))]) (st1 := [.int (nI l), .ref 85]) (σ1 := σ) rfl ?_
      refine tw_cl0 2 rfl (rfl) (by decide) ?_
      show tw_P L xs _ 74 0 [.ref 85, .int (nI l)] [] σ _
      refine tw_sg 1 (i1 := 1) (ls1 := [.ref 85, .int (nI l)]) (st1 := [.int (nI l)]) (σ1 := σ) rfl ?_
      refine tw_bzF (c := .lt) rfl (by rw [tw_clt', tw_nlt (by omega) (by omega)] <;> omega) ?_
      show tw_P L xs _ 74 2 [.ref 85, .int (nI l)] [] σ _
      refine tw_sg 2 (i1 := 4) (ls1 := [.ref 85, .int (nI l)]) (st1 := [.int (nI 4), .int (nI l)]) (σ1 := σ) rfl ?_
      refine tw_biF (c := .ge) rfl (by rw [tw_cge', tw_nle (by omega) (by omega)] <;> omega) ?_
      show tw_P L xs _ 74 5 [.ref 85, .int (nI l)] [] σ _
      refine tw_sg 2 (i1 := 8) (ls1 := [.ref 85, .int (nI l)]) (st1 := [.int (nI 1)]) (σ1 := σ) rfl ?_
      refine tw_ri rfl (rfl) ?_
      show tw_P L xs _ 76 3 [.ref 85, .int (nI l), .int (nI (y + c))] [.int (nI 1)] σ _
      refine tw_bzF (c := .eq) rfl (by rw [tw_ceq', tw_neq (by omega) (by omega)] <;> omega) ?_
      show tw_P L xs _ 76 4 [.ref 85, .int (nI l), .int (nI (y + c))] [] σ _
      refine tw_sg 1 (i1 := 5) (ls1 := [.ref 85, .int (nI l), .int (nI (y + c))]) (st1 := [.int (nI (y + c))]) (σ1 := σ) rfl ?_
      refine tw_bzF (c := .lt) rfl (by rw [tw_clt', tw_nlt (by omega) (by omega)] <;> omega) ?_
      show tw_P L xs _ 76 6 [.ref 85, .int (nI l), .int (nI (y + c))] [] σ _
      refine tw_sg 4 (i1 := 10) (ls1 := [.ref 85, .int (nI l), .int (nI (y + c))]) (st1 := [.int (nI l), .ref 87, .int (nI (y + c))]) (σ1 := σ) rfl ?_
      refine tw_al (k := 87) (j := l) (len := 4) rfl rfl rfl rfl (rfl) (by omega) (by decide) ?_
      rw [e1]
      refine tw_biF (c := .ge) rfl (by rw [tw_cge', tw_nle (by omega) (by omega)] <;> omega) ?_
      show tw_P L xs _ 76 12 [.ref 85, .int (nI l), .int (nI (y + c))] [] σ _
      refine tw_sg 2 (i1 := 15) (ls1 := [.ref 85, .int (nI l), .int (nI (y + c))]) (st1 := [.int (nI 1)]) (σ1 := σ) rfl ?_
      refine tw_ri rfl (rfl) ?_
      show tw_P L xs _ 77 11 [.ref 85, .int (nI l), .int (nI y), .int (nI c)] [.int (nI 1)] σ _
      refine tw_bzF (c := .eq) rfl (by rw [tw_ceq', tw_neq (by omega) (by omega)] <;> omega) ?_
      show tw_P L xs _ 77 12 [.ref 85, .int (nI l), .int (nI y), .int (nI c)] [] σ _
      refine tw_sg 2 (i1 := 15) (ls1 := [.ref 85, .int (nI l), .int (nI y), .int (nI c)]) (st1 := [.int (nI 1)]) (σ1 := σ) rfl ?_
      refine tw_ri rfl (rfl) ?_
      show tw_P L xs _ 174 34 [.ref 1, .int (nI l), .int (nI y), .int (nI i), .ref 9, .int (nI c)] [.int (nI 1)] σ _
      refine tw_bzT (c := .ne) rfl (by rw [tw_cne, tw_neq (by omega) (by omega)] <;> omega) ?_
      show tw_P L xs _ 174 39 [.ref 1, .int (nI l), .int (nI y), .int (nI i), .ref 9, .int (nI c)] [] σ _
      refine tw_sgn 6 (i1 := 45) (ls0 := [.ref 1, .int (nI l), .int (nI y), .int (nI i), .ref 9, .int (nI c)]) (st0 := [.int (nI y + nI c), .int (nI l), .ref 85]) (σ0 := σ) (ls1 := [.ref 1, .int (nI l), .int (nI y), .int (nI i), .ref 9, .int (nI c)]) (st1 := [.int (nI (y + c)), .int (nI l), .ref 85]) (σ1 := σ) rfl (rfl) (by simp only [tw_nadd, tw_nmul]) (rfl) ?_
      refine tw_cl1 rfl (rfl) (by decide) (tw_e_readW hl hs e1 e4 hx) ?_
      rintro _ _ ⟨rfl, rfl⟩
      show tw_P L xs _ 174 46 [.ref 1, .int (nI l), .int (nI y), .int (nI i), .ref 9, .int (nI c)] [.int (σ 119 (20 * l + (y + c)))] σ _
      refine tw_sg 4 (i1 := 50) (ls1 := [.ref 1, .int (nI l), .int (nI y), .int (nI i), .ref 9, .int (nI c)]) (st1 := [.int (nI 0), .int (nI c), .int (nI i), .ref 9, .int (σ 119 (20 * l + (y + c)))]) (σ1 := σ) rfl ?_
      refine tw_cl1 rfl (rfl) (by decide) (tw_e_cellW hr9 hw9 h50 h10 hF (by decide) hi (by omega)) ?_
      rintro _ _ ⟨rfl, rfl⟩
      show tw_P L xs _ 174 51 [.ref 1, .int (nI l), .int (nI y), .int (nI i), .ref 9, .int (nI c)] [.int (σ 95 (10 * i + c)), .int (σ 119 (20 * l + (y + c)))] σ _
      refine tw_bi (c := .eq) rfl (fun h1 => ?_) (fun h1 => ?_)
      · rw [tw_ceq] at h1
        refine tw_sgn 2 (i1 := 24) (ls0 := [.ref 1, .int (nI l), .int (nI y), .int (nI i), .ref 9, .int (nI c + nI 1)]) (st0 := []) (σ0 := σ) (ls1 := [.ref 1, .int (nI l), .int (nI y), .int (nI i), .ref 9, .int (nI (c + 1))]) (st1 := []) (σ1 := σ) rfl (by simp only [tw_nadd, tw_nmul]) (rfl) (rfl) ?_
        rw [if_pos h1] at hQ
        exact ih (c + 1) (by omega) hQ
      · rw [tw_ceq'] at h1
        refine tw_sg 1 (i1 := 53) (ls1 := [.ref 1, .int (nI l), .int (nI y), .int (nI i), .ref 9, .int (nI c)]) (st1 := [.int (nI c)]) (σ1 := σ) rfl ?_
        refine tw_ri rfl (rfl) ?_
        rw [if_neg (by first | exact h1 | exact fun z => h1 z.symm)] at hQ
        exact hQ
    · rw [if_neg hx] at hQ
      rcases (show y < s ∨ s ≤ y by omega) with hy2 | hy2
      · skip
        refine tw_sg 2 (i1 := 26) (ls1 := [.ref 1, .int (nI l), .int (nI y), .int (nI i), .ref 9, .int (nI c)]) (st1 := [.ref 9, .int (nI c)]) (σ1 := σ) rfl ?_
        refine tw_cl0 4 rfl (rfl) (by decide) ?_
        show tw_P L xs _ 18 0 [.ref 9] [] σ _
        refine tw_sgn 2 (i1 := 2) (ls0 := [.ref 9]) (st0 := [.int (σ 9 4)]) (σ0 := σ) (ls1 := [.ref 9]) (st1 := [.int (nI n)]) (σ1 := σ) rfl (rfl) (by simp only [hw9, tw_nadd, tw_nmul]) (rfl) ?_
        refine tw_ri rfl (rfl) ?_
        show tw_P L xs _ 174 27 [.ref 1, .int (nI l), .int (nI y), .int (nI i), .ref 9, .int (nI c)] [.int (nI n), .int (nI c)] σ _
        refine tw_biF (c := .ge) rfl (by rw [tw_cge', tw_nle (by omega) (by omega)] <;> omega) ?_
        show tw_P L xs _ 174 28 [.ref 1, .int (nI l), .int (nI y), .int (nI i), .ref 9, .int (nI c)] [] σ _
        refine tw_sg 5 (i1 := 33) (ls1 := [.ref 1, .int (nI l), .int (nI y), .int (nI i), .ref 9, .int (nI c)]) (st1 := [.int (nI c), .int (nI y), .int (nI l), .ref 85]) (σ1 := σ) rfl ?_
        refine tw_cl0 4 rfl (rfl) (by decide) ?_
        show tw_P L xs _ 77 0 [.ref 85, .int (nI l), .int (nI y), .int (nI c)] [] σ _
        refine tw_sg 3 (i1 := 3) (ls1 := [.ref 85, .int (nI l), .int (nI y), .int (nI c)]) (st1 := [.int (nI y), .int (nI l), .ref 85]) (σ1 := σ) rfl ?_
        refine tw_cl0 3 rfl (rfl) (by decide) ?_
        show tw_P L xs _ 76 0 [.ref 85, .int (nI l), .int (nI y)] [] σ _
        refine tw_sg 2 (i1 := 2) (ls1 := [.ref 85, .int (nI l), .int (nI y)]) (st1 := [.int (nI l), .ref 85]) (σ1 := σ) rfl ?_
        refine tw_cl0 2 rfl (rfl) (by decide) ?_
        show tw_P L xs _ 74 0 [.ref 85, .int (nI l)] [] σ _
        refine tw_sg 1 (i1 := 1) (ls1 := [.ref 85, .int (nI l)]) (st1 := [.int (nI l)]) (σ1 := σ) rfl ?_
        refine tw_bzF (c := .lt) rfl (by rw [tw_clt', tw_nlt (by omega) (by omega)] <;> omega) ?_
        show tw_P L xs _ 74 2 [.ref 85, .int (nI l)] [] σ _
        refine tw_sg 2 (i1 := 4) (ls1 := [.ref 85, .int (nI l)]) (st1 := [.int (nI 4), .int (nI l)]) (σ1 := σ) rfl ?_
        refine tw_biF (c := .ge) rfl (by rw [tw_cge', tw_nle (by omega) (by omega)] <;> omega) ?_
        show tw_P L xs _ 74 5 [.ref 85, .int (nI l)] [] σ _
        refine tw_sg 2 (i1 := 8) (ls1 := [.ref 85, .int (nI l)]) (st1 := [.int (nI 1)]) (σ1 := σ) rfl ?_
        refine tw_ri rfl (rfl) ?_
        show tw_P L xs _ 76 3 [.ref 85, .int (nI l), .int (nI y)] [.int (nI 1)] σ _
        refine tw_bzF (c := .eq) rfl (by rw [tw_ceq', tw_neq (by omega) (by omega)] <;> omega) ?_
        show tw_P L xs _ 76 4 [.ref 85, .int (nI l), .int (nI y)] [] σ _
        refine tw_sg 1 (i1 := 5) (ls1 := [.ref 85, .int (nI l), .int (nI y)]) (st1 := [.int (nI y)]) (σ1 := σ) rfl ?_
        refine tw_bzF (c := .lt) rfl (by rw [tw_clt', tw_nlt (by omega) (by omega)] <;> omega) ?_
        show tw_P L xs _ 76 6 [.ref 85, .int (nI l), .int (nI y)] [] σ _
        refine tw_sg 4 (i1 := 10) (ls1 := [.ref 85, .int (nI l), .int (nI y)]) (st1 := [.int (nI l), .ref 87, .int (nI y)]) (σ1 := σ) rfl ?_
        refine tw_al (k := 87) (j := l) (len := 4) rfl rfl rfl rfl (rfl) (by omega) (by decide) ?_
        rw [e1]
        refine tw_biF (c := .ge) rfl (by rw [tw_cge', tw_nle (by omega) (by omega)] <;> omega) ?_
        show tw_P L xs _ 76 12 [.ref 85, .int (nI l), .int (nI y)] [] σ _
        refine tw_sg 2 (i1 := 15) (ls1 := [.ref 85, .int (nI l), .int (nI y)]) (st1 := [.int (nI 1)]) (σ1 := σ) rfl ?_
        refine tw_ri rfl (rfl) ?_
        show tw_P L xs _ 77 4 [.ref 85, .int (nI l), .int (nI y), .int (nI c)] [.int (nI 1)] σ _
        refine tw_bzF (c := .eq) rfl (by rw [tw_ceq', tw_neq (by omega) (by omega)] <;> omega) ?_
        show tw_P L xs _ 77 5 [.ref 85, .int (nI l), .int (nI y), .int (nI c)] [] σ _
        refine tw_sgn 5 (i1 := 10) (ls0 := [.ref 85, .int (nI l), .int (nI y), .int (nI c)]) (st0 := [.int (nI y + nI c), .int (nI l), .ref 85]) (σ0 := σ) (ls1 := [.ref 85, .int (nI l), .int (nI y), .int (nI c)]) (st1 := [.int (nI (y + c)), .int (nI l), .ref 85]) (σ1 := σ) rfl (rfl) (by simp only [tw_nadd, tw_nmul]) (rfl) ?_
        refine tw_cl0 3 rfl (rfl) (by decide) ?_
        show tw_P L xs _ 76 0 [.ref 85, .int (nI l), .int (nI (y + c))] [] σ _
        refine tw_sg 2 (i1 := 2) (ls1 := [.ref 85, .int (nI l), .int (nI (y + c))]) (st1 := [.int (nI l), .ref 85]) (σ1 := σ) rfl ?_
        refine tw_cl0 2 rfl (rfl) (by decide) ?_
        show tw_P L xs _ 74 0 [.ref 85, .int (nI l)] [] σ _
        refine tw_sg 1 (i1 := 1) (ls1 := [.ref 85, .int (nI l)]) (st1 := [.int (nI l)]) (σ1 := σ) rfl ?_
        refine tw_bzF (c := .lt) rfl (by rw [tw_clt', tw_nlt (by omega) (by omega)] <;> omega) ?_
        show tw_P L xs _ 74 2 [.ref 85, .int (nI l)] [] σ _
        refine tw_sg 2 (i1 := 4) (ls1 := [.ref 85, .int (nI l)]) (st1 := [.int (nI 4), .int (nI l)]) (σ1 := σ) rfl ?_
        refine tw_biF (c := .ge) rfl (by rw [tw_cge', tw_nle (by omega) (by omega)] <;> omega) ?_
        show tw_P L xs _ 74 5 [.ref 85, .int (nI l)] [] σ _
        refine tw_sg 2 (i1 := 8) (ls1 := [.ref 85, .int (nI l)]) (st1 := [.int (nI 1)]) (σ1 := σ) rfl ?_
        refine tw_ri rfl (rfl) ?_
        show tw_P L xs _ 76 3 [.ref 85, .int (nI l), .int (nI (y + c))] [.int (nI 1)] σ _
        refine tw_bzF (c := .eq) rfl (by rw [tw_ceq', tw_neq (by omega) (by omega)] <;> omega) ?_
        show tw_P L xs _ 76 4 [.ref 85, .int (nI l), .int (nI (y + c))] [] σ _
        refine tw_sg 1 (i1 := 5) (ls1 := [.ref 85, .int (nI l), .int (nI (y + c))]) (st1 := [.int (nI (y + c))]) (σ1 := σ) rfl ?_
        refine tw_bzF (c := .lt) rfl (by rw [tw_clt', tw_nlt (by omega) (by omega)] <;> omega) ?_
        show tw_P L xs _ 76 6 [.ref 85, .int (nI l), .int (nI (y + c))] [] σ _
        refine tw_sg 4 (i1 := 10) (ls1 := [.ref 85, .int (nI l), .int (nI (y + c))]) (st1 := [.int (nI l), .ref 87, .int (nI (y + c))]) (σ1 := σ) rfl ?_
        refine tw_al (k := 87) (j := l) (len := 4) rfl rfl rfl rfl (rfl) (by omega) (by decide) ?_
        rw [e1]
        refine tw_biT (c := .ge) rfl (by rw [tw_cge, tw_nle (by omega) (by omega)] <;> omega) ?_
        show tw_P L xs _ 76 14 [.ref 85, .int (nI l), .int (nI (y + c))] [] σ _
        refine tw_sg 1 (i1 := 15) (ls1 := [.ref 85, .int (nI l), .int (nI (y + c))]) (st1 := [.int (nI 0)]) (σ1 := σ) rfl ?_
        refine tw_ri rfl (rfl) ?_
        show tw_P L xs _ 77 11 [.ref 85, .int (nI l), .int (nI y), .int (nI c)] [.int (nI 0)] σ _
        refine tw_bzT (c := .eq) rfl (by rw [tw_ceq, tw_neq (by omega) (by omega)] <;> omega) ?_
        show tw_P L xs _ 77 14 [.ref 85, .int (nI l), .int (nI y), .int (nI c)] [] σ _
        refine tw_sg 1 (i1 := 15) (ls1 := [.ref 85, .int (nI l), .int (nI y), .int (nI c)]) (st1 := [.int (nI 0)]) (σ1 := σ) rfl ?_
        refine tw_ri rfl (rfl) ?_
        show tw_P L xs _ 174 34 [.ref 1, .int (nI l), .int (nI y), .int (nI i), .ref 9, .int (nI c)] [.int (nI 0)] σ _
        refine tw_bzF (c := .ne) rfl (by rw [tw_cne', tw_neq (by omega) (by omega)] <;> omega) ?_
        show tw_P L xs _ 174 35 [.ref 1, .int (nI l), .int (nI y), .int (nI i), .ref 9, .int (nI c)] [] σ _
        refine tw_sgn 3 (i1 := 38) (ls0 := [.ref 1, .int (nI l), .int (nI y), .int (nI i), .ref 9, .int (nI c)]) (st0 := [.int (nI 100 + nI c)]) (σ0 := σ) (ls1 := [.ref 1, .int (nI l), .int (nI y), .int (nI i), .ref 9, .int (nI c)]) (st1 := [.int (nI (100 + c))]) (σ1 := σ) rfl (rfl) (by simp only [tw_nadd, tw_nmul]) (rfl) ?_
        refine tw_ri rfl (rfl) ?_
        exact hQ
      · skip
        refine tw_sg 2 (i1 := 26) (ls1 := [.ref 1, .int (nI l), .int (nI y), .int (nI i), .ref 9, .int (nI c)]) (st1 := [.ref 9, .int (nI c)]) (σ1 := σ) rfl ?_
        refine tw_cl0 4 rfl (rfl) (by decide) ?_
        show tw_P L xs _ 18 0 [.ref 9] [] σ _
        refine tw_sgn 2 (i1 := 2) (ls0 := [.ref 9]) (st0 := [.int (σ 9 4)]) (σ0 := σ) (ls1 := [.ref 9]) (st1 := [.int (nI n)]) (σ1 := σ) rfl (rfl) (by simp only [hw9, tw_nadd, tw_nmul]) (rfl) ?_
        refine tw_ri rfl (rfl) ?_
        show tw_P L xs _ 174 27 [.ref 1, .int (nI l), .int (nI y), .int (nI i), .ref 9, .int (nI c)] [.int (nI n), .int (nI c)] σ _
        refine tw_biF (c := .ge) rfl (by rw [tw_cge', tw_nle (by omega) (by omega)] <;> omega) ?_
        show tw_P L xs _ 174 28 [.ref 1, .int (nI l), .int (nI y), .int (nI i), .ref 9, .int (nI c)] [] σ _
        refine tw_sg 5 (i1 := 33) (ls1 := [.ref 1, .int (nI l), .int (nI y), .int (nI i), .ref 9, .int (nI c)]) (st1 := [.int (nI c), .int (nI y), .int (nI l), .ref 85]) (σ1 := σ) rfl ?_
        refine tw_cl0 4 rfl (rfl) (by decide) ?_
        show tw_P L xs _ 77 0 [.ref 85, .int (nI l), .int (nI y), .int (nI c)] [] σ _
        refine tw_sg 3 (i1 := 3) (ls1 := [.ref 85, .int (nI l), .int (nI y), .int (nI c)]) (st1 := [.int (nI y), .int (nI l), .ref 85]) (σ1 := σ) rfl ?_
        refine tw_cl0 3 rfl (rfl) (by decide) ?_
        show tw_P L xs _ 76 0 [.ref 85, .int (nI l), .int (nI y)] [] σ _
        refine tw_sg 2 (i1 := 2) (ls1 := [.ref 85, .int (nI l), .int (nI y)]) (st1 := [.int (nI l), .ref 85]) (σ1 := σ) rfl ?_
        refine tw_cl0 2 rfl (rfl) (by decide) ?_
        show tw_P L xs _ 74 0 [.ref 85, .int (nI l)] [] σ _
        refine tw_sg 1 (i1 := 1) (ls1 := [.ref 85, .int (nI l)]) (st1 := [.int (nI l)]) (σ1 := σ) rfl ?_
        refine tw_bzF (c := .lt) rfl (by rw [tw_clt', tw_nlt (by omega) (by omega)] <;> omega) ?_
        show tw_P L xs _ 74 2 [.ref 85, .int (nI l)] [] σ _
        refine tw_sg 2 (i1 := 4) (ls1 := [.ref 85, .int (nI l)]) (st1 := [.int (nI 4), .int (nI l)]) (σ1 := σ) rfl ?_
        refine tw_biF (c := .ge) rfl (by rw [tw_cge', tw_nle (by omega) (by omega)] <;> omega) ?_
        show tw_P L xs _ 74 5 [.ref 85, .int (nI l)] [] σ _
        refine tw_sg 2 (i1 := 8) (ls1 := [.ref 85, .int (nI l)]) (st1 := [.int (nI 1)]) (σ1 := σ) rfl ?_
        refine tw_ri rfl (rfl) ?_
        show tw_P L xs _ 76 3 [.ref 85, .int (nI l), .int (nI y)] [.int (nI 1)] σ _
        refine tw_bzF (c := .eq) rfl (by rw [tw_ceq', tw_neq (by omega) (by omega)] <;> omega) ?_
        show tw_P L xs _ 76 4 [.ref 85, .int (nI l), .int (nI y)] [] σ _
        refine tw_sg 1 (i1 := 5) (ls1 := [.ref 85, .int (nI l), .int (nI y)]) (st1 := [.int (nI y)]) (σ1 := σ) rfl ?_
        refine tw_bzF (c := .lt) rfl (by rw [tw_clt', tw_nlt (by omega) (by omega)] <;> omega) ?_
        show tw_P L xs _ 76 6 [.ref 85, .int (nI l), .int (nI y)] [] σ _
        refine tw_sg 4 (i1 := 10) (ls1 := [.ref 85, .int (nI l), .int (nI y)]) (st1 := [.int (nI l), .ref 87, .int (nI y)]) (σ1 := σ) rfl ?_
        refine tw_al (k := 87) (j := l) (len := 4) rfl rfl rfl rfl (rfl) (by omega) (by decide) ?_
        rw [e1]
        refine tw_biT (c := .ge) rfl (by rw [tw_cge, tw_nle (by omega) (by omega)] <;> omega) ?_
        show tw_P L xs _ 76 14 [.ref 85, .int (nI l), .int (nI y)] [] σ _
        refine tw_sg 1 (i1 := 15) (ls1 := [.ref 85, .int (nI l), .int (nI y)]) (st1 := [.int (nI 0)]) (σ1 := σ) rfl ?_
        refine tw_ri rfl (rfl) ?_
        show tw_P L xs _ 77 4 [.ref 85, .int (nI l), .int (nI y), .int (nI c)] [.int (nI 0)] σ _
        refine tw_bzT (c := .eq) rfl (by rw [tw_ceq, tw_neq (by omega) (by omega)] <;> omega) ?_
        show tw_P L xs _ 77 14 [.ref 85, .int (nI l), .int (nI y), .int (nI c)] [] σ _
        refine tw_sg 1 (i1 := 15) (ls1 := [.ref 85, .int (nI l), .int (nI y), .int (nI c)]) (st1 := [.int (nI 0)]) (σ1 := σ) rfl ?_
        refine tw_ri rfl (rfl) ?_
        show tw_P L xs _ 174 34 [.ref 1, .int (nI l), .int (nI y), .int (nI i), .ref 9, .int (nI c)] [.int (nI 0)] σ _
        refine tw_bzF (c := .ne) rfl (by rw [tw_cne', tw_neq (by omega) (by omega)] <;> omega) ?_
        show tw_P L xs _ 174 35 [.ref 1, .int (nI l), .int (nI y), .int (nI i), .ref 9, .int (nI c)] [] σ _
        refine tw_sgn 3 (i1 := 38) (ls0 := [.ref 1, .int (nI l), .int (nI y), .int (nI i), .ref 9, .int (nI c)]) (st0 := [.int (nI 100 + nI c)]) (σ0 := σ) (ls1 := [.ref 1, .int (nI l), .int (nI y), .int (nI i), .ref 9, .int (nI c)]) (st1 := [.int (nI (100 + c))]) (σ1 := σ) rfl (rfl) (by simp only [tw_nadd, tw_nmul]) (rfl) ?_
        refine tw_ri rfl (rfl) ?_
        exact hQ
set_option maxHeartbeats 4000000 in
set_option maxRecDepth 100000 in
theorem tw_l_judM {L : Nat} {xs : Nat → Int32} {σ : tw_Mem} {r n l s y i : Nat} {Q : Option Value → tw_Mem → Prop} (hl : l < 4) (hs : s ≤ 20) (hy : y < 2147483648) (hi : i < r) (h50 : r ≤ 50) (h10 : n ≤ 10) (e3 : σ 118 l = nI s) (hn89 : σ 89 0 = nI n) : ∀ (f c : Nat), c + f = n → Q (some (.int (tw_jd (fun c => σ 95 (10 * i + c)) (fun z => σ 119 (20 * l + z)) s y c f))) σ → tw_P L xs 1 255 18 [.ref 88, .int (nI l), .int (nI y), .int (nI i), .int (nI c)] [] σ Q := by
  intro f
  induction f with
  | zero =>
    intro c hf hQ
    have hf : n = c := Eq.symm hf
    subst hf
    refine tw_sg 4 (i1 := 22) (ls1 := [.ref 88, .int (nI l), .int (nI y), .int (nI i), .int (nI n)]) (st1 := [.int (nI 0), .ref 89, .int (nI n)]) (σ1 := σ) rfl ?_
    refine tw_al (k := 89) (j := 0) (len := 2) rfl rfl rfl rfl (rfl) (by omega) (by decide) ?_
    rw [hn89]
    refine tw_biT (c := .ge) rfl (by rw [tw_cge, tw_nle (by omega) (by omega)] <;> omega) ?_
    show tw_P L xs _ 255 61 [.ref 88, .int (nI l), .int (nI y), .int (nI i), .int (nI n)] [] σ _
    refine tw_sg 1 (i1 := 62) (ls1 := [.ref 88, .int (nI l), .int (nI y), .int (nI i), .int (nI n)]) (st1 := [.int (-5)]) (σ1 := σ) rfl ?_
    refine tw_ri rfl (rfl) ?_
    exact hQ
  | succ f ih =>
    intro c hf hQ
    rw [tw_jd] at hQ
    by_cases hx : y + c < s
    · rw [if_pos hx] at hQ
      refine tw_sg 4 (i1 := 22) (ls1 := [.ref 88, .int (nI l), .int (nI y), .int (nI i), .int (nI c)]) (st1 := [.int (nI 0), .ref 89, .int (nI c)]) (σ1 := σ) rfl ?_
      refine tw_al (k := 89) (j := 0) (len := 2) rfl rfl rfl rfl (rfl) (by omega) (by decide) ?_
      rw [hn89]
      refine tw_biF (c := .ge) rfl (by rw [tw_cge', tw_nle (by omega) (by omega)] <;> omega) ?_
      show tw_P L xs _ 255 24 [.ref 88, .int (nI l), .int (nI y), .int (nI i), .int (nI c)] [] σ _
      refine tw_sg 1 (i1 := 25) (ls1 := [.ref 88, .int (nI l), .int (nI y), .int (nI i), .int (nI c)]) (st1 := [.int (nI y)]) (σ1 := σ) rfl ?_
      refine tw_bzF (c := .lt) rfl (by rw [tw_clt', tw_nlt (by omega) (by omega)] <;> omega) ?_
      show tw_P L xs _ 255 26 [.ref 88, .int (nI l), .int (nI y), .int (nI i), .int (nI c)] [] σ _
      refine tw_sg 4 (i1 := 30) (ls1 := [.ref 88, .int (nI l), .int (nI y), .int (nI i), .int (nI c)]) (st1 := [.int (nI l), .ref 118, .int (nI y)]) (σ1 := σ) rfl ?_
      refine tw_al (k := 118) (j := l) (len := 4) rfl rfl rfl rfl (rfl) (by omega) (by decide) ?_
      rw [e3]
      refine tw_sg 2 (i1 := 33) (ls1 := [.ref 88, .int (nI l), .int (nI y), .int (nI i), .int (nI c)]) (st1 := [.int (nI s - nI c), .int (nI y)]) (σ1 := σ) rfl ?_
      refine tw_biT (c := .lt) rfl (by rw [tw_clt] <;> (exact (by rw [tw_ysc hy (by omega) (by omega)]; exact hx))) ?_
      show tw_P L xs _ 255 38 [.ref 88, .int (nI l), .int (nI y), .int (nI i), .int (nI c)] [] σ _
      refine tw_sgn 9 (i1 := 47) (ls0 := [.ref 88, .int (nI l), .int (nI y), .int (nI i), .int (nI c)]) (st0 := [.int (((nI 20 * nI l) + nI y) + nI c), .ref 119]) (σ0 := σ) (ls1 := [.ref 88, .int (nI l), .int (nI y), .int (nI i), .int (nI c)]) (st1 := [.int (nI (((20 * l) + y) + c)), .ref 119]) (σ1 := σ) rfl (rfl) (by simp only [tw_nadd, tw_nmul]) (rfl) ?_
      refine tw_al (k := 119) (j := (20 * l + (y + c))) (len := 80) rfl rfl rfl rfl (congrArg nI (by omega)) (by omega) (by decide) ?_
      refine tw_sgn 7 (i1 := 55) (ls0 := [.ref 88, .int (nI l), .int (nI y), .int (nI i), .int (nI c)]) (st0 := [.int ((nI 10 * nI i) + nI c), .ref 95, .int (σ 119 (20 * l + (y + c)))]) (σ0 := σ) (ls1 := [.ref 88, .int (nI l), .int (nI y), .int (nI i), .int (nI c)]) (st1 := [.int (nI ((10 * i) + c)), .ref 95, .int (σ 119 (20 * l + (y + c)))]) (σ1 := σ) rfl (rfl) (by simp only [tw_nadd, tw_nmul]) (rfl) ?_
      refine tw_al (k := 95) (j := ((10 * i) + c)) (len := 1000) rfl rfl rfl rfl (rfl) (by omega) (by decide) ?_
      refine tw_bi (c := .eq) rfl (fun h1 => ?_) (fun h1 => ?_)
      · rw [tw_ceq] at h1
        refine tw_sgn 2 (i1 := 18) (ls0 := [.ref 88, .int (nI l), .int (nI y), .int (nI i), .int (nI c + nI 1)]) (st0 := []) (σ0 := σ) (ls1 := [.ref 88, .int (nI l), .int (nI y), .int (nI i), .int (nI (c + 1))]) (st1 := []) (σ1 := σ) rfl (by simp only [tw_nadd, tw_nmul]) (rfl) (rfl) ?_
        rw [if_pos h1] at hQ
        exact ih (c + 1) (by omega) hQ
      · rw [tw_ceq'] at h1
        refine tw_sg 1 (i1 := 58) (ls1 := [.ref 88, .int (nI l), .int (nI y), .int (nI i), .int (nI c)]) (st1 := [.int (nI c)]) (σ1 := σ) rfl ?_
        refine tw_ri rfl (rfl) ?_
        rw [if_neg (by first | exact h1 | exact fun z => h1 z.symm)] at hQ
        exact hQ
    · rw [if_neg hx] at hQ
      rcases (show y < s ∨ s ≤ y by omega) with hy2 | hy2
      · skip
        refine tw_sg 4 (i1 := 22) (ls1 := [.ref 88, .int (nI l), .int (nI y), .int (nI i), .int (nI c)]) (st1 := [.int (nI 0), .ref 89, .int (nI c)]) (σ1 := σ) rfl ?_
        refine tw_al (k := 89) (j := 0) (len := 2) rfl rfl rfl rfl (rfl) (by omega) (by decide) ?_
        rw [hn89]
        refine tw_biF (c := .ge) rfl (by rw [tw_cge', tw_nle (by omega) (by omega)] <;> omega) ?_
        show tw_P L xs _ 255 24 [.ref 88, .int (nI l), .int (nI y), .int (nI i), .int (nI c)] [] σ _
        refine tw_sg 1 (i1 := 25) (ls1 := [.ref 88, .int (nI l), .int (nI y), .int (nI i), .int (nI c)]) (st1 := [.int (nI y)]) (σ1 := σ) rfl ?_
        refine tw_bzF (c := .lt) rfl (by rw [tw_clt', tw_nlt (by omega) (by omega)] <;> omega) ?_
        show tw_P L xs _ 255 26 [.ref 88, .int (nI l), .int (nI y), .int (nI i), .int (nI c)] [] σ _
        refine tw_sg 4 (i1 := 30) (ls1 := [.ref 88, .int (nI l), .int (nI y), .int (nI i), .int (nI c)]) (st1 := [.int (nI l), .ref 118, .int (nI y)]) (σ1 := σ) rfl ?_
        refine tw_al (k := 118) (j := l) (len := 4) rfl rfl rfl rfl (rfl) (by omega) (by decide) ?_
        rw [e3]
        refine tw_sg 2 (i1 := 33) (ls1 := [.ref 88, .int (nI l), .int (nI y), .int (nI i), .int (nI c)]) (st1 := [.int (nI s - nI c), .int (nI y)]) (σ1 := σ) rfl ?_
        refine tw_biF (c := .lt) rfl (by rw [tw_clt'] <;> (exact (by rw [tw_ysc hy (by omega) (by omega)]; exact hx))) ?_
        show tw_P L xs _ 255 34 [.ref 88, .int (nI l), .int (nI y), .int (nI i), .int (nI c)] [] σ _
        refine tw_sgn 3 (i1 := 37) (ls0 := [.ref 88, .int (nI l), .int (nI y), .int (nI i), .int (nI c)]) (st0 := [.int (nI 100 + nI c)]) (σ0 := σ) (ls1 := [.ref 88, .int (nI l), .int (nI y), .int (nI i), .int (nI c)]) (st1 := [.int (nI (100 + c))]) (σ1 := σ) rfl (rfl) (by simp only [tw_nadd, tw_nmul]) (rfl) ?_
        refine tw_ri rfl (rfl) ?_
        exact hQ
      · skip
        refine tw_sg 4 (i1 := 22) (ls1 := [.ref 88, .int (nI l), .int (nI y), .int (nI i), .int (nI c)]) (st1 := [.int (nI 0), .ref 89, .int (nI c)]) (σ1 := σ) rfl ?_
        refine tw_al (k := 89) (j := 0) (len := 2) rfl rfl rfl rfl (rfl) (by omega) (by decide) ?_
        rw [hn89]
        refine tw_biF (c := .ge) rfl (by rw [tw_cge', tw_nle (by omega) (by omega)] <;> omega) ?_
        show tw_P L xs _ 255 24 [.ref 88, .int (nI l), .int (nI y), .int (nI i), .int (nI c)] [] σ _
        refine tw_sg 1 (i1 := 25) (ls1 := [.ref 88, .int (nI l), .int (nI y), .int (nI i), .int (nI c)]) (st1 := [.int (nI y)]) (σ1 := σ) rfl ?_
        refine tw_bzF (c := .lt) rfl (by rw [tw_clt', tw_nlt (by omega) (by omega)] <;> omega) ?_
        show tw_P L xs _ 255 26 [.ref 88, .int (nI l), .int (nI y), .int (nI i), .int (nI c)] [] σ _
        refine tw_sg 4 (i1 := 30) (ls1 := [.ref 88, .int (nI l), .int (nI y), .int (nI i), .int (nI c)]) (st1 := [.int (nI l), .ref 118, .int (nI y)]) (σ1 := σ) rfl ?_
        refine tw_al (k := 118) (j := l) (len := 4) rfl rfl rfl rfl (rfl) (by omega) (by decide) ?_
        rw [e3]
        refine tw_sg 2 (i1 := 33) (ls1 := [.ref 88, .int (nI l), .int (nI y), .int (nI i), .int (nI c)]) (st1 := [.int (nI s - nI c), .int (nI y)]) (σ1 := σ) rfl ?_
        refine tw_biF (c := .lt) rfl (by rw [tw_clt'] <;> (exact (by rw [tw_ysc hy (by omega) (by omega)]; exact hx))) ?_
        show tw_P L xs _ 255 34 [.ref 88, .int (nI l), .int (nI y), .int (nI i), .int (nI c)] [] σ _
        refine tw_sgn 3 (i1 := 37) (ls0 := [.ref 88, .int (nI l), .int (nI y), .int (nI i), .int (nI c)]) (st0 := [.int (nI 100 + nI c)]) (σ0 := σ) (ls1 := [.ref 88, .int (nI l), .int (nI y), .int (nI i), .int (nI c)]) (st1 := [.int (nI (100 + c))]) (σ1 := σ) rfl (rfl) (by simp only [tw_nadd, tw_nmul]) (rfl) ?_
        refine tw_ri rfl (rfl) ?_
        exact hQ
set_option maxHeartbeats 4000000 in
set_option maxRecDepth 100000 in
theorem tw_o_judge {L : Nat} {xs : Nat → Int32} (x : Int32) (y : Int32) (w : Int32) : tw_op L xs 174 255 [.int x, .int y, .int w] := by
  intro σ hI
  obtain ⟨⟨n, r, hL⟩, hT, hPp, hPc, hLs, hIm, hC14, hC46, hC72⟩ := id hI
  obtain ⟨⟨hn10, hr50⟩, ⟨hn6, hn89⟩, ⟨hr9, hw9, hr90⟩, hCa, hRo, hLa⟩ := hL
  have hn6 : σ 6 4 = nI n := hn6
  have hn89 : σ 89 0 = nI n := hn89
  have hr9 : σ 9 3 = nI r := hr9
  have hw9 : σ 9 4 = nI n := hw9
  have hr90 : σ 90 0 = nI r := hr90
  have hrow : ∀ z : Int32, z = z := fun _ => rfl
  rcases tw_within x 4 (by decide) with ⟨l, hl, rfl⟩ | hx
  · rcases tw_within w r (by omega) with ⟨i, hi, rfl⟩ | hw
    · rcases hLs l hl with ⟨e1, e2⟩ | ⟨s, hs, e1, e2, e3, e4⟩
      · skip
        show tw_P L xs _ 174 0 [.ref 1, .int (nI l), .int y, .int (nI i), tw_U, tw_U] [] σ _
        refine tw_sg 2 (i1 := 2) (ls1 := [.ref 1, .int (nI l), .int y, .int (nI i), tw_U, tw_U]) (st1 := [.ref 6]) (σ1 := σ) rfl ?_
        refine tw_cl0 59 rfl (rfl) (by decide) ?_
        show tw_P L xs _ 83 0 [.ref 6] [] σ _
        refine tw_sg 2 (i1 := 2) (ls1 := [.ref 6]) (st1 := [.ref 9]) (σ1 := σ) rfl ?_
        refine tw_ra rfl ?_
        show tw_P L xs _ 174 3 [.ref 1, .int (nI l), .int y, .int (nI i), tw_U, tw_U] [.ref 9] σ _
        refine tw_sg 4 (i1 := 7) (ls1 := [.ref 1, .int (nI l), .int y, .int (nI i), .ref 9, tw_U]) (st1 := [.int (nI l), .ref 85]) (σ1 := σ) rfl ?_
        refine tw_cl0 59 rfl (rfl) (by decide) ?_
        show tw_P L xs _ 74 0 [.ref 85, .int (nI l)] [] σ _
        refine tw_sg 1 (i1 := 1) (ls1 := [.ref 85, .int (nI l)]) (st1 := [.int (nI l)]) (σ1 := σ) rfl ?_
        refine tw_bzF (c := .lt) rfl (by rw [tw_clt', tw_nlt (by omega) (by omega)] <;> omega) ?_
        show tw_P L xs _ 74 2 [.ref 85, .int (nI l)] [] σ _
        refine tw_sg 2 (i1 := 4) (ls1 := [.ref 85, .int (nI l)]) (st1 := [.int (nI 4), .int (nI l)]) (σ1 := σ) rfl ?_
        refine tw_biF (c := .ge) rfl (by rw [tw_cge', tw_nle (by omega) (by omega)] <;> omega) ?_
        show tw_P L xs _ 74 5 [.ref 85, .int (nI l)] [] σ _
        refine tw_sg 2 (i1 := 8) (ls1 := [.ref 85, .int (nI l)]) (st1 := [.int (nI 1)]) (σ1 := σ) rfl ?_
        refine tw_ri rfl (rfl) ?_
        show tw_P L xs _ 174 8 [.ref 1, .int (nI l), .int y, .int (nI i), .ref 9, tw_U] [.int (nI 1)] σ _
        refine tw_bzF (c := .eq) rfl (by rw [tw_ceq', tw_neq (by omega) (by omega)] <;> omega) ?_
        show tw_P L xs _ 174 9 [.ref 1, .int (nI l), .int y, .int (nI i), .ref 9, tw_U] [] σ _
        refine tw_sg 2 (i1 := 11) (ls1 := [.ref 1, .int (nI l), .int y, .int (nI i), .ref 9, tw_U]) (st1 := [.int (nI i), .ref 9]) (σ1 := σ) rfl ?_
        refine tw_cl1 rfl (rfl) (by decide) (tw_e_hasRow1 hr9 hr50 hi) ?_
        rintro _ _ ⟨rfl, rfl⟩
        show tw_P L xs _ 174 12 [.ref 1, .int (nI l), .int y, .int (nI i), .ref 9, tw_U] [.int (nI 1)] σ _
        refine tw_bzT (c := .ne) rfl (by rw [tw_cne, tw_neq (by omega) (by omega)] <;> omega) ?_
        show tw_P L xs _ 174 15 [.ref 1, .int (nI l), .int y, .int (nI i), .ref 9, tw_U] [] σ _
        refine tw_sg 3 (i1 := 18) (ls1 := [.ref 1, .int (nI l), .int y, .int (nI i), .ref 9, tw_U]) (st1 := [.int (nI l), .ref 85]) (σ1 := σ) rfl ?_
        refine tw_cl0 59 rfl (rfl) (by decide) ?_
        show tw_P L xs _ 75 0 [.ref 85, .int (nI l)] [] σ _
        refine tw_sg 2 (i1 := 2) (ls1 := [.ref 85, .int (nI l)]) (st1 := [.int (nI l), .ref 85]) (σ1 := σ) rfl ?_
        refine tw_cl0 58 rfl (rfl) (by decide) ?_
        show tw_P L xs _ 74 0 [.ref 85, .int (nI l)] [] σ _
        refine tw_sg 1 (i1 := 1) (ls1 := [.ref 85, .int (nI l)]) (st1 := [.int (nI l)]) (σ1 := σ) rfl ?_
        refine tw_bzF (c := .lt) rfl (by rw [tw_clt', tw_nlt (by omega) (by omega)] <;> omega) ?_
        show tw_P L xs _ 74 2 [.ref 85, .int (nI l)] [] σ _
        refine tw_sg 2 (i1 := 4) (ls1 := [.ref 85, .int (nI l)]) (st1 := [.int (nI 4), .int (nI l)]) (σ1 := σ) rfl ?_
        refine tw_biF (c := .ge) rfl (by rw [tw_cge', tw_nle (by omega) (by omega)] <;> omega) ?_
        show tw_P L xs _ 74 5 [.ref 85, .int (nI l)] [] σ _
        refine tw_sg 2 (i1 := 8) (ls1 := [.ref 85, .int (nI l)]) (st1 := [.int (nI 1)]) (σ1 := σ) rfl ?_
        refine tw_ri rfl (rfl) ?_
        show tw_P L xs _ 75 3 [.ref 85, .int (nI l)] [.int (nI 1)] σ _
        refine tw_bzF (c := .eq) rfl (by rw [tw_ceq', tw_neq (by omega) (by omega)] <;> omega) ?_
        show tw_P L xs _ 75 4 [.ref 85, .int (nI l)] [] σ _
        refine tw_sg 3 (i1 := 7) (ls1 := [.ref 85, .int (nI l)]) (st1 := [.int (nI l), .ref 87]) (σ1 := σ) rfl ?_
        refine tw_al (k := 87) (j := l) (len := 4) rfl rfl rfl rfl (rfl) (by omega) (by decide) ?_
        rw [e1]
        refine tw_sg 1 (i1 := 9) (ls1 := [.ref 85, .int (nI l)]) (st1 := [.int (-1), .int (-1)]) (σ1 := σ) rfl ?_
        refine tw_biF (c := .ne) rfl (by rw [tw_cne'] <;> (exact rfl)) ?_
        show tw_P L xs _ 75 10 [.ref 85, .int (nI l)] [] σ _
        refine tw_sg 2 (i1 := 13) (ls1 := [.ref 85, .int (nI l)]) (st1 := [.int (nI 1)]) (σ1 := σ) rfl ?_
        refine tw_ri rfl (rfl) ?_
        show tw_P L xs _ 174 19 [.ref 1, .int (nI l), .int y, .int (nI i), .ref 9, tw_U] [.int (nI 1)] σ _
        refine tw_bzF (c := .eq) rfl (by rw [tw_ceq', tw_neq (by omega) (by omega)] <;> omega) ?_
        show tw_P L xs _ 174 20 [.ref 1, .int (nI l), .int y, .int (nI i), .ref 9, tw_U] [] σ _
        refine tw_sg 1 (i1 := 21) (ls1 := [.ref 1, .int (nI l), .int y, .int (nI i), .ref 9, tw_U]) (st1 := [.int (-11)]) (σ1 := σ) rfl ?_
        refine tw_ri rfl (rfl) ?_
        refine ⟨_, rfl, ?_⟩
        show tw_P L xs _ 255 0 [.ref 88, .int (nI l), .int y, .int (nI i), tw_U] [] σ _
        refine tw_sg 1 (i1 := 1) (ls1 := [.ref 88, .int (nI l), .int y, .int (nI i), tw_U]) (st1 := [.int (nI l)]) (σ1 := σ) rfl ?_
        refine tw_cl0 59 rfl (rfl) (by decide) ?_
        show tw_P L xs _ 250 0 [.int (nI l)] [] σ _
        refine tw_sg 3 (i1 := 3) (ls1 := [.int (nI l)]) (st1 := [.int (nI 3), .int (nI 0), .int (nI l)]) (σ1 := σ) rfl ?_
        refine tw_cl0 58 rfl (rfl) (by decide) ?_
        show tw_P L xs _ 182 0 [.int (nI l), .int (nI 0), .int (nI 3)] [] σ _
        refine tw_sg 2 (i1 := 2) (ls1 := [.int (nI l), .int (nI 0), .int (nI 3)]) (st1 := [.int (nI 0), .int (nI l)]) (σ1 := σ) rfl ?_
        refine tw_biF (c := .lt) rfl (by rw [tw_clt', tw_nlt (by omega) (by omega)] <;> omega) ?_
        show tw_P L xs _ 182 3 [.int (nI l), .int (nI 0), .int (nI 3)] [] σ _
        refine tw_sg 2 (i1 := 5) (ls1 := [.int (nI l), .int (nI 0), .int (nI 3)]) (st1 := [.int (nI 3), .int (nI l)]) (σ1 := σ) rfl ?_
        refine tw_biF (c := .gt) rfl (by rw [tw_cgt', tw_nlt (by omega) (by omega)] <;> omega) ?_
        show tw_P L xs _ 182 6 [.int (nI l), .int (nI 0), .int (nI 3)] [] σ _
        refine tw_sg 2 (i1 := 9) (ls1 := [.int (nI l), .int (nI 0), .int (nI 3)]) (st1 := [.int (nI 1)]) (σ1 := σ) rfl ?_
        refine tw_ri rfl (rfl) ?_
        show tw_P L xs _ 250 4 [.int (nI l)] [.int (nI 1)] σ _
        refine tw_ri rfl (rfl) ?_
        show tw_P L xs _ 255 2 [.ref 88, .int (nI l), .int y, .int (nI i), tw_U] [.int (nI 1)] σ _
        refine tw_bzF (c := .eq) rfl (by rw [tw_ceq', tw_neq (by omega) (by omega)] <;> omega) ?_
        show tw_P L xs _ 255 3 [.ref 88, .int (nI l), .int y, .int (nI i), tw_U] [] σ _
        refine tw_sg 2 (i1 := 5) (ls1 := [.ref 88, .int (nI l), .int y, .int (nI i), tw_U]) (st1 := [.int (nI i), .ref 88]) (σ1 := σ) rfl ?_
        refine tw_cl1 rfl (rfl) (by decide) (tw_e_isRow1 hr90 hr50 hi) ?_
        rintro _ _ ⟨rfl, rfl⟩
        show tw_P L xs _ 255 6 [.ref 88, .int (nI l), .int y, .int (nI i), tw_U] [.int (nI 1)] σ _
        refine tw_bzT (c := .ne) rfl (by rw [tw_cne, tw_neq (by omega) (by omega)] <;> omega) ?_
        show tw_P L xs _ 255 9 [.ref 88, .int (nI l), .int y, .int (nI i), tw_U] [] σ _
        refine tw_sg 3 (i1 := 12) (ls1 := [.ref 88, .int (nI l), .int y, .int (nI i), tw_U]) (st1 := [.int (nI l), .ref 117]) (σ1 := σ) rfl ?_
        refine tw_alb (k := 117) (j := l) (len := 4) rfl rfl (by decide) rfl (rfl) (by omega) (by decide) ?_
        rw [e2]
        refine tw_bzF (c := .ne) rfl (by rw [tw_cne', tw_neq (by omega) (by omega)] <;> omega) ?_
        show tw_P L xs _ 255 14 [.ref 88, .int (nI l), .int y, .int (nI i), tw_U] [] σ _
        refine tw_sg 1 (i1 := 15) (ls1 := [.ref 88, .int (nI l), .int y, .int (nI i), tw_U]) (st1 := [.int (-11)]) (σ1 := σ) rfl ?_
        refine tw_ri rfl (rfl) ?_
        exact ⟨rfl, hI⟩
      · rcases tw_nany y with hy | ⟨y1, hy1, rfl⟩
        · rcases Nat.eq_zero_or_pos n with hn0 | hpos
          · subst hn0
            show tw_P L xs _ 174 0 [.ref 1, .int (nI l), .int y, .int (nI i), tw_U, tw_U] [] σ _
            refine tw_sg 2 (i1 := 2) (ls1 := [.ref 1, .int (nI l), .int y, .int (nI i), tw_U, tw_U]) (st1 := [.ref 6]) (σ1 := σ) rfl ?_
            refine tw_cl0 59 rfl (rfl) (by decide) ?_
            show tw_P L xs _ 83 0 [.ref 6] [] σ _
            refine tw_sg 2 (i1 := 2) (ls1 := [.ref 6]) (st1 := [.ref 9]) (σ1 := σ) rfl ?_
            refine tw_ra rfl ?_
            show tw_P L xs _ 174 3 [.ref 1, .int (nI l), .int y, .int (nI i), tw_U, tw_U] [.ref 9] σ _
            refine tw_sg 4 (i1 := 7) (ls1 := [.ref 1, .int (nI l), .int y, .int (nI i), .ref 9, tw_U]) (st1 := [.int (nI l), .ref 85]) (σ1 := σ) rfl ?_
            refine tw_cl0 59 rfl (rfl) (by decide) ?_
            show tw_P L xs _ 74 0 [.ref 85, .int (nI l)] [] σ _
            refine tw_sg 1 (i1 := 1) (ls1 := [.ref 85, .int (nI l)]) (st1 := [.int (nI l)]) (σ1 := σ) rfl ?_
            refine tw_bzF (c := .lt) rfl (by rw [tw_clt', tw_nlt (by omega) (by omega)] <;> omega) ?_
            show tw_P L xs _ 74 2 [.ref 85, .int (nI l)] [] σ _
            refine tw_sg 2 (i1 := 4) (ls1 := [.ref 85, .int (nI l)]) (st1 := [.int (nI 4), .int (nI l)]) (σ1 := σ) rfl ?_
            refine tw_biF (c := .ge) rfl (by rw [tw_cge', tw_nle (by omega) (by omega)] <;> omega) ?_
            show tw_P L xs _ 74 5 [.ref 85, .int (nI l)] [] σ _
            refine tw_sg 2 (i1 := 8) (ls1 := [.ref 85, .int (nI l)]) (st1 := [.int (nI 1)]) (σ1 := σ) rfl ?_
            refine tw_ri rfl (rfl) ?_
            show tw_P L xs _ 174 8 [.ref 1, .int (nI l), .int y, .int (nI i), .ref 9, tw_U] [.int (nI 1)] σ _
            refine tw_bzF (c := .eq) rfl (by rw [tw_ceq', tw_neq (by omega) (by omega)] <;> omega) ?_
            show tw_P L xs _ 174 9 [.ref 1, .int (nI l), .int y, .int (nI i), .ref 9, tw_U] [] σ _
            refine tw_sg 2 (i1 := 11) (ls1 := [.ref 1, .int (nI l), .int y, .int (nI i), .ref 9, tw_U]) (st1 := [.int (nI i), .ref 9]) (σ1 := σ) rfl ?_
            refine tw_cl1 rfl (rfl) (by decide) (tw_e_hasRow1 hr9 hr50 hi) ?_
            rintro _ _ ⟨rfl, rfl⟩
            show tw_P L xs _ 174 12 [.ref 1, .int (nI l), .int y, .int (nI i), .ref 9, tw_U] [.int (nI 1)] σ _
            refine tw_bzT (c := .ne) rfl (by rw [tw_cne, tw_neq (by omega) (by omega)] <;> omega) ?_
            show tw_P L xs _ 174 15 [.ref 1, .int (nI l), .int y, .int (nI i), .ref 9, tw_U] [] σ _
            refine tw_sg 3 (i1 := 18) (ls1 := [.ref 1, .int (nI l), .int y, .int (nI i), .ref 9, tw_U]) (st1 := [.int (nI l), .ref 85]) (σ1 := σ) rfl ?_
            refine tw_cl0 59 rfl (rfl) (by decide) ?_
            show tw_P L xs _ 75 0 [.ref 85, .int (nI l)] [] σ _
            refine tw_sg 2 (i1 := 2) (ls1 := [.ref 85, .int (nI l)]) (st1 := [.int (nI l), .ref 85]) (σ1 := σ) rfl ?_
            refine tw_cl0 58 rfl (rfl) (by decide) ?_
            show tw_P L xs _ 74 0 [.ref 85, .int (nI l)] [] σ _
            refine tw_sg 1 (i1 := 1) (ls1 := [.ref 85, .int (nI l)]) (st1 := [.int (nI l)]) (σ1 := σ) rfl ?_
            refine tw_bzF (c := .lt) rfl (by rw [tw_clt', tw_nlt (by omega) (by omega)] <;> omega) ?_
            show tw_P L xs _ 74 2 [.ref 85, .int (nI l)] [] σ _
            refine tw_sg 2 (i1 := 4) (ls1 := [.ref 85, .int (nI l)]) (st1 := [.int (nI 4), .int (nI l)]) (σ1 := σ) rfl ?_
            refine tw_biF (c := .ge) rfl (by rw [tw_cge', tw_nle (by omega) (by omega)] <;> omega) ?_
            show tw_P L xs _ 74 5 [.ref 85, .int (nI l)] [] σ _
            refine tw_sg 2 (i1 := 8) (ls1 := [.ref 85, .int (nI l)]) (st1 := [.int (nI 1)]) (σ1 := σ) rfl ?_
            refine tw_ri rfl (rfl) ?_
            show tw_P L xs _ 75 3 [.ref 85, .int (nI l)] [.int (nI 1)] σ _
            refine tw_bzF (c := .eq) rfl (by rw [tw_ceq', tw_neq (by omega) (by omega)] <;> omega) ?_
            show tw_P L xs _ 75 4 [.ref 85, .int (nI l)] [] σ _
            refine tw_sg 3 (i1 := 7) (ls1 := [.ref 85, .int (nI l)]) (st1 := [.int (nI l), .ref 87]) (σ1 := σ) rfl ?_
            refine tw_al (k := 87) (j := l) (len := 4) rfl rfl rfl rfl (rfl) (by omega) (by decide) ?_
            rw [e1]
            refine tw_sg 1 (i1 := 9) (ls1 := [.ref 85, .int (nI l)]) (st1 := [.int (-1), .int (nI s)]) (σ1 := σ) rfl ?_
            refine tw_biT (c := .ne) rfl (by rw [tw_cne] <;> (exact (tw_nne1 (by omega)))) ?_
            show tw_P L xs _ 75 12 [.ref 85, .int (nI l)] [] σ _
            refine tw_sg 1 (i1 := 13) (ls1 := [.ref 85, .int (nI l)]) (st1 := [.int (nI 0)]) (σ1 := σ) rfl ?_
            refine tw_ri rfl (rfl) ?_
            show tw_P L xs _ 174 19 [.ref 1, .int (nI l), .int y, .int (nI i), .ref 9, tw_U] [.int (nI 0)] σ _
            refine tw_bzT (c := .eq) rfl (by rw [tw_ceq, tw_neq (by omega) (by omega)] <;> omega) ?_
            show tw_P L xs _ 174 22 [.ref 1, .int (nI l), .int y, .int (nI i), .ref 9, tw_U] [] σ _
            refine tw_sg 4 (i1 := 26) (ls1 := [.ref 1, .int (nI l), .int y, .int (nI i), .ref 9, .int (nI 0)]) (st1 := [.ref 9, .int (nI 0)]) (σ1 := σ) rfl ?_
            refine tw_cl0 59 rfl (rfl) (by decide) ?_
            show tw_P L xs _ 18 0 [.ref 9] [] σ _
            refine tw_sgn 2 (i1 := 2) (ls0 := [.ref 9]) (st0 := [.int (σ 9 4)]) (σ0 := σ) (ls1 := [.ref 9]) (st1 := [.int (nI 0)]) (σ1 := σ) rfl (rfl) (by simp only [hw9, tw_nadd, tw_nmul]) (rfl) ?_
            refine tw_ri rfl (rfl) ?_
            show tw_P L xs _ 174 27 [.ref 1, .int (nI l), .int y, .int (nI i), .ref 9, .int (nI 0)] [.int (nI 0), .int (nI 0)] σ _
            refine tw_biT (c := .ge) rfl (by rw [tw_cge, tw_nle (by omega) (by omega)] <;> omega) ?_
            show tw_P L xs _ 174 56 [.ref 1, .int (nI l), .int y, .int (nI i), .ref 9, .int (nI 0)] [] σ _
            refine tw_sg 1 (i1 := 57) (ls1 := [.ref 1, .int (nI l), .int y, .int (nI i), .ref 9, .int (nI 0)]) (st1 := [.int (-5)]) (σ1 := σ) rfl ?_
            refine tw_ri rfl (rfl) ?_
            refine ⟨_, rfl, ?_⟩
            show tw_P L xs _ 255 0 [.ref 88, .int (nI l), .int y, .int (nI i), tw_U] [] σ _
            refine tw_sg 1 (i1 := 1) (ls1 := [.ref 88, .int (nI l), .int y, .int (nI i), tw_U]) (st1 := [.int (nI l)]) (σ1 := σ) rfl ?_
            refine tw_cl0 59 rfl (rfl) (by decide) ?_
            show tw_P L xs _ 250 0 [.int (nI l)] [] σ _
            refine tw_sg 3 (i1 := 3) (ls1 := [.int (nI l)]) (st1 := [.int (nI 3), .int (nI 0), .int (nI l)]) (σ1 := σ) rfl ?_
            refine tw_cl0 58 rfl (rfl) (by decide) ?_
            show tw_P L xs _ 182 0 [.int (nI l), .int (nI 0), .int (nI 3)] [] σ _
            refine tw_sg 2 (i1 := 2) (ls1 := [.int (nI l), .int (nI 0), .int (nI 3)]) (st1 := [.int (nI 0), .int (nI l)]) (σ1 := σ) rfl ?_
            refine tw_biF (c := .lt) rfl (by rw [tw_clt', tw_nlt (by omega) (by omega)] <;> omega) ?_
            show tw_P L xs _ 182 3 [.int (nI l), .int (nI 0), .int (nI 3)] [] σ _
            refine tw_sg 2 (i1 := 5) (ls1 := [.int (nI l), .int (nI 0), .int (nI 3)]) (st1 := [.int (nI 3), .int (nI l)]) (σ1 := σ) rfl ?_
            refine tw_biF (c := .gt) rfl (by rw [tw_cgt', tw_nlt (by omega) (by omega)] <;> omega) ?_
            show tw_P L xs _ 182 6 [.int (nI l), .int (nI 0), .int (nI 3)] [] σ _
            refine tw_sg 2 (i1 := 9) (ls1 := [.int (nI l), .int (nI 0), .int (nI 3)]) (st1 := [.int (nI 1)]) (σ1 := σ) rfl ?_
            refine tw_ri rfl (rfl) ?_
            show tw_P L xs _ 250 4 [.int (nI l)] [.int (nI 1)] σ _
            refine tw_ri rfl (rfl) ?_
            show tw_P L xs _ 255 2 [.ref 88, .int (nI l), .int y, .int (nI i), tw_U] [.int (nI 1)] σ _
            refine tw_bzF (c := .eq) rfl (by rw [tw_ceq', tw_neq (by omega) (by omega)] <;> omega) ?_
            show tw_P L xs _ 255 3 [.ref 88, .int (nI l), .int y, .int (nI i), tw_U] [] σ _
            refine tw_sg 2 (i1 := 5) (ls1 := [.ref 88, .int (nI l), .int y, .int (nI i), tw_U]) (st1 := [.int (nI i), .ref 88]) (σ1 := σ) rfl ?_
            refine tw_cl1 rfl (rfl) (by decide) (tw_e_isRow1 hr90 hr50 hi) ?_
            rintro _ _ ⟨rfl, rfl⟩
            show tw_P L xs _ 255 6 [.ref 88, .int (nI l), .int y, .int (nI i), tw_U] [.int (nI 1)] σ _
            refine tw_bzT (c := .ne) rfl (by rw [tw_cne, tw_neq (by omega) (by omega)] <;> omega) ?_
            show tw_P L xs _ 255 9 [.ref 88, .int (nI l), .int y, .int (nI i), tw_U] [] σ _
            refine tw_sg 3 (i1 := 12) (ls1 := [.ref 88, .int (nI l), .int y, .int (nI i), tw_U]) (st1 := [.int (nI l), .ref 117]) (σ1 := σ) rfl ?_
            refine tw_alb (k := 117) (j := l) (len := 4) rfl rfl (by decide) rfl (rfl) (by omega) (by decide) ?_
            rw [e2]
            refine tw_bzT (c := .ne) rfl (by rw [tw_cne, tw_neq (by omega) (by omega)] <;> omega) ?_
            show tw_P L xs _ 255 16 [.ref 88, .int (nI l), .int y, .int (nI i), tw_U] [] σ _
            refine tw_sg 6 (i1 := 22) (ls1 := [.ref 88, .int (nI l), .int y, .int (nI i), .int (nI 0)]) (st1 := [.int (nI 0), .ref 89, .int (nI 0)]) (σ1 := σ) rfl ?_
            refine tw_al (k := 89) (j := 0) (len := 2) rfl rfl rfl rfl (rfl) (by omega) (by decide) ?_
            rw [hn89]
            refine tw_biT (c := .ge) rfl (by rw [tw_cge, tw_nle (by omega) (by omega)] <;> omega) ?_
            show tw_P L xs _ 255 61 [.ref 88, .int (nI l), .int y, .int (nI i), .int (nI 0)] [] σ _
            refine tw_sg 1 (i1 := 62) (ls1 := [.ref 88, .int (nI l), .int y, .int (nI i), .int (nI 0)]) (st1 := [.int (-5)]) (σ1 := σ) rfl ?_
            refine tw_ri rfl (rfl) ?_
            exact ⟨rfl, hI⟩
          · skip
            show tw_P L xs _ 174 0 [.ref 1, .int (nI l), .int y, .int (nI i), tw_U, tw_U] [] σ _
            refine tw_sg 2 (i1 := 2) (ls1 := [.ref 1, .int (nI l), .int y, .int (nI i), tw_U, tw_U]) (st1 := [.ref 6]) (σ1 := σ) rfl ?_
            refine tw_cl0 59 rfl (rfl) (by decide) ?_
            show tw_P L xs _ 83 0 [.ref 6] [] σ _
            refine tw_sg 2 (i1 := 2) (ls1 := [.ref 6]) (st1 := [.ref 9]) (σ1 := σ) rfl ?_
            refine tw_ra rfl ?_
            show tw_P L xs _ 174 3 [.ref 1, .int (nI l), .int y, .int (nI i), tw_U, tw_U] [.ref 9] σ _
            refine tw_sg 4 (i1 := 7) (ls1 := [.ref 1, .int (nI l), .int y, .int (nI i), .ref 9, tw_U]) (st1 := [.int (nI l), .ref 85]) (σ1 := σ) rfl ?_
            refine tw_cl0 59 rfl (rfl) (by decide) ?_
            show tw_P L xs _ 74 0 [.ref 85, .int (nI l)] [] σ _
            refine tw_sg 1 (i1 := 1) (ls1 := [.ref 85, .int (nI l)]) (st1 := [.int (nI l)]) (σ1 := σ) rfl ?_
            refine tw_bzF (c := .lt) rfl (by rw [tw_clt', tw_nlt (by omega) (by omega)] <;> omega) ?_
            show tw_P L xs _ 74 2 [.ref 85, .int (nI l)] [] σ _
            refine tw_sg 2 (i1 := 4) (ls1 := [.ref 85, .int (nI l)]) (st1 := [.int (nI 4), .int (nI l)]) (σ1 := σ) rfl ?_
            refine tw_biF (c := .ge) rfl (by rw [tw_cge', tw_nle (by omega) (by omega)] <;> omega) ?_
            show tw_P L xs _ 74 5 [.ref 85, .int (nI l)] [] σ _
            refine tw_sg 2 (i1 := 8) (ls1 := [.ref 85, .int (nI l)]) (st1 := [.int (nI 1)]) (σ1 := σ) rfl ?_
            refine tw_ri rfl (rfl) ?_
            show tw_P L xs _ 174 8 [.ref 1, .int (nI l), .int y, .int (nI i), .ref 9, tw_U] [.int (nI 1)] σ _
            refine tw_bzF (c := .eq) rfl (by rw [tw_ceq', tw_neq (by omega) (by omega)] <;> omega) ?_
            show tw_P L xs _ 174 9 [.ref 1, .int (nI l), .int y, .int (nI i), .ref 9, tw_U] [] σ _
            refine tw_sg 2 (i1 := 11) (ls1 := [.ref 1, .int (nI l), .int y, .int (nI i), .ref 9, tw_U]) (st1 := [.int (nI i), .ref 9]) (σ1 := σ) rfl ?_
            refine tw_cl1 rfl (rfl) (by decide) (tw_e_hasRow1 hr9 hr50 hi) ?_
            rintro _ _ ⟨rfl, rfl⟩
            show tw_P L xs _ 174 12 [.ref 1, .int (nI l), .int y, .int (nI i), .ref 9, tw_U] [.int (nI 1)] σ _
            refine tw_bzT (c := .ne) rfl (by rw [tw_cne, tw_neq (by omega) (by omega)] <;> omega) ?_
            show tw_P L xs _ 174 15 [.ref 1, .int (nI l), .int y, .int (nI i), .ref 9, tw_U] [] σ _
            refine tw_sg 3 (i1 := 18) (ls1 := [.ref 1, .int (nI l), .int y, .int (nI i), .ref 9, tw_U]) (st1 := [.int (nI l), .ref 85]) (σ1 := σ) rfl ?_
            refine tw_cl0 59 rfl (rfl) (by decide) ?_
            show tw_P L xs _ 75 0 [.ref 85, .int (nI l)] [] σ _
            refine tw_sg 2 (i1 := 2) (ls1 := [.ref 85, .int (nI l)]) (st1 := [.int (nI l), .ref 85]) (σ1 := σ) rfl ?_
            refine tw_cl0 58 rfl (rfl) (by decide) ?_
            show tw_P L xs _ 74 0 [.ref 85, .int (nI l)] [] σ _
            refine tw_sg 1 (i1 := 1) (ls1 := [.ref 85, .int (nI l)]) (st1 := [.int (nI l)]) (σ1 := σ) rfl ?_
            refine tw_bzF (c := .lt) rfl (by rw [tw_clt', tw_nlt (by omega) (by omega)] <;> omega) ?_
            show tw_P L xs _ 74 2 [.ref 85, .int (nI l)] [] σ _
            refine tw_sg 2 (i1 := 4) (ls1 := [.ref 85, .int (nI l)]) (st1 := [.int (nI 4), .int (nI l)]) (σ1 := σ) rfl ?_
            refine tw_biF (c := .ge) rfl (by rw [tw_cge', tw_nle (by omega) (by omega)] <;> omega) ?_
            show tw_P L xs _ 74 5 [.ref 85, .int (nI l)] [] σ _
            refine tw_sg 2 (i1 := 8) (ls1 := [.ref 85, .int (nI l)]) (st1 := [.int (nI 1)]) (σ1 := σ) rfl ?_
            refine tw_ri rfl (rfl) ?_
            show tw_P L xs _ 75 3 [.ref 85, .int (nI l)] [.int (nI 1)] σ _
            refine tw_bzF (c := .eq) rfl (by rw [tw_ceq', tw_neq (by omega) (by omega)] <;> omega) ?_
            show tw_P L xs _ 75 4 [.ref 85, .int (nI l)] [] σ _
            refine tw_sg 3 (i1 := 7) (ls1 := [.ref 85, .int (nI l)]) (st1 := [.int (nI l), .ref 87]) (σ1 := σ) rfl ?_
            refine tw_al (k := 87) (j := l) (len := 4) rfl rfl rfl rfl (rfl) (by omega) (by decide) ?_
            rw [e1]
            refine tw_sg 1 (i1 := 9) (ls1 := [.ref 85, .int (nI l)]) (st1 := [.int (-1), .int (nI s)]) (σ1 := σ) rfl ?_
            refine tw_biT (c := .ne) rfl (by rw [tw_cne] <;> (exact (tw_nne1 (by omega)))) ?_
            show tw_P L xs _ 75 12 [.ref 85, .int (nI l)] [] σ _
            refine tw_sg 1 (i1 := 13) (ls1 := [.ref 85, .int (nI l)]) (st1 := [.int (nI 0)]) (σ1 := σ) rfl ?_
            refine tw_ri rfl (rfl) ?_
            show tw_P L xs _ 174 19 [.ref 1, .int (nI l), .int y, .int (nI i), .ref 9, tw_U] [.int (nI 0)] σ _
            refine tw_bzT (c := .eq) rfl (by rw [tw_ceq, tw_neq (by omega) (by omega)] <;> omega) ?_
            show tw_P L xs _ 174 22 [.ref 1, .int (nI l), .int y, .int (nI i), .ref 9, tw_U] [] σ _
            refine tw_sg 4 (i1 := 26) (ls1 := [.ref 1, .int (nI l), .int y, .int (nI i), .ref 9, .int (nI 0)]) (st1 := [.ref 9, .int (nI 0)]) (σ1 := σ) rfl ?_
            refine tw_cl0 59 rfl (rfl) (by decide) ?_
            show tw_P L xs _ 18 0 [.ref 9] [] σ _
            refine tw_sgn 2 (i1 := 2) (ls0 := [.ref 9]) (st0 := [.int (σ 9 4)]) (σ0 := σ) (ls1 := [.ref 9]) (st1 := [.int (nI n)]) (σ1 := σ) rfl (rfl) (by simp only [hw9, tw_nadd, tw_nmul]) (rfl) ?_
            refine tw_ri rfl (rfl) ?_
            show tw_P L xs _ 174 27 [.ref 1, .int (nI l), .int y, .int (nI i), .ref 9, .int (nI 0)] [.int (nI n), .int (nI 0)] σ _
            refine tw_biF (c := .ge) rfl (by rw [tw_cge', tw_nle (by omega) (by omega)] <;> omega) ?_
            show tw_P L xs _ 174 28 [.ref 1, .int (nI l), .int y, .int (nI i), .ref 9, .int (nI 0)] [] σ _
            refine tw_sg 5 (i1 := 33) (ls1 := [.ref 1, .int (nI l), .int y, .int (nI i), .ref 9, .int (nI 0)]) (st1 := [.int (nI 0), .int y, .int (nI l), .ref 85]) (σ1 := σ) rfl ?_
            refine tw_cl0 59 rfl (rfl) (by decide) ?_
            show tw_P L xs _ 77 0 [.ref 85, .int (nI l), .int y, .int (nI 0)] [] σ _
            refine tw_sg 3 (i1 := 3) (ls1 := [.ref 85, .int (nI l), .int y, .int (nI 0)]) (st1 := [.int y, .int (nI l), .ref 85]) (σ1 := σ) rfl ?_
            refine tw_cl0 58 rfl (rfl) (by decide) ?_
            show tw_P L xs _ 76 0 [.ref 85, .int (nI l), .int y] [] σ _
            refine tw_sg 2 (i1 := 2) (ls1 := [.ref 85, .int (nI l), .int y]) (st1 := [.int (nI l), .ref 85]) (σ1 := σ) rfl ?_
            refine tw_cl0 57 rfl (rfl) (by decide) ?_
            show tw_P L xs _ 74 0 [.ref 85, .int (nI l)] [] σ _
            refine tw_sg 1 (i1 := 1) (ls1 := [.ref 85, .int (nI l)]) (st1 := [.int (nI l)]) (σ1 := σ) rfl ?_
            refine tw_bzF (c := .lt) rfl (by rw [tw_clt', tw_nlt (by omega) (by omega)] <;> omega) ?_
            show tw_P L xs _ 74 2 [.ref 85, .int (nI l)] [] σ _
            refine tw_sg 2 (i1 := 4) (ls1 := [.ref 85, .int (nI l)]) (st1 := [.int (nI 4), .int (nI l)]) (σ1 := σ) rfl ?_
            refine tw_biF (c := .ge) rfl (by rw [tw_cge', tw_nle (by omega) (by omega)] <;> omega) ?_
            show tw_P L xs _ 74 5 [.ref 85, .int (nI l)] [] σ _
            refine tw_sg 2 (i1 := 8) (ls1 := [.ref 85, .int (nI l)]) (st1 := [.int (nI 1)]) (σ1 := σ) rfl ?_
            refine tw_ri rfl (rfl) ?_
            show tw_P L xs _ 76 3 [.ref 85, .int (nI l), .int y] [.int (nI 1)] σ _
            refine tw_bzF (c := .eq) rfl (by rw [tw_ceq', tw_neq (by omega) (by omega)] <;> omega) ?_
            show tw_P L xs _ 76 4 [.ref 85, .int (nI l), .int y] [] σ _
            refine tw_sg 1 (i1 := 5) (ls1 := [.ref 85, .int (nI l), .int y]) (st1 := [.int y]) (σ1 := σ) rfl ?_
            refine tw_bzT (c := .lt) rfl (by rw [tw_clt] <;> (exact hy)) ?_
            show tw_P L xs _ 76 14 [.ref 85, .int (nI l), .int y] [] σ _
            refine tw_sg 1 (i1 := 15) (ls1 := [.ref 85, .int (nI l), .int y]) (st1 := [.int (nI 0)]) (σ1 := σ) rfl ?_
            refine tw_ri rfl (rfl) ?_
            show tw_P L xs _ 77 4 [.ref 85, .int (nI l), .int y, .int (nI 0)] [.int (nI 0)] σ _
            refine tw_bzT (c := .eq) rfl (by rw [tw_ceq, tw_neq (by omega) (by omega)] <;> omega) ?_
            show tw_P L xs _ 77 14 [.ref 85, .int (nI l), .int y, .int (nI 0)] [] σ _
            refine tw_sg 1 (i1 := 15) (ls1 := [.ref 85, .int (nI l), .int y, .int (nI 0)]) (st1 := [.int (nI 0)]) (σ1 := σ) rfl ?_
            refine tw_ri rfl (rfl) ?_
            show tw_P L xs _ 174 34 [.ref 1, .int (nI l), .int y, .int (nI i), .ref 9, .int (nI 0)] [.int (nI 0)] σ _
            refine tw_bzF (c := .ne) rfl (by rw [tw_cne', tw_neq (by omega) (by omega)] <;> omega) ?_
            show tw_P L xs _ 174 35 [.ref 1, .int (nI l), .int y, .int (nI i), .ref 9, .int (nI 0)] [] σ _
            refine tw_sgn 3 (i1 := 38) (ls0 := [.ref 1, .int (nI l), .int y, .int (nI i), .ref 9, .int (nI 0)]) (st0 := [.int (nI 100 + nI 0)]) (σ0 := σ) (ls1 := [.ref 1, .int (nI l), .int y, .int (nI i), .ref 9, .int (nI 0)]) (st1 := [.int (nI (100 + 0))]) (σ1 := σ) rfl (rfl) (by simp only [tw_nadd, tw_nmul]) (rfl) ?_
            refine tw_ri rfl (rfl) ?_
            refine ⟨_, rfl, ?_⟩
            show tw_P L xs _ 255 0 [.ref 88, .int (nI l), .int y, .int (nI i), tw_U] [] σ _
            refine tw_sg 1 (i1 := 1) (ls1 := [.ref 88, .int (nI l), .int y, .int (nI i), tw_U]) (st1 := [.int (nI l)]) (σ1 := σ) rfl ?_
            refine tw_cl0 59 rfl (rfl) (by decide) ?_
            show tw_P L xs _ 250 0 [.int (nI l)] [] σ _
            refine tw_sg 3 (i1 := 3) (ls1 := [.int (nI l)]) (st1 := [.int (nI 3), .int (nI 0), .int (nI l)]) (σ1 := σ) rfl ?_
            refine tw_cl0 58 rfl (rfl) (by decide) ?_
            show tw_P L xs _ 182 0 [.int (nI l), .int (nI 0), .int (nI 3)] [] σ _
            refine tw_sg 2 (i1 := 2) (ls1 := [.int (nI l), .int (nI 0), .int (nI 3)]) (st1 := [.int (nI 0), .int (nI l)]) (σ1 := σ) rfl ?_
            refine tw_biF (c := .lt) rfl (by rw [tw_clt', tw_nlt (by omega) (by omega)] <;> omega) ?_
            show tw_P L xs _ 182 3 [.int (nI l), .int (nI 0), .int (nI 3)] [] σ _
            refine tw_sg 2 (i1 := 5) (ls1 := [.int (nI l), .int (nI 0), .int (nI 3)]) (st1 := [.int (nI 3), .int (nI l)]) (σ1 := σ) rfl ?_
            refine tw_biF (c := .gt) rfl (by rw [tw_cgt', tw_nlt (by omega) (by omega)] <;> omega) ?_
            show tw_P L xs _ 182 6 [.int (nI l), .int (nI 0), .int (nI 3)] [] σ _
            refine tw_sg 2 (i1 := 9) (ls1 := [.int (nI l), .int (nI 0), .int (nI 3)]) (st1 := [.int (nI 1)]) (σ1 := σ) rfl ?_
            refine tw_ri rfl (rfl) ?_
            show tw_P L xs _ 250 4 [.int (nI l)] [.int (nI 1)] σ _
            refine tw_ri rfl (rfl) ?_
            show tw_P L xs _ 255 2 [.ref 88, .int (nI l), .int y, .int (nI i), tw_U] [.int (nI 1)] σ _
            refine tw_bzF (c := .eq) rfl (by rw [tw_ceq', tw_neq (by omega) (by omega)] <;> omega) ?_
            show tw_P L xs _ 255 3 [.ref 88, .int (nI l), .int y, .int (nI i), tw_U] [] σ _
            refine tw_sg 2 (i1 := 5) (ls1 := [.ref 88, .int (nI l), .int y, .int (nI i), tw_U]) (st1 := [.int (nI i), .ref 88]) (σ1 := σ) rfl ?_
            refine tw_cl1 rfl (rfl) (by decide) (tw_e_isRow1 hr90 hr50 hi) ?_
            rintro _ _ ⟨rfl, rfl⟩
            show tw_P L xs _ 255 6 [.ref 88, .int (nI l), .int y, .int (nI i), tw_U] [.int (nI 1)] σ _
            refine tw_bzT (c := .ne) rfl (by rw [tw_cne, tw_neq (by omega) (by omega)] <;> omega) ?_
            show tw_P L xs _ 255 9 [.ref 88, .int (nI l), .int y, .int (nI i), tw_U] [] σ _
            refine tw_sg 3 (i1 := 12) (ls1 := [.ref 88, .int (nI l), .int y, .int (nI i), tw_U]) (st1 := [.int (nI l), .ref 117]) (σ1 := σ) rfl ?_
            refine tw_alb (k := 117) (j := l) (len := 4) rfl rfl (by decide) rfl (rfl) (by omega) (by decide) ?_
            rw [e2]
            refine tw_bzT (c := .ne) rfl (by rw [tw_cne, tw_neq (by omega) (by omega)] <;> omega) ?_
            show tw_P L xs _ 255 16 [.ref 88, .int (nI l), .int y, .int (nI i), tw_U] [] σ _
            refine tw_sg 6 (i1 := 22) (ls1 := [.ref 88, .int (nI l), .int y, .int (nI i), .int (nI 0)]) (st1 := [.int (nI 0), .ref 89, .int (nI 0)]) (σ1 := σ) rfl ?_
            refine tw_al (k := 89) (j := 0) (len := 2) rfl rfl rfl rfl (rfl) (by omega) (by decide) ?_
            rw [hn89]
            refine tw_biF (c := .ge) rfl (by rw [tw_cge', tw_nle (by omega) (by omega)] <;> omega) ?_
            show tw_P L xs _ 255 24 [.ref 88, .int (nI l), .int y, .int (nI i), .int (nI 0)] [] σ _
            refine tw_sg 1 (i1 := 25) (ls1 := [.ref 88, .int (nI l), .int y, .int (nI i), .int (nI 0)]) (st1 := [.int y]) (σ1 := σ) rfl ?_
            refine tw_bzT (c := .lt) rfl (by rw [tw_clt] <;> (exact hy)) ?_
            show tw_P L xs _ 255 34 [.ref 88, .int (nI l), .int y, .int (nI i), .int (nI 0)] [] σ _
            refine tw_sgn 3 (i1 := 37) (ls0 := [.ref 88, .int (nI l), .int y, .int (nI i), .int (nI 0)]) (st0 := [.int (nI 100 + nI 0)]) (σ0 := σ) (ls1 := [.ref 88, .int (nI l), .int y, .int (nI i), .int (nI 0)]) (st1 := [.int (nI (100 + 0))]) (σ1 := σ) rfl (rfl) (by simp only [tw_nadd, tw_nmul]) (rfl) ?_
            refine tw_ri rfl (rfl) ?_
            exact ⟨rfl, hI⟩
        · skip
          show tw_P L xs _ 174 0 [.ref 1, .int (nI l), .int (nI y1), .int (nI i), tw_U, tw_U] [] σ _
          refine tw_sg 2 (i1 := 2) (ls1 := [.ref 1, .int (nI l), .int (nI y1), .int (nI i), tw_U, tw_U]) (st1 := [.ref 6]) (σ1 := σ) rfl ?_
          refine tw_cl0 59 rfl (rfl) (by decide) ?_
          show tw_P L xs _ 83 0 [.ref 6] [] σ _
          refine tw_sg 2 (i1 := 2) (ls1 := [.ref 6]) (st1 := [.ref 9]) (σ1 := σ) rfl ?_
          refine tw_ra rfl ?_
          show tw_P L xs _ 174 3 [.ref 1, .int (nI l), .int (nI y1), .int (nI i), tw_U, tw_U] [.ref 9] σ _
          refine tw_sg 4 (i1 := 7) (ls1 := [.ref 1, .int (nI l), .int (nI y1), .int (nI i), .ref 9, tw_U]) (st1 := [.int (nI l), .ref 85]) (σ1 := σ) rfl ?_
          refine tw_cl0 59 rfl (rfl) (by decide) ?_
          show tw_P L xs _ 74 0 [.ref 85, .int (nI l)] [] σ _
          refine tw_sg 1 (i1 := 1) (ls1 := [.ref 85, .int (nI l)]) (st1 := [.int (nI l)]) (σ1 := σ) rfl ?_
          refine tw_bzF (c := .lt) rfl (by rw [tw_clt', tw_nlt (by omega) (by omega)] <;> omega) ?_
          show tw_P L xs _ 74 2 [.ref 85, .int (nI l)] [] σ _
          refine tw_sg 2 (i1 := 4) (ls1 := [.ref 85, .int (nI l)]) (st1 := [.int (nI 4), .int (nI l)]) (σ1 := σ) rfl ?_
          refine tw_biF (c := .ge) rfl (by rw [tw_cge', tw_nle (by omega) (by omega)] <;> omega) ?_
          show tw_P L xs _ 74 5 [.ref 85, .int (nI l)] [] σ _
          refine tw_sg 2 (i1 := 8) (ls1 := [.ref 85, .int (nI l)]) (st1 := [.int (nI 1)]) (σ1 := σ) rfl ?_
          refine tw_ri rfl (rfl) ?_
          show tw_P L xs _ 174 8 [.ref 1, .int (nI l), .int (nI y1), .int (nI i), .ref 9, tw_U] [.int (nI 1)] σ _
          refine tw_bzF (c := .eq) rfl (by rw [tw_ceq', tw_neq (by omega) (by omega)] <;> omega) ?_
          show tw_P L xs _ 174 9 [.ref 1, .int (nI l), .int (nI y1), .int (nI i), .ref 9, tw_U] [] σ _
          refine tw_sg 2 (i1 := 11) (ls1 := [.ref 1, .int (nI l), .int (nI y1), .int (nI i), .ref 9, tw_U]) (st1 := [.int (nI i), .ref 9]) (σ1 := σ) rfl ?_
          refine tw_cl1 rfl (rfl) (by decide) (tw_e_hasRow1 hr9 hr50 hi) ?_
          rintro _ _ ⟨rfl, rfl⟩
          show tw_P L xs _ 174 12 [.ref 1, .int (nI l), .int (nI y1), .int (nI i), .ref 9, tw_U] [.int (nI 1)] σ _
          refine tw_bzT (c := .ne) rfl (by rw [tw_cne, tw_neq (by omega) (by omega)] <;> omega) ?_
          show tw_P L xs _ 174 15 [.ref 1, .int (nI l), .int (nI y1), .int (nI i), .ref 9, tw_U] [] σ _
          refine tw_sg 3 (i1 := 18) (ls1 := [.ref 1, .int (nI l), .int (nI y1), .int (nI i), .ref 9, tw_U]) (st1 := [.int (nI l), .ref 85]) (σ1 := σ) rfl ?_
          refine tw_cl0 59 rfl (rfl) (by decide) ?_
          show tw_P L xs _ 75 0 [.ref 85, .int (nI l)] [] σ _
          refine tw_sg 2 (i1 := 2) (ls1 := [.ref 85, .int (nI l)]) (st1 := [.int (nI l), .ref 85]) (σ1 := σ) rfl ?_
          refine tw_cl0 58 rfl (rfl) (by decide) ?_
          show tw_P L xs _ 74 0 [.ref 85, .int (nI l)] [] σ _
          refine tw_sg 1 (i1 := 1) (ls1 := [.ref 85, .int (nI l)]) (st1 := [.int (nI l)]) (σ1 := σ) rfl ?_
          refine tw_bzF (c := .lt) rfl (by rw [tw_clt', tw_nlt (by omega) (by omega)] <;> omega) ?_
          show tw_P L xs _ 74 2 [.ref 85, .int (nI l)] [] σ _
          refine tw_sg 2 (i1 := 4) (ls1 := [.ref 85, .int (nI l)]) (st1 := [.int (nI 4), .int (nI l)]) (σ1 := σ) rfl ?_
          refine tw_biF (c := .ge) rfl (by rw [tw_cge', tw_nle (by omega) (by omega)] <;> omega) ?_
          show tw_P L xs _ 74 5 [.ref 85, .int (nI l)] [] σ _
          refine tw_sg 2 (i1 := 8) (ls1 := [.ref 85, .int (nI l)]) (st1 := [.int (nI 1)]) (σ1 := σ) rfl ?_
          refine tw_ri rfl (rfl) ?_
          show tw_P L xs _ 75 3 [.ref 85, .int (nI l)] [.int (nI 1)] σ _
          refine tw_bzF (c := .eq) rfl (by rw [tw_ceq', tw_neq (by omega) (by omega)] <;> omega) ?_
          show tw_P L xs _ 75 4 [.ref 85, .int (nI l)] [] σ _
          refine tw_sg 3 (i1 := 7) (ls1 := [.ref 85, .int (nI l)]) (st1 := [.int (nI l), .ref 87]) (σ1 := σ) rfl ?_
          refine tw_al (k := 87) (j := l) (len := 4) rfl rfl rfl rfl (rfl) (by omega) (by decide) ?_
          rw [e1]
          refine tw_sg 1 (i1 := 9) (ls1 := [.ref 85, .int (nI l)]) (st1 := [.int (-1), .int (nI s)]) (σ1 := σ) rfl ?_
          refine tw_biT (c := .ne) rfl (by rw [tw_cne] <;> (exact (tw_nne1 (by omega)))) ?_
          show tw_P L xs _ 75 12 [.ref 85, .int (nI l)] [] σ _
          refine tw_sg 1 (i1 := 13) (ls1 := [.ref 85, .int (nI l)]) (st1 := [.int (nI 0)]) (σ1 := σ) rfl ?_
          refine tw_ri rfl (rfl) ?_
          show tw_P L xs _ 174 19 [.ref 1, .int (nI l), .int (nI y1), .int (nI i), .ref 9, tw_U] [.int (nI 0)] σ _
          refine tw_bzT (c := .eq) rfl (by rw [tw_ceq, tw_neq (by omega) (by omega)] <;> omega) ?_
          show tw_P L xs _ 174 22 [.ref 1, .int (nI l), .int (nI y1), .int (nI i), .ref 9, tw_U] [] σ _
          refine tw_sg 2 (i1 := 24) (ls1 := [.ref 1, .int (nI l), .int (nI y1), .int (nI i), .ref 9, .int (nI 0)]) (st1 := []) (σ1 := σ) rfl ?_
          refine tw_P_le (d := 5) (tw_l_judC hl hs hy1 hi hr50 hn10 e1 hr9 hw9 (tw_isF0 hRo) e4 n 0 (by omega) ⟨_, rfl, ?_⟩) (by decide)
          show tw_P L xs _ 255 0 [.ref 88, .int (nI l), .int (nI y1), .int (nI i), tw_U] [] σ _
          refine tw_sg 1 (i1 := 1) (ls1 := [.ref 88, .int (nI l), .int (nI y1), .int (nI i), tw_U]) (st1 := [.int (nI l)]) (σ1 := σ) rfl ?_
          refine tw_cl0 59 rfl (rfl) (by decide) ?_
          show tw_P L xs _ 250 0 [.int (nI l)] [] σ _
          refine tw_sg 3 (i1 := 3) (ls1 := [.int (nI l)]) (st1 := [.int (nI 3), .int (nI 0), .int (nI l)]) (σ1 := σ) rfl ?_
          refine tw_cl0 58 rfl (rfl) (by decide) ?_
          show tw_P L xs _ 182 0 [.int (nI l), .int (nI 0), .int (nI 3)] [] σ _
          refine tw_sg 2 (i1 := 2) (ls1 := [.int (nI l), .int (nI 0), .int (nI 3)]) (st1 := [.int (nI 0), .int (nI l)]) (σ1 := σ) rfl ?_
          refine tw_biF (c := .lt) rfl (by rw [tw_clt', tw_nlt (by omega) (by omega)] <;> omega) ?_
          show tw_P L xs _ 182 3 [.int (nI l), .int (nI 0), .int (nI 3)] [] σ _
          refine tw_sg 2 (i1 := 5) (ls1 := [.int (nI l), .int (nI 0), .int (nI 3)]) (st1 := [.int (nI 3), .int (nI l)]) (σ1 := σ) rfl ?_
          refine tw_biF (c := .gt) rfl (by rw [tw_cgt', tw_nlt (by omega) (by omega)] <;> omega) ?_
          show tw_P L xs _ 182 6 [.int (nI l), .int (nI 0), .int (nI 3)] [] σ _
          refine tw_sg 2 (i1 := 9) (ls1 := [.int (nI l), .int (nI 0), .int (nI 3)]) (st1 := [.int (nI 1)]) (σ1 := σ) rfl ?_
          refine tw_ri rfl (rfl) ?_
          show tw_P L xs _ 250 4 [.int (nI l)] [.int (nI 1)] σ _
          refine tw_ri rfl (rfl) ?_
          show tw_P L xs _ 255 2 [.ref 88, .int (nI l), .int (nI y1), .int (nI i), tw_U] [.int (nI 1)] σ _
          refine tw_bzF (c := .eq) rfl (by rw [tw_ceq', tw_neq (by omega) (by omega)] <;> omega) ?_
          show tw_P L xs _ 255 3 [.ref 88, .int (nI l), .int (nI y1), .int (nI i), tw_U] [] σ _
          refine tw_sg 2 (i1 := 5) (ls1 := [.ref 88, .int (nI l), .int (nI y1), .int (nI i), tw_U]) (st1 := [.int (nI i), .ref 88]) (σ1 := σ) rfl ?_
          refine tw_cl1 rfl (rfl) (by decide) (tw_e_isRow1 hr90 hr50 hi) ?_
          rintro _ _ ⟨rfl, rfl⟩
          show tw_P L xs _ 255 6 [.ref 88, .int (nI l), .int (nI y1), .int (nI i), tw_U] [.int (nI 1)] σ _
          refine tw_bzT (c := .ne) rfl (by rw [tw_cne, tw_neq (by omega) (by omega)] <;> omega) ?_
          show tw_P L xs _ 255 9 [.ref 88, .int (nI l), .int (nI y1), .int (nI i), tw_U] [] σ _
          refine tw_sg 3 (i1 := 12) (ls1 := [.ref 88, .int (nI l), .int (nI y1), .int (nI i), tw_U]) (st1 := [.int (nI l), .ref 117]) (σ1 := σ) rfl ?_
          refine tw_alb (k := 117) (j := l) (len := 4) rfl rfl (by decide) rfl (rfl) (by omega) (by decide) ?_
          rw [e2]
          refine tw_bzT (c := .ne) rfl (by rw [tw_cne, tw_neq (by omega) (by omega)] <;> omega) ?_
          show tw_P L xs _ 255 16 [.ref 88, .int (nI l), .int (nI y1), .int (nI i), tw_U] [] σ _
          refine tw_sg 2 (i1 := 18) (ls1 := [.ref 88, .int (nI l), .int (nI y1), .int (nI i), .int (nI 0)]) (st1 := []) (σ1 := σ) rfl ?_
          exact tw_P_le (d := 1) (tw_l_judM hl hs hy1 hi hr50 hn10 e3 hn89 n 0 (by omega) ⟨rfl, hI⟩) (by decide)
    · skip
      show tw_P L xs _ 174 0 [.ref 1, .int (nI l), .int y, .int w, tw_U, tw_U] [] σ _
      refine tw_sg 2 (i1 := 2) (ls1 := [.ref 1, .int (nI l), .int y, .int w, tw_U, tw_U]) (st1 := [.ref 6]) (σ1 := σ) rfl ?_
      refine tw_cl0 59 rfl (rfl) (by decide) ?_
      show tw_P L xs _ 83 0 [.ref 6] [] σ _
      refine tw_sg 2 (i1 := 2) (ls1 := [.ref 6]) (st1 := [.ref 9]) (σ1 := σ) rfl ?_
      refine tw_ra rfl ?_
      show tw_P L xs _ 174 3 [.ref 1, .int (nI l), .int y, .int w, tw_U, tw_U] [.ref 9] σ _
      refine tw_sg 4 (i1 := 7) (ls1 := [.ref 1, .int (nI l), .int y, .int w, .ref 9, tw_U]) (st1 := [.int (nI l), .ref 85]) (σ1 := σ) rfl ?_
      refine tw_cl0 59 rfl (rfl) (by decide) ?_
      show tw_P L xs _ 74 0 [.ref 85, .int (nI l)] [] σ _
      refine tw_sg 1 (i1 := 1) (ls1 := [.ref 85, .int (nI l)]) (st1 := [.int (nI l)]) (σ1 := σ) rfl ?_
      refine tw_bzF (c := .lt) rfl (by rw [tw_clt', tw_nlt (by omega) (by omega)] <;> omega) ?_
      show tw_P L xs _ 74 2 [.ref 85, .int (nI l)] [] σ _
      refine tw_sg 2 (i1 := 4) (ls1 := [.ref 85, .int (nI l)]) (st1 := [.int (nI 4), .int (nI l)]) (σ1 := σ) rfl ?_
      refine tw_biF (c := .ge) rfl (by rw [tw_cge', tw_nle (by omega) (by omega)] <;> omega) ?_
      show tw_P L xs _ 74 5 [.ref 85, .int (nI l)] [] σ _
      refine tw_sg 2 (i1 := 8) (ls1 := [.ref 85, .int (nI l)]) (st1 := [.int (nI 1)]) (σ1 := σ) rfl ?_
      refine tw_ri rfl (rfl) ?_
      show tw_P L xs _ 174 8 [.ref 1, .int (nI l), .int y, .int w, .ref 9, tw_U] [.int (nI 1)] σ _
      refine tw_bzF (c := .eq) rfl (by rw [tw_ceq', tw_neq (by omega) (by omega)] <;> omega) ?_
      show tw_P L xs _ 174 9 [.ref 1, .int (nI l), .int y, .int w, .ref 9, tw_U] [] σ _
      refine tw_sg 2 (i1 := 11) (ls1 := [.ref 1, .int (nI l), .int y, .int w, .ref 9, tw_U]) (st1 := [.int w, .ref 9]) (σ1 := σ) rfl ?_
      refine tw_cl1 rfl (rfl) (by decide) (tw_e_hasRow0 hr9 hw) ?_
      rintro _ _ ⟨rfl, rfl⟩
      show tw_P L xs _ 174 12 [.ref 1, .int (nI l), .int y, .int w, .ref 9, tw_U] [.int (nI 0)] σ _
      refine tw_bzF (c := .ne) rfl (by rw [tw_cne', tw_neq (by omega) (by omega)] <;> omega) ?_
      show tw_P L xs _ 174 13 [.ref 1, .int (nI l), .int y, .int w, .ref 9, tw_U] [] σ _
      refine tw_sg 1 (i1 := 14) (ls1 := [.ref 1, .int (nI l), .int y, .int w, .ref 9, tw_U]) (st1 := [.int (-1)]) (σ1 := σ) rfl ?_
      refine tw_ri rfl (rfl) ?_
      refine ⟨_, rfl, ?_⟩
      show tw_P L xs _ 255 0 [.ref 88, .int (nI l), .int y, .int w, tw_U] [] σ _
      refine tw_sg 1 (i1 := 1) (ls1 := [.ref 88, .int (nI l), .int y, .int w, tw_U]) (st1 := [.int (nI l)]) (σ1 := σ) rfl ?_
      refine tw_cl0 59 rfl (rfl) (by decide) ?_
      show tw_P L xs _ 250 0 [.int (nI l)] [] σ _
      refine tw_sg 3 (i1 := 3) (ls1 := [.int (nI l)]) (st1 := [.int (nI 3), .int (nI 0), .int (nI l)]) (σ1 := σ) rfl ?_
      refine tw_cl0 58 rfl (rfl) (by decide) ?_
      show tw_P L xs _ 182 0 [.int (nI l), .int (nI 0), .int (nI 3)] [] σ _
      refine tw_sg 2 (i1 := 2) (ls1 := [.int (nI l), .int (nI 0), .int (nI 3)]) (st1 := [.int (nI 0), .int (nI l)]) (σ1 := σ) rfl ?_
      refine tw_biF (c := .lt) rfl (by rw [tw_clt', tw_nlt (by omega) (by omega)] <;> omega) ?_
      show tw_P L xs _ 182 3 [.int (nI l), .int (nI 0), .int (nI 3)] [] σ _
      refine tw_sg 2 (i1 := 5) (ls1 := [.int (nI l), .int (nI 0), .int (nI 3)]) (st1 := [.int (nI 3), .int (nI l)]) (σ1 := σ) rfl ?_
      refine tw_biF (c := .gt) rfl (by rw [tw_cgt', tw_nlt (by omega) (by omega)] <;> omega) ?_
      show tw_P L xs _ 182 6 [.int (nI l), .int (nI 0), .int (nI 3)] [] σ _
      refine tw_sg 2 (i1 := 9) (ls1 := [.int (nI l), .int (nI 0), .int (nI 3)]) (st1 := [.int (nI 1)]) (σ1 := σ) rfl ?_
      refine tw_ri rfl (rfl) ?_
      show tw_P L xs _ 250 4 [.int (nI l)] [.int (nI 1)] σ _
      refine tw_ri rfl (rfl) ?_
      show tw_P L xs _ 255 2 [.ref 88, .int (nI l), .int y, .int w, tw_U] [.int (nI 1)] σ _
      refine tw_bzF (c := .eq) rfl (by rw [tw_ceq', tw_neq (by omega) (by omega)] <;> omega) ?_
      show tw_P L xs _ 255 3 [.ref 88, .int (nI l), .int y, .int w, tw_U] [] σ _
      refine tw_sg 2 (i1 := 5) (ls1 := [.ref 88, .int (nI l), .int y, .int w, tw_U]) (st1 := [.int w, .ref 88]) (σ1 := σ) rfl ?_
      refine tw_cl1 rfl (rfl) (by decide) (tw_e_isRow0 hr90 hr50 hw) ?_
      rintro _ _ ⟨rfl, rfl⟩
      show tw_P L xs _ 255 6 [.ref 88, .int (nI l), .int y, .int w, tw_U] [.int (nI 0)] σ _
      refine tw_bzF (c := .ne) rfl (by rw [tw_cne', tw_neq (by omega) (by omega)] <;> omega) ?_
      show tw_P L xs _ 255 7 [.ref 88, .int (nI l), .int y, .int w, tw_U] [] σ _
      refine tw_sg 1 (i1 := 8) (ls1 := [.ref 88, .int (nI l), .int y, .int w, tw_U]) (st1 := [.int (-1)]) (σ1 := σ) rfl ?_
      refine tw_ri rfl (rfl) ?_
      exact ⟨rfl, hI⟩
  · rcases hx with hx | ⟨hx, hx2⟩
    · skip
      show tw_P L xs _ 174 0 [.ref 1, .int x, .int y, .int w, tw_U, tw_U] [] σ _
      refine tw_sg 2 (i1 := 2) (ls1 := [.ref 1, .int x, .int y, .int w, tw_U, tw_U]) (st1 := [.ref 6]) (σ1 := σ) rfl ?_
      refine tw_cl0 59 rfl (rfl) (by decide) ?_
      show tw_P L xs _ 83 0 [.ref 6] [] σ _
      refine tw_sg 2 (i1 := 2) (ls1 := [.ref 6]) (st1 := [.ref 9]) (σ1 := σ) rfl ?_
      refine tw_ra rfl ?_
      show tw_P L xs _ 174 3 [.ref 1, .int x, .int y, .int w, tw_U, tw_U] [.ref 9] σ _
      refine tw_sg 4 (i1 := 7) (ls1 := [.ref 1, .int x, .int y, .int w, .ref 9, tw_U]) (st1 := [.int x, .ref 85]) (σ1 := σ) rfl ?_
      refine tw_cl0 59 rfl (rfl) (by decide) ?_
      show tw_P L xs _ 74 0 [.ref 85, .int x] [] σ _
      refine tw_sg 1 (i1 := 1) (ls1 := [.ref 85, .int x]) (st1 := [.int x]) (σ1 := σ) rfl ?_
      refine tw_bzT (c := .lt) rfl (by rw [tw_clt] <;> (exact hx)) ?_
      show tw_P L xs _ 74 7 [.ref 85, .int x] [] σ _
      refine tw_sg 1 (i1 := 8) (ls1 := [.ref 85, .int x]) (st1 := [.int (nI 0)]) (σ1 := σ) rfl ?_
      refine tw_ri rfl (rfl) ?_
      show tw_P L xs _ 174 8 [.ref 1, .int x, .int y, .int w, .ref 9, tw_U] [.int (nI 0)] σ _
      refine tw_bzT (c := .eq) rfl (by rw [tw_ceq, tw_neq (by omega) (by omega)] <;> omega) ?_
      show tw_P L xs _ 174 13 [.ref 1, .int x, .int y, .int w, .ref 9, tw_U] [] σ _
      refine tw_sg 1 (i1 := 14) (ls1 := [.ref 1, .int x, .int y, .int w, .ref 9, tw_U]) (st1 := [.int (-1)]) (σ1 := σ) rfl ?_
      refine tw_ri rfl (rfl) ?_
      refine ⟨_, rfl, ?_⟩
      show tw_P L xs _ 255 0 [.ref 88, .int x, .int y, .int w, tw_U] [] σ _
      refine tw_sg 1 (i1 := 1) (ls1 := [.ref 88, .int x, .int y, .int w, tw_U]) (st1 := [.int x]) (σ1 := σ) rfl ?_
      refine tw_cl0 59 rfl (rfl) (by decide) ?_
      show tw_P L xs _ 250 0 [.int x] [] σ _
      refine tw_sg 3 (i1 := 3) (ls1 := [.int x]) (st1 := [.int (nI 3), .int (nI 0), .int x]) (σ1 := σ) rfl ?_
      refine tw_cl0 58 rfl (rfl) (by decide) ?_
      show tw_P L xs _ 182 0 [.int x, .int (nI 0), .int (nI 3)] [] σ _
      refine tw_sg 2 (i1 := 2) (ls1 := [.int x, .int (nI 0), .int (nI 3)]) (st1 := [.int (nI 0), .int x]) (σ1 := σ) rfl ?_
      refine tw_biT (c := .lt) rfl (by rw [tw_clt] <;> (exact hx)) ?_
      show tw_P L xs _ 182 8 [.int x, .int (nI 0), .int (nI 3)] [] σ _
      refine tw_sg 1 (i1 := 9) (ls1 := [.int x, .int (nI 0), .int (nI 3)]) (st1 := [.int (nI 0)]) (σ1 := σ) rfl ?_
      refine tw_ri rfl (rfl) ?_
      show tw_P L xs _ 250 4 [.int x] [.int (nI 0)] σ _
      refine tw_ri rfl (rfl) ?_
      show tw_P L xs _ 255 2 [.ref 88, .int x, .int y, .int w, tw_U] [.int (nI 0)] σ _
      refine tw_bzT (c := .eq) rfl (by rw [tw_ceq, tw_neq (by omega) (by omega)] <;> omega) ?_
      show tw_P L xs _ 255 7 [.ref 88, .int x, .int y, .int w, tw_U] [] σ _
      refine tw_sg 1 (i1 := 8) (ls1 := [.ref 88, .int x, .int y, .int w, tw_U]) (st1 := [.int (-1)]) (σ1 := σ) rfl ?_
      refine tw_ri rfl (rfl) ?_
      exact ⟨rfl, hI⟩
    · skip
      show tw_P L xs _ 174 0 [.ref 1, .int x, .int y, .int w, tw_U, tw_U] [] σ _
      refine tw_sg 2 (i1 := 2) (ls1 := [.ref 1, .int x, .int y, .int w, tw_U, tw_U]) (st1 := [.ref 6]) (σ1 := σ) rfl ?_
      refine tw_cl0 59 rfl (rfl) (by decide) ?_
      show tw_P L xs _ 83 0 [.ref 6] [] σ _
      refine tw_sg 2 (i1 := 2) (ls1 := [.ref 6]) (st1 := [.ref 9]) (σ1 := σ) rfl ?_
      refine tw_ra rfl ?_
      show tw_P L xs _ 174 3 [.ref 1, .int x, .int y, .int w, tw_U, tw_U] [.ref 9] σ _
      refine tw_sg 4 (i1 := 7) (ls1 := [.ref 1, .int x, .int y, .int w, .ref 9, tw_U]) (st1 := [.int x, .ref 85]) (σ1 := σ) rfl ?_
      refine tw_cl0 59 rfl (rfl) (by decide) ?_
      show tw_P L xs _ 74 0 [.ref 85, .int x] [] σ _
      refine tw_sg 1 (i1 := 1) (ls1 := [.ref 85, .int x]) (st1 := [.int x]) (σ1 := σ) rfl ?_
      refine tw_bzF (c := .lt) rfl (by rw [tw_clt'] <;> (exact hx)) ?_
      show tw_P L xs _ 74 2 [.ref 85, .int x] [] σ _
      refine tw_sg 2 (i1 := 4) (ls1 := [.ref 85, .int x]) (st1 := [.int (nI 4), .int x]) (σ1 := σ) rfl ?_
      refine tw_biT (c := .ge) rfl (by rw [tw_cge] <;> (exact tw_not_lt.mp (tw_not_lt.mpr hx2))) ?_
      show tw_P L xs _ 74 7 [.ref 85, .int x] [] σ _
      refine tw_sg 1 (i1 := 8) (ls1 := [.ref 85, .int x]) (st1 := [.int (nI 0)]) (σ1 := σ) rfl ?_
      refine tw_ri rfl (rfl) ?_
      show tw_P L xs _ 174 8 [.ref 1, .int x, .int y, .int w, .ref 9, tw_U] [.int (nI 0)] σ _
      refine tw_bzT (c := .eq) rfl (by rw [tw_ceq, tw_neq (by omega) (by omega)] <;> omega) ?_
      show tw_P L xs _ 174 13 [.ref 1, .int x, .int y, .int w, .ref 9, tw_U] [] σ _
      refine tw_sg 1 (i1 := 14) (ls1 := [.ref 1, .int x, .int y, .int w, .ref 9, tw_U]) (st1 := [.int (-1)]) (σ1 := σ) rfl ?_
      refine tw_ri rfl (rfl) ?_
      refine ⟨_, rfl, ?_⟩
      show tw_P L xs _ 255 0 [.ref 88, .int x, .int y, .int w, tw_U] [] σ _
      refine tw_sg 1 (i1 := 1) (ls1 := [.ref 88, .int x, .int y, .int w, tw_U]) (st1 := [.int x]) (σ1 := σ) rfl ?_
      refine tw_cl0 59 rfl (rfl) (by decide) ?_
      show tw_P L xs _ 250 0 [.int x] [] σ _
      refine tw_sg 3 (i1 := 3) (ls1 := [.int x]) (st1 := [.int (nI 3), .int (nI 0), .int x]) (σ1 := σ) rfl ?_
      refine tw_cl0 58 rfl (rfl) (by decide) ?_
      show tw_P L xs _ 182 0 [.int x, .int (nI 0), .int (nI 3)] [] σ _
      refine tw_sg 2 (i1 := 2) (ls1 := [.int x, .int (nI 0), .int (nI 3)]) (st1 := [.int (nI 0), .int x]) (σ1 := σ) rfl ?_
      refine tw_biF (c := .lt) rfl (by rw [tw_clt'] <;> (exact hx)) ?_
      show tw_P L xs _ 182 3 [.int x, .int (nI 0), .int (nI 3)] [] σ _
      refine tw_sg 2 (i1 := 5) (ls1 := [.int x, .int (nI 0), .int (nI 3)]) (st1 := [.int (nI 3), .int x]) (σ1 := σ) rfl ?_
      refine tw_biT (c := .gt) rfl (by rw [tw_cgt] <;> (exact (tw_lt_le1 (n := 3) (by decide) hx2))) ?_
      show tw_P L xs _ 182 8 [.int x, .int (nI 0), .int (nI 3)] [] σ _
      refine tw_sg 1 (i1 := 9) (ls1 := [.int x, .int (nI 0), .int (nI 3)]) (st1 := [.int (nI 0)]) (σ1 := σ) rfl ?_
      refine tw_ri rfl (rfl) ?_
      show tw_P L xs _ 250 4 [.int x] [.int (nI 0)] σ _
      refine tw_ri rfl (rfl) ?_
      show tw_P L xs _ 255 2 [.ref 88, .int x, .int y, .int w, tw_U] [.int (nI 0)] σ _
      refine tw_bzT (c := .eq) rfl (by rw [tw_ceq, tw_neq (by omega) (by omega)] <;> omega) ?_
      show tw_P L xs _ 255 7 [.ref 88, .int x, .int y, .int w, tw_U] [] σ _
      refine tw_sg 1 (i1 := 8) (ls1 := [.ref 88, .int x, .int y, .int w, tw_U]) (st1 := [.int (-1)]) (σ1 := σ) rfl ?_
      refine tw_ri rfl (rfl) ?_
      exact ⟨rfl, hI⟩
end tw_s48
