/-! a draft woven, the class -/
section tw_s73
variable {L : Nat} {xs : Nat → Int32} {σ : tw_Mem} {x y w : Int32} {n r i c k h q a b e : Nat}
/-- the turning of a line and a card by the draft -/
def tw_dT (w pc : Nat → Nat → Int32) (P : Nat → Nat) (H : Nat) : Nat → Nat → Nat := fun l c => tw_ft (w c) (pc c) H (P c) l
theorem tw_dT_lt {w pc : Nat → Nat → Int32} {P : Nat → Nat} {H l c : Nat} : tw_dT w pc P H l c < 4 := Nat.lt_of_le_of_lt tw_ft_le (by decide)
/-- the whole draft kept, up to card c -/
def tw_plA (σ0 σ : tw_Mem) (T : Nat → Nat → Nat) (H n c : Nat) : Prop := (∀ k j, ¬ k = 82 → ¬ k = 83 → ¬ k = 84 → σ k j = σ0 k j) ∧ ∀ d, d < c → d < n → ∀ l, l < H → σ 84 (l * 10 + d) = nI (T l d)
theorem tw_plA.step {σ0 σ υ : tw_Mem} {T : Nat → Nat → Nat} {H n c : Nat} (h : tw_plA σ0 σ T H n c) (hH : H ≤ 8) (hc : c < 10) (h1 : ∀ k j, ¬ k = 82 → ¬ k = 83 → ¬ k = 84 → υ k j = σ k j) (h2 : ∀ l, l < 8 → ∀ d, d < 10 → ¬ d = c → υ 84 (l * 10 + d) = σ 84 (l * 10 + d)) (h3 : c < n → ∀ l, l < H → υ 84 (l * 10 + c) = nI (T l c)) : tw_plA σ0 υ T H n (c + 1) := by
  refine ⟨fun k j a b e => (h1 k j a b e).trans (h.1 k j a b e), fun d hd hn l hl => ?_⟩
  by_cases z : d = c
  · rw [z] at hn ⊢; exact h3 hn l hl
  · rw [h2 l (by omega) d (by omega) z]; exact h.2 d (by omega) hn l hl
set_option maxHeartbeats 4000000 in
set_option maxRecDepth 100000 in
theorem tw_l_plA {Q : Option Value → tw_Mem → Prop} {σ0 : tw_Mem} {w pc : Nat → Nat → Int32} {P : Nat → Nat} {H n : Nat} (hD0 : tw_dC σ0 w pc P H n) (hlo : ∀ d, d < n → ¬ tw_ct (w d) (pc d) H H (P d) = 1000) (hQ : ∀ τ, tw_plA σ0 τ (tw_dT w pc P H) H n 10 → Q none τ) : ∀ (f c : Nat) (σ : tw_Mem) (u4 u5 : Value), c + f = 10 → tw_plA σ0 σ (tw_dT w pc P H) H n c → tw_P L xs 7 47 2 [.ref 81, .ref 6, .ref 79, .int (nI c), u4, u5] [] σ Q := by
  intro f
  induction f with
  | zero =>
    intro c σ u4 u5 hf hA
    have hf : c = 10 := hf
    subst hf
    refine tw_sg 2 (i1 := 4) (ls1 := [.ref 81, .ref 6, .ref 79, .int (nI 10), u4, u5]) (st1 := [.int (nI 10), .int (nI 10)]) (σ1 := σ) rfl ?_
    refine tw_biT (c := .ge) rfl (by rw [tw_cge, tw_nle (by omega) (by omega)] <;> omega) ?_
    show tw_P L xs _ 47 42 [.ref 81, .ref 6, .ref 79, .int (nI 10), u4, u5] [] σ _
    refine tw_rv rfl ?_
    exact hQ σ hA
  | succ f ih =>
    intro c σ u4 u5 hf hA
    have hD : tw_dC σ w pc P H n := hD0.to (fun k j g => hA.1 k j (by omega) (by omega) (by omega))
    obtain ⟨⟨h10, hH, h79, h6⟩, -⟩ := id hD
    by_cases hcn : c < n
    · skip
      refine tw_sg 2 (i1 := 4) (ls1 := [.ref 81, .ref 6, .ref 79, .int (nI c), u4, u5]) (st1 := [.int (nI 10), .int (nI c)]) (σ1 := σ) rfl ?_
      refine tw_biF (c := .ge) rfl (by rw [tw_cge', tw_nle (by omega) (by omega)] <;> omega) ?_
      show tw_P L xs _ 47 5 [.ref 81, .ref 6, .ref 79, .int (nI c), u4, u5] [] σ _
      refine tw_sg 2 (i1 := 7) (ls1 := [.ref 81, .ref 6, .ref 79, .int (nI c), u4, u5]) (st1 := [.int (nI c), .ref 6]) (σ1 := σ) rfl ?_
      refine tw_cl1 rfl (rfl) (by decide) (tw_e_cardAt1 h6 h10 hcn) ?_
      rintro _ _ ⟨rfl, rfl⟩
      show tw_P L xs _ 47 8 [.ref 81, .ref 6, .ref 79, .int (nI c), u4, u5] [.ref (2 * c + 18)] σ _
      refine tw_sg 7 (i1 := 15) (ls1 := [.ref 81, .ref 6, .ref 79, .int (nI c), .ref (2 * c + 18), u5]) (st1 := [.int (nI c), .ref 79, .ref (2 * c + 18), .ref 81]) (σ1 := σ) rfl ?_
      refine tw_cl1 rfl (rfl) (by decide) (tw_e_pln1 hD hcn (hlo c hcn)) ?_
      rintro _ τ ⟨rfl, hP, hP2⟩
      show tw_P L xs _ 47 16 [.ref 81, .ref 6, .ref 79, .int (nI c), .ref (2 * c + 18), u5] [.int (nI (tw_ct (w c) (pc c) H H (P c)))] τ _
      refine tw_sg 5 (i1 := 21) (ls1 := [.ref 81, .ref 6, .ref 79, .int (nI c), .ref (2 * c + 18), .int (nI 0)]) (st1 := [.int (nI 8), .int (nI 0)]) (σ1 := τ) rfl ?_
      refine tw_biF (c := .ge) rfl (by rw [tw_cge', tw_nle (by omega) (by omega)] <;> omega) ?_
      show tw_P L xs _ 47 22 [.ref 81, .ref 6, .ref 79, .int (nI c), .ref (2 * c + 18), .int (nI 0)] [] τ _
      refine tw_sgn 12 (i1 := 36) (ls0 := [.ref 81, .ref 6, .ref 79, .int (nI c), .ref (2 * c + 18), .int (nI 0)]) (st0 := [.int (nI 0), .ref 83, .int ((nI 0 * nI 10) + nI c), .ref 84]) (σ0 := τ) (ls1 := [.ref 81, .ref 6, .ref 79, .int (nI c), .ref (2 * c + 18), .int (nI 0)]) (st1 := [.int (nI 0), .ref 83, .int (nI (0 + c)), .ref 84]) (σ1 := τ) rfl (rfl) (by simp only [tw_nadd, tw_nmul]) (rfl) ?_
      refine tw_al (k := 83) (j := 0) (len := 8) rfl rfl rfl rfl (rfl) (by omega) (by decide) ?_
      refine tw_as (k := 84) (j := (0 + c)) (len := 80) rfl rfl rfl (rfl) (by omega) (by decide) ?_
      refine tw_sgn 4 (i1 := 21) (ls0 := [.ref 81, .ref 6, .ref 79, .int (nI c), .ref (2 * c + 18), .int (nI 0 + nI 1)]) (st0 := [.int (nI 8), .int (nI 0 + nI 1)]) (σ0 := (tw_upd τ 84 (0 + c) (τ 83 0))) (ls1 := [.ref 81, .ref 6, .ref 79, .int (nI c), .ref (2 * c + 18), .int (nI 1)]) (st1 := [.int (nI 8), .int (nI 1)]) (σ1 := (tw_upd τ 84 (0 + c) (τ 83 0))) rfl (by simp only [tw_nadd, tw_nmul]) (by simp only [tw_nadd, tw_nmul]) (rfl) ?_
      refine tw_biF (c := .ge) rfl (by rw [tw_cge', tw_nle (by omega) (by omega)] <;> omega) ?_
      show tw_P L xs _ 47 22 [.ref 81, .ref 6, .ref 79, .int (nI c), .ref (2 * c + 18), .int (nI 1)] [] (tw_upd τ 84 (0 + c) (τ 83 0)) _
      refine tw_sgn 12 (i1 := 36) (ls0 := [.ref 81, .ref 6, .ref 79, .int (nI c), .ref (2 * c + 18), .int (nI 1)]) (st0 := [.int (nI 1), .ref 83, .int ((nI 1 * nI 10) + nI c), .ref 84]) (σ0 := (tw_upd τ 84 (0 + c) (τ 83 0))) (ls1 := [.ref 81, .ref 6, .ref 79, .int (nI c), .ref (2 * c + 18), .int (nI 1)]) (st1 := [.int (nI 1), .ref 83, .int (nI (10 + c)), .ref 84]) (σ1 := (tw_upd τ 84 (0 + c) (τ 83 0))) rfl (rfl) (by simp only [tw_nadd, tw_nmul]) (rfl) ?_
      refine tw_al (k := 83) (j := 1) (len := 8) rfl rfl rfl rfl (rfl) (by omega) (by decide) ?_
      rw [show (tw_upd τ 84 (0 + c) (τ 83 0)) 83 1 = τ 83 1 from by repeat (first | exact rfl | exact tw_upd_at | rw [tw_upd_off (by omega)])]
      refine tw_as (k := 84) (j := (10 + c)) (len := 80) rfl rfl rfl (rfl) (by omega) (by decide) ?_
      refine tw_sgn 4 (i1 := 21) (ls0 := [.ref 81, .ref 6, .ref 79, .int (nI c), .ref (2 * c + 18), .int (nI 1 + nI 1)]) (st0 := [.int (nI 8), .int (nI 1 + nI 1)]) (σ0 := (tw_upd (tw_upd τ 84 (0 + c) (τ 83 0)) 84 (10 + c) (τ 83 1))) (ls1 := [.ref 81, .ref 6, .ref 79, .int (nI c), .ref (2 * c + 18), .int (nI 2)]) (st1 := [.int (nI 8), .int (nI 2)]) (σ1 := (tw_upd (tw_upd τ 84 (0 + c) (τ 83 0)) 84 (10 + c) (τ 83 1))) rfl (by simp only [tw_nadd, tw_nmul]) (by simp only [tw_nadd, tw_nmul]) (rfl) ?_
      refine tw_biF (c := .ge) rfl (by rw [tw_cge', tw_nle (by omega) (by omega)] <;> omega) ?_
      show tw_P L xs _ 47 22 [.ref 81, .ref 6, .ref 79, .int (nI c), .ref (2 * c + 18), .int (nI 2)] [] (tw_upd (tw_upd τ 84 (0 + c) (τ 83 0)) 84 (10 + c) (τ 83 1)) _
      refine tw_sgn 12 (i1 := 36) (ls0 := [.ref 81, .ref 6, .ref 79, .int (nI c), .ref (2 * c + 18), .int (nI 2)]) (st0 := [.int (nI 2), .ref 83, .int ((nI 2 * nI 10) + nI c), .ref 84]) (σ0 := (tw_upd (tw_upd τ 84 (0 + c) (τ 83 0)) 84 (10 + c) (τ 83 1))) (ls1 := [.ref 81, .ref 6, .ref 79, .int (nI c), .ref (2 * c + 18), .int (nI 2)]) (st1 := [.int (nI 2), .ref 83, .int (nI (20 + c)), .ref 84]) (σ1 := (tw_upd (tw_upd τ 84 (0 + c) (τ 83 0)) 84 (10 + c) (τ 83 1))) rfl (rfl) (by simp only [tw_nadd, tw_nmul]) (rfl) ?_
      refine tw_al (k := 83) (j := 2) (len := 8) rfl rfl rfl rfl (rfl) (by omega) (by decide) ?_
      rw [show (tw_upd (tw_upd τ 84 (0 + c) (τ 83 0)) 84 (10 + c) (τ 83 1)) 83 2 = τ 83 2 from by repeat (first | exact rfl | exact tw_upd_at | rw [tw_upd_off (by omega)])]
      refine tw_as (k := 84) (j := (20 + c)) (len := 80) rfl rfl rfl (rfl) (by omega) (by decide) ?_
      refine tw_sgn 4 (i1 := 21) (ls0 := [.ref 81, .ref 6, .ref 79, .int (nI c), .ref (2 * c + 18), .int (nI 2 + nI 1)]) (st0 := [.int (nI 8), .int (nI 2 + nI 1)]) (σ0 := (tw_upd (tw_upd (tw_upd τ 84 (0 + c) (τ 83 0)) 84 (10 + c) (τ 83 1)) 84 (20 + c) (τ 83 2))) (ls1 := [.ref 81, .ref 6, .ref 79, .int (nI c), .ref (2 * c + 18), .int (nI 3)]) (st1 := [.int (nI 8), .int (nI 3)]) (σ1 := (tw_upd (tw_upd (tw_upd τ 84 (0 + c) (τ 83 0)) 84 (10 + c) (τ 83 1)) 84 (20 + c) (τ 83 2))) rfl (by simp only [tw_nadd, tw_nmul]) (by simp only [tw_nadd, tw_nmul]) (rfl) ?_
      refine tw_biF (c := .ge) rfl (by rw [tw_cge', tw_nle (by omega) (by omega)] <;> omega) ?_
      show tw_P L xs _ 47 22 [.ref 81, .ref 6, .ref 79, .int (nI c), .ref (2 * c + 18), .int (nI 3)] [] (tw_upd (tw_upd (tw_upd τ 84 (0 + c) (τ 83 0)) 84 (10 + c) (τ 83 1)) 84 (20 + c) (τ 83 2)) _
      refine tw_sgn 12 (i1 := 36) (ls0 := [.ref 81, .ref 6, .ref 79, .int (nI c), .ref (2 * c + 18), .int (nI 3)]) (st0 := [.int (nI 3), .ref 83, .int ((nI 3 * nI 10) + nI c), .ref 84]) (σ0 := (tw_upd (tw_upd (tw_upd τ 84 (0 + c) (τ 83 0)) 84 (10 + c) (τ 83 1)) 84 (20 + c) (τ 83 2))) (ls1 := [.ref 81, .ref 6, .ref 79, .int (nI c), .ref (2 * c + 18), .int (nI 3)]) (st1 := [.int (nI 3), .ref 83, .int (nI (30 + c)), .ref 84]) (σ1 := (tw_upd (tw_upd (tw_upd τ 84 (0 + c) (τ 83 0)) 84 (10 + c) (τ 83 1)) 84 (20 + c) (τ 83 2))) rfl (rfl) (by simp only [tw_nadd, tw_nmul]) (rfl) ?_
      refine tw_al (k := 83) (j := 3) (len := 8) rfl rfl rfl rfl (rfl) (by omega) (by decide) ?_
      rw [show (tw_upd (tw_upd (tw_upd τ 84 (0 + c) (τ 83 0)) 84 (10 + c) (τ 83 1)) 84 (20 + c) (τ 83 2)) 83 3 = τ 83 3 from by repeat (first | exact rfl | exact tw_upd_at | rw [tw_upd_off (by omega)])]
      refine tw_as (k := 84) (j := (30 + c)) (len := 80) rfl rfl rfl (rfl) (by omega) (by decide) ?_
      refine tw_sgn 4 (i1 := 21) (ls0 := [.ref 81, .ref 6, .ref 79, .int (nI c), .ref (2 * c + 18), .int (nI 3 + nI 1)]) (st0 := [.int (nI 8), .int (nI 3 + nI 1)]) (σ0 := (tw_upd (tw_upd (tw_upd (tw_upd τ 84 (0 + c) (τ 83 0)) 84 (10 + c) (τ 83 1)) 84 (20 + c) (τ 83 2)) 84 (30 + c) (τ 83 3))) (ls1 := [.ref 81, .ref 6, .ref 79, .int (nI c), .ref (2 * c + 18), .int (nI 4)]) (st1 := [.int (nI 8), .int (nI 4)]) (σ1 := (tw_upd (tw_upd (tw_upd (tw_upd τ 84 (0 + c) (τ 83 0)) 84 (10 + c) (τ 83 1)) 84 (20 + c) (τ 83 2)) 84 (30 + c) (τ 83 3))) rfl (by simp only [tw_nadd, tw_nmul]) (by simp only [tw_nadd, tw_nmul]) (rfl) ?_
      refine tw_biF (c := .ge) rfl (by rw [tw_cge', tw_nle (by omega) (by omega)] <;> omega) ?_
      show tw_P L xs _ 47 22 [.ref 81, .ref 6, .ref 79, .int (nI c), .ref (2 * c + 18), .int (nI 4)] [] (tw_upd (tw_upd (tw_upd (tw_upd τ 84 (0 + c) (τ 83 0)) 84 (10 + c) (τ 83 1)) 84 (20 + c) (τ 83 2)) 84 (30 + c) (τ 83 3)) _
      refine tw_sgn 12 (i1 := 36) (ls0 := [.ref 81, .ref 6, .ref 79, .int (nI c), .ref (2 * c + 18), .int (nI 4)]) (st0 := [.int (nI 4), .ref 83, .int ((nI 4 * nI 10) + nI c), .ref 84]) (σ0 := (tw_upd (tw_upd (tw_upd (tw_upd τ 84 (0 + c) (τ 83 0)) 84 (10 + c) (τ 83 1)) 84 (20 + c) (τ 83 2)) 84 (30 + c) (τ 83 3))) (ls1 := [.ref 81, .ref 6, .ref 79, .int (nI c), .ref (2 * c + 18), .int (nI 4)]) (st1 := [.int (nI 4), .ref 83, .int (nI (40 + c)), .ref 84]) (σ1 := (tw_upd (tw_upd (tw_upd (tw_upd τ 84 (0 + c) (τ 83 0)) 84 (10 + c) (τ 83 1)) 84 (20 + c) (τ 83 2)) 84 (30 + c) (τ 83 3))) rfl (rfl) (by simp only [tw_nadd, tw_nmul]) (rfl) ?_
      refine tw_al (k := 83) (j := 4) (len := 8) rfl rfl rfl rfl (rfl) (by omega) (by decide) ?_
      rw [show (tw_upd (tw_upd (tw_upd (tw_upd τ 84 (0 + c) (τ 83 0)) 84 (10 + c) (τ 83 1)) 84 (20 + c) (τ 83 2)) 84 (30 + c) (τ 83 3)) 83 4 = τ 83 4 from by repeat (first | exact rfl | exact tw_upd_at | rw [tw_upd_off (by omega)])]
      refine tw_as (k := 84) (j := (40 + c)) (len := 80) rfl rfl rfl (rfl) (by omega) (by decide) ?_
      refine tw_sgn 4 (i1 := 21) (ls0 := [.ref 81, .ref 6, .ref 79, .int (nI c), .ref (2 * c + 18), .int (nI 4 + nI 1)]) (st0 := [.int (nI 8), .int (nI 4 + nI 1)]) (σ0 := (tw_upd (tw_upd (tw_upd (tw_upd (tw_upd τ 84 (0 + c) (τ 83 0)) 84 (10 + c) (τ 83 1)) 84 (20 + c) (τ 83 2)) 84 (30 + c) (τ 83 3)) 84 (40 + c) (τ 83 4))) (ls1 := [.ref 81, .ref 6, .ref 79, .int (nI c), .ref (2 * c + 18), .int (nI 5)]) (st1 := [.int (nI 8), .int (nI 5)]) (σ1 := (tw_upd (tw_upd (tw_upd (tw_upd (tw_upd τ 84 (0 + c) (τ 83 0)) 84 (10 + c) (τ 83 1)) 84 (20 + c) (τ 83 2)) 84 (30 + c) (τ 83 3)) 84 (40 + c) (τ 83 4))) rfl (by simp only [tw_nadd, tw_nmul]) (by simp only [tw_nadd, tw_nmul]) (rfl) ?_
      refine tw_biF (c := .ge) rfl (by rw [tw_cge', tw_nle (by omega) (by omega)] <;> omega) ?_
      show tw_P L xs _ 47 22 [.ref 81, .ref 6, .ref 79, .int (nI c), .ref (2 * c + 18), .int (nI 5)] [] (tw_upd (tw_upd (tw_upd (tw_upd (tw_upd τ 84 (0 + c) (τ 83 0)) 84 (10 + c) (τ 83 1)) 84 (20 + c) (τ 83 2)) 84 (30 + c) (τ 83 3)) 84 (40 + c) (τ 83 4)) _
      refine tw_sgn 12 (i1 := 36) (ls0 := [.ref 81, .ref 6, .ref 79, .int (nI c), .ref (2 * c + 18), .int (nI 5)]) (st0 := [.int (nI 5), .ref 83, .int ((nI 5 * nI 10) + nI c), .ref 84]) (σ0 := (tw_upd (tw_upd (tw_upd (tw_upd (tw_upd τ 84 (0 + c) (τ 83 0)) 84 (10 + c) (τ 83 1)) 84 (20 + c) (τ 83 2)) 84 (30 + c) (τ 83 3)) 84 (40 + c) (τ 83 4))) (ls1 := [.ref 81, .ref 6, .ref 79, .int (nI c), .ref (2 * c + 18), .int (nI 5)]) (st1 := [.int (nI 5), .ref 83, .int (nI (50 + c)), .ref 84]) (σ1 := (tw_upd (tw_upd (tw_upd (tw_upd (tw_upd τ 84 (0 + c) (τ 83 0)) 84 (10 + c) (τ 83 1)) 84 (20 + c) (τ 83 2)) 84 (30 + c) (τ 83 3)) 84 (40 + c) (τ 83 4))) rfl (rfl) (by simp only [tw_nadd, tw_nmul]) (rfl) ?_
      refine tw_al (k := 83) (j := 5) (len := 8) rfl rfl rfl rfl (rfl) (by omega) (by decide) ?_
      rw [show (tw_upd (tw_upd (tw_upd (tw_upd (tw_upd τ 84 (0 + c) (τ 83 0)) 84 (10 + c) (τ 83 1)) 84 (20 + c) (τ 83 2)) 84 (30 + c) (τ 83 3)) 84 (40 + c) (τ 83 4)) 83 5 = τ 83 5 from by repeat (first | exact rfl | exact tw_upd_at | rw [tw_upd_off (by omega)])]
      refine tw_as (k := 84) (j := (50 + c)) (len := 80) rfl rfl rfl (rfl) (by omega) (by decide) ?_
      refine tw_sgn 4 (i1 := 21) (ls0 := [.ref 81, .ref 6, .ref 79, .int (nI c), .ref (2 * c + 18), .int (nI 5 + nI 1)]) (st0 := [.int (nI 8), .int (nI 5 + nI 1)]) (σ0 := (tw_upd (tw_upd (tw_upd (tw_upd (tw_upd (tw_upd τ 84 (0 + c) (τ 83 0)) 84 (10 + c) (τ 83 1)) 84 (20 + c) (τ 83 2)) 84 (30 + c) (τ 83 3)) 84 (40 + c) (τ 83 4)) 84 (50 + c) (τ 83 5))) (ls1 := [.ref 81, .ref 6, .ref 79, .int (nI c), .ref (2 * c + 18), .int (nI 6)]) (st1 := [.int (nI 8), .int (nI 6)]) (σ1 := (tw_upd (tw_upd (tw_upd (tw_upd (tw_upd (tw_upd τ 84 (0 + c) (τ 83 0)) 84 (10 + c) (τ 83 1)) 84 (20 + c) (τ 83 2)) 84 (30 + c) (τ 83 3)) 84 (40 + c) (τ 83 4)) 84 (50 + c) (τ 83 5))) rfl (by simp only [tw_nadd, tw_nmul]) (by simp only [tw_nadd, tw_nmul]) (rfl) ?_
      refine tw_biF (c := .ge) rfl (by rw [tw_cge', tw_nle (by omega) (by omega)] <;> omega) ?_
      show tw_P L xs _ 47 22 [.ref 81, .ref 6, .ref 79, .int (nI c), .ref (2 * c + 18), .int (nI 6)] [] (tw_upd (tw_upd (tw_upd (tw_upd (tw_upd (tw_upd τ 84 (0 + c) (τ 83 0)) 84 (10 + c) (τ 83 1)) 84 (20 + c) (τ 83 2)) 84 (30 + c) (τ 83 3)) 84 (40 + c) (τ 83 4)) 84 (50 + c) (τ 83 5)) _
      refine tw_sgn 12 (i1 := 36) (ls0 := [.ref 81, .ref 6, .ref 79, .int (nI c), .ref (2 * c + 18), .int (nI 6)]) (st0 := [.int (nI 6), .ref 83, .int ((nI 6 * nI 10) + nI c), .ref 84]) (σ0 := (tw_upd (tw_upd (tw_upd (tw_upd (tw_upd (tw_upd τ 84 (0 + c) (τ 83 0)) 84 (10 + c) (τ 83 1)) 84 (20 + c) (τ 83 2)) 84 (30 + c) (τ 83 3)) 84 (40 + c) (τ 83 4)) 84 (50 + c) (τ 83 5))) (ls1 := [.ref 81, .ref 6, .ref 79, .int (nI c), .ref (2 * c + 18), .int (nI 6)]) (st1 := [.int (nI 6), .ref 83, .int (nI (60 + c)), .ref 84]) (σ1 := (tw_upd (tw_upd (tw_upd (tw_upd (tw_upd (tw_upd τ 84 (0 + c) (τ 83 0)) 84 (10 + c) (τ 83 1)) 84 (20 + c) (τ 83 2)) 84 (30 + c) (τ 83 3)) 84 (40 + c) (τ 83 4)) 84 (50 + c) (τ 83 5))) rfl (rfl) (by simp only [tw_nadd, tw_nmul]) (rfl) ?_
      refine tw_al (k := 83) (j := 6) (len := 8) rfl rfl rfl rfl (rfl) (by omega) (by decide) ?_
      rw [show (tw_upd (tw_upd (tw_upd (tw_upd (tw_upd (tw_upd τ 84 (0 + c) (τ 83 0)) 84 (10 + c) (τ 83 1)) 84 (20 + c) (τ 83 2)) 84 (30 + c) (τ 83 3)) 84 (40 + c) (τ 83 4)) 84 (50 + c) (τ 83 5)) 83 6 = τ 83 6 from by repeat (first | exact rfl | exact tw_upd_at | rw [tw_upd_off (by omega)])]
      refine tw_as (k := 84) (j := (60 + c)) (len := 80) rfl rfl rfl (rfl) (by omega) (by decide) ?_
      refine tw_sgn 4 (i1 := 21) (ls0 := [.ref 81, .ref 6, .ref 79, .int (nI c), .ref (2 * c + 18), .int (nI 6 + nI 1)]) (st0 := [.int (nI 8), .int (nI 6 + nI 1)]) (σ0 := (tw_upd (tw_upd (tw_upd (tw_upd (tw_upd (tw_upd (tw_upd τ 84 (0 + c) (τ 83 0)) 84 (10 + c) (τ 83 1)) 84 (20 + c) (τ 83 2)) 84 (30 + c) (τ 83 3)) 84 (40 + c) (τ 83 4)) 84 (50 + c) (τ 83 5)) 84 (60 + c) (τ 83 6))) (ls1 := [.ref 81, .ref 6, .ref 79, .int (nI c), .ref (2 * c + 18), .int (nI 7)]) (st1 := [.int (nI 8), .int (nI 7)]) (σ1 := (tw_upd (tw_upd (tw_upd (tw_upd (tw_upd (tw_upd (tw_upd τ 84 (0 + c) (τ 83 0)) 84 (10 + c) (τ 83 1)) 84 (20 + c) (τ 83 2)) 84 (30 + c) (τ 83 3)) 84 (40 + c) (τ 83 4)) 84 (50 + c) (τ 83 5)) 84 (60 + c) (τ 83 6))) rfl (by simp only [tw_nadd, tw_nmul]) (by simp only [tw_nadd, tw_nmul]) (rfl) ?_
      refine tw_biF (c := .ge) rfl (by rw [tw_cge', tw_nle (by omega) (by omega)] <;> omega) ?_
      show tw_P L xs _ 47 22 [.ref 81, .ref 6, .ref 79, .int (nI c), .ref (2 * c + 18), .int (nI 7)] [] (tw_upd (tw_upd (tw_upd (tw_upd (tw_upd (tw_upd (tw_upd τ 84 (0 + c) (τ 83 0)) 84 (10 + c) (τ 83 1)) 84 (20 + c) (τ 83 2)) 84 (30 + c) (τ 83 3)) 84 (40 + c) (τ 83 4)) 84 (50 + c) (τ 83 5)) 84 (60 + c) (τ 83 6)) _
      refine tw_sgn 12 (i1 := 36) (ls0 := [.ref 81, .ref 6, .ref 79, .int (nI c), .ref (2 * c + 18), .int (nI 7)]) (st0 := [.int (nI 7), .ref 83, .int ((nI 7 * nI 10) + nI c), .ref 84]) (σ0 := (tw_upd (tw_upd (tw_upd (tw_upd (tw_upd (tw_upd (tw_upd τ 84 (0 + c) (τ 83 0)) 84 (10 + c) (τ 83 1)) 84 (20 + c) (τ 83 2)) 84 (30 + c) (τ 83 3)) 84 (40 + c) (τ 83 4)) 84 (50 + c) (τ 83 5)) 84 (60 + c) (τ 83 6))) (ls1 := [.ref 81, .ref 6, .ref 79, .int (nI c), .ref (2 * c + 18), .int (nI 7)]) (st1 := [.int (nI 7), .ref 83, .int (nI (70 + c)), .ref 84]) (σ1 := (tw_upd (tw_upd (tw_upd (tw_upd (tw_upd (tw_upd (tw_upd τ 84 (0 + c) (τ 83 0)) 84 (10 + c) (τ 83 1)) 84 (20 + c) (τ 83 2)) 84 (30 + c) (τ 83 3)) 84 (40 + c) (τ 83 4)) 84 (50 + c) (τ 83 5)) 84 (60 + c) (τ 83 6))) rfl (rfl) (by simp only [tw_nadd, tw_nmul]) (rfl) ?_
      refine tw_al (k := 83) (j := 7) (len := 8) rfl rfl rfl rfl (rfl) (by omega) (by decide) ?_
      rw [show (tw_upd (tw_upd (tw_upd (tw_upd (tw_upd (tw_upd (tw_upd τ 84 (0 + c) (τ 83 0)) 84 (10 + c) (τ 83 1)) 84 (20 + c) (τ 83 2)) 84 (30 + c) (τ 83 3)) 84 (40 + c) (τ 83 4)) 84 (50 + c) (τ 83 5)) 84 (60 + c) (τ 83 6)) 83 7 = τ 83 7 from by repeat (first | exact rfl | exact tw_upd_at | rw [tw_upd_off (by omega)])]
      refine tw_as (k := 84) (j := (70 + c)) (len := 80) rfl rfl rfl (rfl) (by omega) (by decide) ?_
      refine tw_sgn 4 (i1 := 21) (ls0 := [.ref 81, .ref 6, .ref 79, .int (nI c), .ref (2 * c + 18), .int (nI 7 + nI 1)]) (st0 := [.int (nI 8), .int (nI 7 + nI 1)]) (σ0 := (tw_upd (tw_upd (tw_upd (tw_upd (tw_upd (tw_upd (tw_upd (tw_upd τ 84 (0 + c) (τ 83 0)) 84 (10 + c) (τ 83 1)) 84 (20 + c) (τ 83 2)) 84 (30 + c) (τ 83 3)) 84 (40 + c) (τ 83 4)) 84 (50 + c) (τ 83 5)) 84 (60 + c) (τ 83 6)) 84 (70 + c) (τ 83 7))) (ls1 := [.ref 81, .ref 6, .ref 79, .int (nI c), .ref (2 * c + 18), .int (nI 8)]) (st1 := [.int (nI 8), .int (nI 8)]) (σ1 := (tw_upd (tw_upd (tw_upd (tw_upd (tw_upd (tw_upd (tw_upd (tw_upd τ 84 (0 + c) (τ 83 0)) 84 (10 + c) (τ 83 1)) 84 (20 + c) (τ 83 2)) 84 (30 + c) (τ 83 3)) 84 (40 + c) (τ 83 4)) 84 (50 + c) (τ 83 5)) 84 (60 + c) (τ 83 6)) 84 (70 + c) (τ 83 7))) rfl (by simp only [tw_nadd, tw_nmul]) (by simp only [tw_nadd, tw_nmul]) (rfl) ?_
      refine tw_biT (c := .ge) rfl (by rw [tw_cge, tw_nle (by omega) (by omega)] <;> omega) ?_
      show tw_P L xs _ 47 40 [.ref 81, .ref 6, .ref 79, .int (nI c), .ref (2 * c + 18), .int (nI 8)] [] (tw_upd (tw_upd (tw_upd (tw_upd (tw_upd (tw_upd (tw_upd (tw_upd τ 84 (0 + c) (τ 83 0)) 84 (10 + c) (τ 83 1)) 84 (20 + c) (τ 83 2)) 84 (30 + c) (τ 83 3)) 84 (40 + c) (τ 83 4)) 84 (50 + c) (τ 83 5)) 84 (60 + c) (τ 83 6)) 84 (70 + c) (τ 83 7)) _
      refine tw_sgn 2 (i1 := 2) (ls0 := [.ref 81, .ref 6, .ref 79, .int (nI c + nI 1), .ref (2 * c + 18), .int (nI 8)]) (st0 := []) (σ0 := (tw_upd (tw_upd (tw_upd (tw_upd (tw_upd (tw_upd (tw_upd (tw_upd τ 84 (0 + c) (τ 83 0)) 84 (10 + c) (τ 83 1)) 84 (20 + c) (τ 83 2)) 84 (30 + c) (τ 83 3)) 84 (40 + c) (τ 83 4)) 84 (50 + c) (τ 83 5)) 84 (60 + c) (τ 83 6)) 84 (70 + c) (τ 83 7))) (ls1 := [.ref 81, .ref 6, .ref 79, .int (nI (c + 1)), .ref (2 * c + 18), .int (nI 8)]) (st1 := []) (σ1 := (tw_upd (tw_upd (tw_upd (tw_upd (tw_upd (tw_upd (tw_upd (tw_upd τ 84 (0 + c) (τ 83 0)) 84 (10 + c) (τ 83 1)) 84 (20 + c) (τ 83 2)) 84 (30 + c) (τ 83 3)) 84 (40 + c) (τ 83 4)) 84 (50 + c) (τ 83 5)) 84 (60 + c) (τ 83 6)) 84 (70 + c) (τ 83 7))) rfl (by simp only [tw_nadd, tw_nmul]) (rfl) (rfl) ?_
      generalize hω : (tw_upd (tw_upd (tw_upd (tw_upd (tw_upd (tw_upd (tw_upd (tw_upd τ 84 (0 + c) (τ 83 0)) 84 (10 + c) (τ 83 1)) 84 (20 + c) (τ 83 2)) 84 (30 + c) (τ 83 3)) 84 (40 + c) (τ 83 4)) 84 (50 + c) (τ 83 5)) 84 (60 + c) (τ 83 6)) 84 (70 + c) (τ 83 7)) = ω
      refine ih (c + 1) ω _ _ (by omega) (hA.step hH (by omega) (fun k j g1 g2 g3 => ?_) (fun l hl d hd hdc => ?_) (fun g l hl => ?_))
      · rw [← hω, tw_upd_off (by omega), tw_upd_off (by omega), tw_upd_off (by omega), tw_upd_off (by omega), tw_upd_off (by omega), tw_upd_off (by omega), tw_upd_off (by omega), tw_upd_off (by omega)]; exact hP k j g1 g2
      · rw [← hω]
        rcases (show l = 0 ∨ l = 1 ∨ l = 2 ∨ l = 3 ∨ l = 4 ∨ l = 5 ∨ l = 6 ∨ l = 7 by omega) with rfl | rfl | rfl | rfl | rfl | rfl | rfl | rfl
        · rw [tw_upd_off (by omega), tw_upd_off (by omega), tw_upd_off (by omega), tw_upd_off (by omega), tw_upd_off (by omega), tw_upd_off (by omega), tw_upd_off (by omega), tw_upd_off (by omega)]; exact hP 84 _ (by omega) (by omega)
        · rw [tw_upd_off (by omega), tw_upd_off (by omega), tw_upd_off (by omega), tw_upd_off (by omega), tw_upd_off (by omega), tw_upd_off (by omega), tw_upd_off (by omega), tw_upd_off (by omega)]; exact hP 84 _ (by omega) (by omega)
        · rw [tw_upd_off (by omega), tw_upd_off (by omega), tw_upd_off (by omega), tw_upd_off (by omega), tw_upd_off (by omega), tw_upd_off (by omega), tw_upd_off (by omega), tw_upd_off (by omega)]; exact hP 84 _ (by omega) (by omega)
        · rw [tw_upd_off (by omega), tw_upd_off (by omega), tw_upd_off (by omega), tw_upd_off (by omega), tw_upd_off (by omega), tw_upd_off (by omega), tw_upd_off (by omega), tw_upd_off (by omega)]; exact hP 84 _ (by omega) (by omega)
        · rw [tw_upd_off (by omega), tw_upd_off (by omega), tw_upd_off (by omega), tw_upd_off (by omega), tw_upd_off (by omega), tw_upd_off (by omega), tw_upd_off (by omega), tw_upd_off (by omega)]; exact hP 84 _ (by omega) (by omega)
        · rw [tw_upd_off (by omega), tw_upd_off (by omega), tw_upd_off (by omega), tw_upd_off (by omega), tw_upd_off (by omega), tw_upd_off (by omega), tw_upd_off (by omega), tw_upd_off (by omega)]; exact hP 84 _ (by omega) (by omega)
        · rw [tw_upd_off (by omega), tw_upd_off (by omega), tw_upd_off (by omega), tw_upd_off (by omega), tw_upd_off (by omega), tw_upd_off (by omega), tw_upd_off (by omega), tw_upd_off (by omega)]; exact hP 84 _ (by omega) (by omega)
        · rw [tw_upd_off (by omega), tw_upd_off (by omega), tw_upd_off (by omega), tw_upd_off (by omega), tw_upd_off (by omega), tw_upd_off (by omega), tw_upd_off (by omega), tw_upd_off (by omega)]; exact hP 84 _ (by omega) (by omega)
      · rw [← hω]
        have e := hP2 l hl
        rcases (show l = 0 ∨ l = 1 ∨ l = 2 ∨ l = 3 ∨ l = 4 ∨ l = 5 ∨ l = 6 ∨ l = 7 by omega) with rfl | rfl | rfl | rfl | rfl | rfl | rfl | rfl
        · rw [tw_upd_off (by omega), tw_upd_off (by omega), tw_upd_off (by omega), tw_upd_off (by omega), tw_upd_off (by omega), tw_upd_off (by omega), tw_upd_off (by omega), tw_upd_at]; exact e
        · rw [tw_upd_off (by omega), tw_upd_off (by omega), tw_upd_off (by omega), tw_upd_off (by omega), tw_upd_off (by omega), tw_upd_off (by omega), tw_upd_at]; exact e
        · rw [tw_upd_off (by omega), tw_upd_off (by omega), tw_upd_off (by omega), tw_upd_off (by omega), tw_upd_off (by omega), tw_upd_at]; exact e
        · rw [tw_upd_off (by omega), tw_upd_off (by omega), tw_upd_off (by omega), tw_upd_off (by omega), tw_upd_at]; exact e
        · rw [tw_upd_off (by omega), tw_upd_off (by omega), tw_upd_off (by omega), tw_upd_at]; exact e
        · rw [tw_upd_off (by omega), tw_upd_off (by omega), tw_upd_at]; exact e
        · rw [tw_upd_off (by omega), tw_upd_at]; exact e
        · rw [tw_upd_at]; exact e
    · skip
      refine tw_sg 2 (i1 := 4) (ls1 := [.ref 81, .ref 6, .ref 79, .int (nI c), u4, u5]) (st1 := [.int (nI 10), .int (nI c)]) (σ1 := σ) rfl ?_
      refine tw_biF (c := .ge) rfl (by rw [tw_cge', tw_nle (by omega) (by omega)] <;> omega) ?_
      show tw_P L xs _ 47 5 [.ref 81, .ref 6, .ref 79, .int (nI c), u4, u5] [] σ _
      refine tw_sg 2 (i1 := 7) (ls1 := [.ref 81, .ref 6, .ref 79, .int (nI c), u4, u5]) (st1 := [.int (nI c), .ref 6]) (σ1 := σ) rfl ?_
      refine tw_cl1 rfl (rfl) (by decide) (tw_e_cardAt0 h6 (Or.inr ⟨tw_nge0 (by omega), by rw [tw_nle (by omega) (by omega)]; omega⟩)) ?_
      rintro _ _ ⟨rfl, rfl⟩
      show tw_P L xs _ 47 8 [.ref 81, .ref 6, .ref 79, .int (nI c), u4, u5] [.null] σ _
      refine tw_sg 7 (i1 := 21) (ls1 := [.ref 81, .ref 6, .ref 79, .int (nI c), .null, .int (nI 0)]) (st1 := [.int (nI 8), .int (nI 0)]) (σ1 := σ) rfl ?_
      refine tw_biF (c := .ge) rfl (by rw [tw_cge', tw_nle (by omega) (by omega)] <;> omega) ?_
      show tw_P L xs _ 47 22 [.ref 81, .ref 6, .ref 79, .int (nI c), .null, .int (nI 0)] [] σ _
      refine tw_sgn 11 (i1 := 37) (ls0 := [.ref 81, .ref 6, .ref 79, .int (nI c), .null, .int (nI 0)]) (st0 := [.int (nI 0), .int ((nI 0 * nI 10) + nI c), .ref 84]) (σ0 := σ) (ls1 := [.ref 81, .ref 6, .ref 79, .int (nI c), .null, .int (nI 0)]) (st1 := [.int (nI 0), .int (nI (0 + c)), .ref 84]) (σ1 := σ) rfl (rfl) (by simp only [tw_nadd, tw_nmul]) (rfl) ?_
      refine tw_as (k := 84) (j := (0 + c)) (len := 80) rfl rfl rfl (rfl) (by omega) (by decide) ?_
      refine tw_sgn 4 (i1 := 21) (ls0 := [.ref 81, .ref 6, .ref 79, .int (nI c), .null, .int (nI 0 + nI 1)]) (st0 := [.int (nI 8), .int (nI 0 + nI 1)]) (σ0 := (tw_upd σ 84 (0 + c) (nI 0))) (ls1 := [.ref 81, .ref 6, .ref 79, .int (nI c), .null, .int (nI 1)]) (st1 := [.int (nI 8), .int (nI 1)]) (σ1 := (tw_upd σ 84 (0 + c) (nI 0))) rfl (by simp only [tw_nadd, tw_nmul]) (by simp only [tw_nadd, tw_nmul]) (rfl) ?_
      refine tw_biF (c := .ge) rfl (by rw [tw_cge', tw_nle (by omega) (by omega)] <;> omega) ?_
      show tw_P L xs _ 47 22 [.ref 81, .ref 6, .ref 79, .int (nI c), .null, .int (nI 1)] [] (tw_upd σ 84 (0 + c) (nI 0)) _
      refine tw_sgn 11 (i1 := 37) (ls0 := [.ref 81, .ref 6, .ref 79, .int (nI c), .null, .int (nI 1)]) (st0 := [.int (nI 0), .int ((nI 1 * nI 10) + nI c), .ref 84]) (σ0 := (tw_upd σ 84 (0 + c) (nI 0))) (ls1 := [.ref 81, .ref 6, .ref 79, .int (nI c), .null, .int (nI 1)]) (st1 := [.int (nI 0), .int (nI (10 + c)), .ref 84]) (σ1 := (tw_upd σ 84 (0 + c) (nI 0))) rfl (rfl) (by simp only [tw_nadd, tw_nmul]) (rfl) ?_
      refine tw_as (k := 84) (j := (10 + c)) (len := 80) rfl rfl rfl (rfl) (by omega) (by decide) ?_
      refine tw_sgn 4 (i1 := 21) (ls0 := [.ref 81, .ref 6, .ref 79, .int (nI c), .null, .int (nI 1 + nI 1)]) (st0 := [.int (nI 8), .int (nI 1 + nI 1)]) (σ0 := (tw_upd (tw_upd σ 84 (0 + c) (nI 0)) 84 (10 + c) (nI 0))) (ls1 := [.ref 81, .ref 6, .ref 79, .int (nI c), .null, .int (nI 2)]) (st1 := [.int (nI 8), .int (nI 2)]) (σ1 := (tw_upd (tw_upd σ 84 (0 + c) (nI 0)) 84 (10 + c) (nI 0))) rfl (by simp only [tw_nadd, tw_nmul]) (by simp only [tw_nadd, tw_nmul]) (rfl) ?_
      refine tw_biF (c := .ge) rfl (by rw [tw_cge', tw_nle (by omega) (by omega)] <;> omega) ?_
      show tw_P L xs _ 47 22 [.ref 81, .ref 6, .ref 79, .int (nI c), .null, .int (nI 2)] [] (tw_upd (tw_upd σ 84 (0 + c) (nI 0)) 84 (10 + c) (nI 0)) _
      refine tw_sgn 11 (i1 := 37) (ls0 := [.ref 81, .ref 6, .ref 79, .int (nI c), .null, .int (nI 2)]) (st0 := [.int (nI 0), .int ((nI 2 * nI 10) + nI c), .ref 84]) (σ0 := (tw_upd (tw_upd σ 84 (0 + c) (nI 0)) 84 (10 + c) (nI 0))) (ls1 := [.ref 81, .ref 6, .ref 79, .int (nI c), .null, .int (nI 2)]) (st1 := [.int (nI 0), .int (nI (20 + c)), .ref 84]) (σ1 := (tw_upd (tw_upd σ 84 (0 + c) (nI 0)) 84 (10 + c) (nI 0))) rfl (rfl) (by simp only [tw_nadd, tw_nmul]) (rfl) ?_
      refine tw_as (k := 84) (j := (20 + c)) (len := 80) rfl rfl rfl (rfl) (by omega) (by decide) ?_
      refine tw_sgn 4 (i1 := 21) (ls0 := [.ref 81, .ref 6, .ref 79, .int (nI c), .null, .int (nI 2 + nI 1)]) (st0 := [.int (nI 8), .int (nI 2 + nI 1)]) (σ0 := (tw_upd (tw_upd (tw_upd σ 84 (0 + c) (nI 0)) 84 (10 + c) (nI 0)) 84 (20 + c) (nI 0))) (ls1 := [.ref 81, .ref 6, .ref 79, .int (nI c), .null, .int (nI 3)]) (st1 := [.int (nI 8), .int (nI 3)]) (σ1 := (tw_upd (tw_upd (tw_upd σ 84 (0 + c) (nI 0)) 84 (10 + c) (nI 0)) 84 (20 + c) (nI 0))) rfl (by simp only [tw_nadd, tw_nmul]) (by simp only [tw_nadd, tw_nmul]) (rfl) ?_
      refine tw_biF (c := .ge) rfl (by rw [tw_cge', tw_nle (by omega) (by omega)] <;> omega) ?_
      show tw_P L xs _ 47 22 [.ref 81, .ref 6, .ref 79, .int (nI c), .null, .int (nI 3)] [] (tw_upd (tw_upd (tw_upd σ 84 (0 + c) (nI 0)) 84 (10 + c) (nI 0)) 84 (20 + c) (nI 0)) _
      refine tw_sgn 11 (i1 := 37) (ls0 := [.ref 81, .ref 6, .ref 79, .int (nI c), .null, .int (nI 3)]) (st0 := [.int (nI 0), .int ((nI 3 * nI 10) + nI c), .ref 84]) (σ0 := (tw_upd (tw_upd (tw_upd σ 84 (0 + c) (nI 0)) 84 (10 + c) (nI 0)) 84 (20 + c) (nI 0))) (ls1 := [.ref 81, .ref 6, .ref 79, .int (nI c), .null, .int (nI 3)]) (st1 := [.int (nI 0), .int (nI (30 + c)), .ref 84]) (σ1 := (tw_upd (tw_upd (tw_upd σ 84 (0 + c) (nI 0)) 84 (10 + c) (nI 0)) 84 (20 + c) (nI 0))) rfl (rfl) (by simp only [tw_nadd, tw_nmul]) (rfl) ?_
      refine tw_as (k := 84) (j := (30 + c)) (len := 80) rfl rfl rfl (rfl) (by omega) (by decide) ?_
      refine tw_sgn 4 (i1 := 21) (ls0 := [.ref 81, .ref 6, .ref 79, .int (nI c), .null, .int (nI 3 + nI 1)]) (st0 := [.int (nI 8), .int (nI 3 + nI 1)]) (σ0 := (tw_upd (tw_upd (tw_upd (tw_upd σ 84 (0 + c) (nI 0)) 84 (10 + c) (nI 0)) 84 (20 + c) (nI 0)) 84 (30 + c) (nI 0))) (ls1 := [.ref 81, .ref 6, .ref 79, .int (nI c), .null, .int (nI 4)]) (st1 := [.int (nI 8), .int (nI 4)]) (σ1 := (tw_upd (tw_upd (tw_upd (tw_upd σ 84 (0 + c) (nI 0)) 84 (10 + c) (nI 0)) 84 (20 + c) (nI 0)) 84 (30 + c) (nI 0))) rfl (by simp only [tw_nadd, tw_nmul]) (by simp only [tw_nadd, tw_nmul]) (rfl) ?_
      refine tw_biF (c := .ge) rfl (by rw [tw_cge', tw_nle (by omega) (by omega)] <;> omega) ?_
      show tw_P L xs _ 47 22 [.ref 81, .ref 6, .ref 79, .int (nI c), .null, .int (nI 4)] [] (tw_upd (tw_upd (tw_upd (tw_upd σ 84 (0 + c) (nI 0)) 84 (10 + c) (nI 0)) 84 (20 + c) (nI 0)) 84 (30 + c) (nI 0)) _
      refine tw_sgn 11 (i1 := 37) (ls0 := [.ref 81, .ref 6, .ref 79, .int (nI c), .null, .int (nI 4)]) (st0 := [.int (nI 0), .int ((nI 4 * nI 10) + nI c), .ref 84]) (σ0 := (tw_upd (tw_upd (tw_upd (tw_upd σ 84 (0 + c) (nI 0)) 84 (10 + c) (nI 0)) 84 (20 + c) (nI 0)) 84 (30 + c) (nI 0))) (ls1 := [.ref 81, .ref 6, .ref 79, .int (nI c), .null, .int (nI 4)]) (st1 := [.int (nI 0), .int (nI (40 + c)), .ref 84]) (σ1 := (tw_upd (tw_upd (tw_upd (tw_upd σ 84 (0 + c) (nI 0)) 84 (10 + c) (nI 0)) 84 (20 + c) (nI 0)) 84 (30 + c) (nI 0))) rfl (rfl) (by simp only [tw_nadd, tw_nmul]) (rfl) ?_
      refine tw_as (k := 84) (j := (40 + c)) (len := 80) rfl rfl rfl (rfl) (by omega) (by decide) ?_
      refine tw_sgn 4 (i1 := 21) (ls0 := [.ref 81, .ref 6, .ref 79, .int (nI c), .null, .int (nI 4 + nI 1)]) (st0 := [.int (nI 8), .int (nI 4 + nI 1)]) (σ0 := (tw_upd (tw_upd (tw_upd (tw_upd (tw_upd σ 84 (0 + c) (nI 0)) 84 (10 + c) (nI 0)) 84 (20 + c) (nI 0)) 84 (30 + c) (nI 0)) 84 (40 + c) (nI 0))) (ls1 := [.ref 81, .ref 6, .ref 79, .int (nI c), .null, .int (nI 5)]) (st1 := [.int (nI 8), .int (nI 5)]) (σ1 := (tw_upd (tw_upd (tw_upd (tw_upd (tw_upd σ 84 (0 + c) (nI 0)) 84 (10 + c) (nI 0)) 84 (20 + c) (nI 0)) 84 (30 + c) (nI 0)) 84 (40 + c) (nI 0))) rfl (by simp only [tw_nadd, tw_nmul]) (by simp only [tw_nadd, tw_nmul]) (rfl) ?_
      refine tw_biF (c := .ge) rfl (by rw [tw_cge', tw_nle (by omega) (by omega)] <;> omega) ?_
      show tw_P L xs _ 47 22 [.ref 81, .ref 6, .ref 79, .int (nI c), .null, .int (nI 5)] [] (tw_upd (tw_upd (tw_upd (tw_upd (tw_upd σ 84 (0 + c) (nI 0)) 84 (10 + c) (nI 0)) 84 (20 + c) (nI 0)) 84 (30 + c) (nI 0)) 84 (40 + c) (nI 0)) _
      refine tw_sgn 11 (i1 := 37) (ls0 := [.ref 81, .ref 6, .ref 79, .int (nI c), .null, .int (nI 5)]) (st0 := [.int (nI 0), .int ((nI 5 * nI 10) + nI c), .ref 84]) (σ0 := (tw_upd (tw_upd (tw_upd (tw_upd (tw_upd σ 84 (0 + c) (nI 0)) 84 (10 + c) (nI 0)) 84 (20 + c) (nI 0)) 84 (30 + c) (nI 0)) 84 (40 + c) (nI 0))) (ls1 := [.ref 81, .ref 6, .ref 79, .int (nI c), .null, .int (nI 5)]) (st1 := [.int (nI 0), .int (nI (50 + c)), .ref 84]) (σ1 := (tw_upd (tw_upd (tw_upd (tw_upd (tw_upd σ 84 (0 + c) (nI 0)) 84 (10 + c) (nI 0)) 84 (20 + c) (nI 0)) 84 (30 + c) (nI 0)) 84 (40 + c) (nI 0))) rfl (rfl) (by simp only [tw_nadd, tw_nmul]) (rfl) ?_
      refine tw_as (k := 84) (j := (50 + c)) (len := 80) rfl rfl rfl (rfl) (by omega) (by decide) ?_
      refine tw_sgn 4 (i1 := 21) (ls0 := [.ref 81, .ref 6, .ref 79, .int (nI c), .null, .int (nI 5 + nI 1)]) (st0 := [.int (nI 8), .int (nI 5 + nI 1)]) (σ0 := (tw_upd (tw_upd (tw_upd (tw_upd (tw_upd (tw_upd σ 84 (0 + c) (nI 0)) 84 (10 + c) (nI 0)) 84 (20 + c) (nI 0)) 84 (30 + c) (nI 0)) 84 (40 + c) (nI 0)) 84 (50 + c) (nI 0))) (ls1 := [.ref 81, .ref 6, .ref 79, .int (nI c), .null, .int (nI 6)]) (st1 := [.int (nI 8), .int (nI 6)]) (σ1 := (tw_upd (tw_upd (tw_upd (tw_upd (tw_upd (tw_upd σ 84 (0 + c) (nI 0)) 84 (10 + c) (nI 0)) 84 (20 + c) (nI 0)) 84 (30 + c) (nI 0)) 84 (40 + c) (nI 0)) 84 (50 + c) (nI 0))) rfl (by simp only [tw_nadd, tw_nmul]) (by simp only [tw_nadd, tw_nmul]) (rfl) ?_
      refine tw_biF (c := .ge) rfl (by rw [tw_cge', tw_nle (by omega) (by omega)] <;> omega) ?_
      show tw_P L xs _ 47 22 [.ref 81, .ref 6, .ref 79, .int (nI c), .null, .int (nI 6)] [] (tw_upd (tw_upd (tw_upd (tw_upd (tw_upd (tw_upd σ 84 (0 + c) (nI 0)) 84 (10 + c) (nI 0)) 84 (20 + c) (nI 0)) 84 (30 + c) (nI 0)) 84 (40 + c) (nI 0)) 84 (50 + c) (nI 0)) _
      refine tw_sgn 11 (i1 := 37) (ls0 := [.ref 81, .ref 6, .ref 79, .int (nI c), .null, .int (nI 6)]) (st0 := [.int (nI 0), .int ((nI 6 * nI 10) + nI c), .ref 84]) (σ0 := (tw_upd (tw_upd (tw_upd (tw_upd (tw_upd (tw_upd σ 84 (0 + c) (nI 0)) 84 (10 + c) (nI 0)) 84 (20 + c) (nI 0)) 84 (30 + c) (nI 0)) 84 (40 + c) (nI 0)) 84 (50 + c) (nI 0))) (ls1 := [.ref 81, .ref 6, .ref 79, .int (nI c), .null, .int (nI 6)]) (st1 := [.int (nI 0), .int (nI (60 + c)), .ref 84]) (σ1 := (tw_upd (tw_upd (tw_upd (tw_upd (tw_upd (tw_upd σ 84 (0 + c) (nI 0)) 84 (10 + c) (nI 0)) 84 (20 + c) (nI 0)) 84 (30 + c) (nI 0)) 84 (40 + c) (nI 0)) 84 (50 + c) (nI 0))) rfl (rfl) (by simp only [tw_nadd, tw_nmul]) (rfl) ?_
      refine tw_as (k := 84) (j := (60 + c)) (len := 80) rfl rfl rfl (rfl) (by omega) (by decide) ?_
      refine tw_sgn 4 (i1 := 21) (ls0 := [.ref 81, .ref 6, .ref 79, .int (nI c), .null, .int (nI 6 + nI 1)]) (st0 := [.int (nI 8), .int (nI 6 + nI 1)]) (σ0 := (tw_upd (tw_upd (tw_upd (tw_upd (tw_upd (tw_upd (tw_upd σ 84 (0 + c) (nI 0)) 84 (10 + c) (nI 0)) 84 (20 + c) (nI 0)) 84 (30 + c) (nI 0)) 84 (40 + c) (nI 0)) 84 (50 + c) (nI 0)) 84 (60 + c) (nI 0))) (ls1 := [.ref 81, .ref 6, .ref 79, .int (nI c), .null, .int (nI 7)]) (st1 := [.int (nI 8), .int (nI 7)]) (σ1 := (tw_upd (tw_upd (tw_upd (tw_upd (tw_upd (tw_upd (tw_upd σ 84 (0 + c) (nI 0)) 84 (10 + c) (nI 0)) 84 (20 + c) (nI 0)) 84 (30 + c) (nI 0)) 84 (40 + c) (nI 0)) 84 (50 + c) (nI 0)) 84 (60 + c) (nI 0))) rfl (by simp only [tw_nadd, tw_nmul]) (by simp only [tw_nadd, tw_nmul]) (rfl) ?_
      refine tw_biF (c := .ge) rfl (by rw [tw_cge', tw_nle (by omega) (by omega)] <;> omega) ?_
      show tw_P L xs _ 47 22 [.ref 81, .ref 6, .ref 79, .int (nI c), .null, .int (nI 7)] [] (tw_upd (tw_upd (tw_upd (tw_upd (tw_upd (tw_upd (tw_upd σ 84 (0 + c) (nI 0)) 84 (10 + c) (nI 0)) 84 (20 + c) (nI 0)) 84 (30 + c) (nI 0)) 84 (40 + c) (nI 0)) 84 (50 + c) (nI 0)) 84 (60 + c) (nI 0)) _
      refine tw_sgn 11 (i1 := 37) (ls0 := [.ref 81, .ref 6, .ref 79, .int (nI c), .null, .int (nI 7)]) (st0 := [.int (nI 0), .int ((nI 7 * nI 10) + nI c), .ref 84]) (σ0 := (tw_upd (tw_upd (tw_upd (tw_upd (tw_upd (tw_upd (tw_upd σ 84 (0 + c) (nI 0)) 84 (10 + c) (nI 0)) 84 (20 + c) (nI 0)) 84 (30 + c) (nI 0)) 84 (40 + c) (nI 0)) 84 (50 + c) (nI 0)) 84 (60 + c) (nI 0))) (ls1 := [.ref 81, .ref 6, .ref 79, .int (nI c), .null, .int (nI 7)]) (st1 := [.int (nI 0), .int (nI (70 + c)), .ref 84]) (σ1 := (tw_upd (tw_upd (tw_upd (tw_upd (tw_upd (tw_upd (tw_upd σ 84 (0 + c) (nI 0)) 84 (10 + c) (nI 0)) 84 (20 + c) (nI 0)) 84 (30 + c) (nI 0)) 84 (40 + c) (nI 0)) 84 (50 + c) (nI 0)) 84 (60 + c) (nI 0))) rfl (rfl) (by simp only [tw_nadd, tw_nmul]) (rfl) ?_
      refine tw_as (k := 84) (j := (70 + c)) (len := 80) rfl rfl rfl (rfl) (by omega) (by decide) ?_
      refine tw_sgn 4 (i1 := 21) (ls0 := [.ref 81, .ref 6, .ref 79, .int (nI c), .null, .int (nI 7 + nI 1)]) (st0 := [.int (nI 8), .int (nI 7 + nI 1)]) (σ0 := (tw_upd (tw_upd (tw_upd (tw_upd (tw_upd (tw_upd (tw_upd (tw_upd σ 84 (0 + c) (nI 0)) 84 (10 + c) (nI 0)) 84 (20 + c) (nI 0)) 84 (30 + c) (nI 0)) 84 (40 + c) (nI 0)) 84 (50 + c) (nI 0)) 84 (60 + c) (nI 0)) 84 (70 + c) (nI 0))) (ls1 := [.ref 81, .ref 6, .ref 79, .int (nI c), .null, .int (nI 8)]) (st1 := [.int (nI 8), .int (nI 8)]) (σ1 := (tw_upd (tw_upd (tw_upd (tw_upd (tw_upd (tw_upd (tw_upd (tw_upd σ 84 (0 + c) (nI 0)) 84 (10 + c) (nI 0)) 84 (20 + c) (nI 0)) 84 (30 + c) (nI 0)) 84 (40 + c) (nI 0)) 84 (50 + c) (nI 0)) 84 (60 + c) (nI 0)) 84 (70 + c) (nI 0))) rfl (by simp only [tw_nadd, tw_nmul]) (by simp only [tw_nadd, tw_nmul]) (rfl) ?_
      refine tw_biT (c := .ge) rfl (by rw [tw_cge, tw_nle (by omega) (by omega)] <;> omega) ?_
      show tw_P L xs _ 47 40 [.ref 81, .ref 6, .ref 79, .int (nI c), .null, .int (nI 8)] [] (tw_upd (tw_upd (tw_upd (tw_upd (tw_upd (tw_upd (tw_upd (tw_upd σ 84 (0 + c) (nI 0)) 84 (10 + c) (nI 0)) 84 (20 + c) (nI 0)) 84 (30 + c) (nI 0)) 84 (40 + c) (nI 0)) 84 (50 + c) (nI 0)) 84 (60 + c) (nI 0)) 84 (70 + c) (nI 0)) _
      refine tw_sgn 2 (i1 := 2) (ls0 := [.ref 81, .ref 6, .ref 79, .int (nI c + nI 1), .null, .int (nI 8)]) (st0 := []) (σ0 := (tw_upd (tw_upd (tw_upd (tw_upd (tw_upd (tw_upd (tw_upd (tw_upd σ 84 (0 + c) (nI 0)) 84 (10 + c) (nI 0)) 84 (20 + c) (nI 0)) 84 (30 + c) (nI 0)) 84 (40 + c) (nI 0)) 84 (50 + c) (nI 0)) 84 (60 + c) (nI 0)) 84 (70 + c) (nI 0))) (ls1 := [.ref 81, .ref 6, .ref 79, .int (nI (c + 1)), .null, .int (nI 8)]) (st1 := []) (σ1 := (tw_upd (tw_upd (tw_upd (tw_upd (tw_upd (tw_upd (tw_upd (tw_upd σ 84 (0 + c) (nI 0)) 84 (10 + c) (nI 0)) 84 (20 + c) (nI 0)) 84 (30 + c) (nI 0)) 84 (40 + c) (nI 0)) 84 (50 + c) (nI 0)) 84 (60 + c) (nI 0)) 84 (70 + c) (nI 0))) rfl (by simp only [tw_nadd, tw_nmul]) (rfl) (rfl) ?_
      generalize hω : (tw_upd (tw_upd (tw_upd (tw_upd (tw_upd (tw_upd (tw_upd (tw_upd σ 84 (0 + c) (nI 0)) 84 (10 + c) (nI 0)) 84 (20 + c) (nI 0)) 84 (30 + c) (nI 0)) 84 (40 + c) (nI 0)) 84 (50 + c) (nI 0)) 84 (60 + c) (nI 0)) 84 (70 + c) (nI 0)) = ω
      refine ih (c + 1) ω _ _ (by omega) (hA.step hH (by omega) (fun k j g1 g2 g3 => ?_) (fun l hl d hd hdc => ?_) (fun g l hl => ?_))
      · rw [← hω, tw_upd_off (by omega), tw_upd_off (by omega), tw_upd_off (by omega), tw_upd_off (by omega), tw_upd_off (by omega), tw_upd_off (by omega), tw_upd_off (by omega), tw_upd_off (by omega)]
      · rw [← hω]
        rcases (show l = 0 ∨ l = 1 ∨ l = 2 ∨ l = 3 ∨ l = 4 ∨ l = 5 ∨ l = 6 ∨ l = 7 by omega) with rfl | rfl | rfl | rfl | rfl | rfl | rfl | rfl
        · rw [tw_upd_off (by omega), tw_upd_off (by omega), tw_upd_off (by omega), tw_upd_off (by omega), tw_upd_off (by omega), tw_upd_off (by omega), tw_upd_off (by omega), tw_upd_off (by omega)]
        · rw [tw_upd_off (by omega), tw_upd_off (by omega), tw_upd_off (by omega), tw_upd_off (by omega), tw_upd_off (by omega), tw_upd_off (by omega), tw_upd_off (by omega), tw_upd_off (by omega)]
        · rw [tw_upd_off (by omega), tw_upd_off (by omega), tw_upd_off (by omega), tw_upd_off (by omega), tw_upd_off (by omega), tw_upd_off (by omega), tw_upd_off (by omega), tw_upd_off (by omega)]
        · rw [tw_upd_off (by omega), tw_upd_off (by omega), tw_upd_off (by omega), tw_upd_off (by omega), tw_upd_off (by omega), tw_upd_off (by omega), tw_upd_off (by omega), tw_upd_off (by omega)]
        · rw [tw_upd_off (by omega), tw_upd_off (by omega), tw_upd_off (by omega), tw_upd_off (by omega), tw_upd_off (by omega), tw_upd_off (by omega), tw_upd_off (by omega), tw_upd_off (by omega)]
        · rw [tw_upd_off (by omega), tw_upd_off (by omega), tw_upd_off (by omega), tw_upd_off (by omega), tw_upd_off (by omega), tw_upd_off (by omega), tw_upd_off (by omega), tw_upd_off (by omega)]
        · rw [tw_upd_off (by omega), tw_upd_off (by omega), tw_upd_off (by omega), tw_upd_off (by omega), tw_upd_off (by omega), tw_upd_off (by omega), tw_upd_off (by omega), tw_upd_off (by omega)]
        · rw [tw_upd_off (by omega), tw_upd_off (by omega), tw_upd_off (by omega), tw_upd_off (by omega), tw_upd_off (by omega), tw_upd_off (by omega), tw_upd_off (by omega), tw_upd_off (by omega)]
      · exact absurd g hcn
set_option maxHeartbeats 4000000 in
set_option maxRecDepth 100000 in
theorem tw_e_plA {w pc : Nat → Nat → Int32} {P : Nat → Nat} {H : Nat} (hD : tw_dC σ w pc P H n) (hlo : ∀ d, d < n → ¬ tw_ct (w d) (pc d) H H (P d) = 1000) : tw_E L xs 7 47 [.ref 81, .ref 6, .ref 79] σ (fun v τ => v = none ∧ tw_plA σ τ (tw_dT w pc P H) H n 10) := by
  show tw_P L xs _ 47 0 [.ref 81, .ref 6, .ref 79, tw_U, tw_U, tw_U] [] σ _
  refine tw_sg 2 (i1 := 2) (ls1 := [.ref 81, .ref 6, .ref 79, .int (nI 0), tw_U, tw_U]) (st1 := []) (σ1 := σ) rfl ?_
  exact tw_l_plA hD hlo (fun τ h => ⟨rfl, h⟩) 10 0 σ _ _ (by omega) ⟨fun _ _ _ _ _ => rfl, fun d hd => by omega⟩
set_option maxHeartbeats 4000000 in
set_option maxRecDepth 100000 in
theorem tw_l_pd {Q : Option Value → tw_Mem → Prop} {σ0 : tw_Mem} {T : Nat → Nat → Nat} {H n l : Nat} (hl : l < H) (hH : H ≤ 8) (h10 : n ≤ 10) (hT : ∀ c, c < n → σ0 84 (l * 10 + c) = nI (T l c)) (hQ : ∀ τ, tw_laidn σ0 τ 8 (T l) n 10 → tw_P L xs 8 92 15 [.ref 6, .ref 81, .int (nI l), .int (nI 10)] [] τ Q) : ∀ (f c : Nat) (σ : tw_Mem), c + f = 10 → tw_laidn σ0 σ 8 (T l) n c → tw_P L xs 8 92 2 [.ref 6, .ref 81, .int (nI l), .int (nI c)] [] σ Q := by
  intro f
  induction f with
  | zero =>
    intro c σ hf hI
    have hf : c = 10 := hf
    subst hf
    refine tw_sg 2 (i1 := 4) (ls1 := [.ref 6, .ref 81, .int (nI l), .int (nI 10)]) (st1 := [.int (nI 10), .int (nI 10)]) (σ1 := σ) rfl ?_
    refine tw_biT (c := .ge) rfl (by rw [tw_cge, tw_nle (by omega) (by omega)] <;> omega) ?_
    show tw_P L xs _ 92 15 [.ref 6, .ref 81, .int (nI l), .int (nI 10)] [] σ _
    exact hQ σ hI
  | succ f ih =>
    intro c σ hf hI
    refine tw_sg 2 (i1 := 4) (ls1 := [.ref 6, .ref 81, .int (nI l), .int (nI c)]) (st1 := [.int (nI 10), .int (nI c)]) (σ1 := σ) rfl ?_
    refine tw_biF (c := .ge) rfl (by rw [tw_cge', tw_nle (by omega) (by omega)] <;> omega) ?_
    show tw_P L xs _ 92 5 [.ref 6, .ref 81, .int (nI l), .int (nI c)] [] σ _
    refine tw_sg 6 (i1 := 11) (ls1 := [.ref 6, .ref 81, .int (nI l), .int (nI c)]) (st1 := [.int (nI l), .int (nI c), .ref 81, .int (nI c), .ref 8]) (σ1 := σ) rfl ?_
    refine tw_cl0 7 rfl (rfl) (by decide) ?_
    show tw_P L xs _ 48 0 [.ref 81, .int (nI c), .int (nI l), tw_U] [] σ _
    refine tw_sgn 7 (i1 := 7) (ls0 := [.ref 81, .int (nI c), .int (nI l), .int ((nI l * nI 10) + nI c)]) (st0 := [.int ((nI l * nI 10) + nI c)]) (σ0 := σ) (ls1 := [.ref 81, .int (nI c), .int (nI l), .int (nI ((l * 10) + c))]) (st1 := [.int (nI ((l * 10) + c))]) (σ1 := σ) rfl (by simp only [tw_nadd, tw_nmul]) (by simp only [tw_nadd, tw_nmul]) (rfl) ?_
    refine tw_bzF (c := .lt) rfl (by rw [tw_clt', tw_nlt (by omega) (by omega)] <;> omega) ?_
    show tw_P L xs _ 48 8 [.ref 81, .int (nI c), .int (nI l), .int (nI ((l * 10) + c))] [] σ _
    refine tw_sg 4 (i1 := 12) (ls1 := [.ref 81, .int (nI c), .int (nI l), .int (nI ((l * 10) + c))]) (st1 := [.int (nI 80), .int (nI ((l * 10) + c))]) (σ1 := σ) rfl ?_
    refine tw_biF (c := .ge) rfl (by rw [tw_cge', tw_nle (by omega) (by omega)] <;> omega) ?_
    show tw_P L xs _ 48 13 [.ref 81, .int (nI c), .int (nI l), .int (nI ((l * 10) + c))] [] σ _
    refine tw_sg 3 (i1 := 16) (ls1 := [.ref 81, .int (nI c), .int (nI l), .int (nI ((l * 10) + c))]) (st1 := [.int (nI ((l * 10) + c)), .ref 84]) (σ1 := σ) rfl ?_
    refine tw_al (k := 84) (j := ((l * 10) + c)) (len := 80) rfl rfl rfl rfl (rfl) (by omega) (by decide) ?_
    refine tw_sg 1 (i1 := 19) (ls1 := [.ref 81, .int (nI c), .int (nI l), .int (nI ((l * 10) + c))]) (st1 := [.int (σ 84 ((l * 10) + c))]) (σ1 := σ) rfl ?_
    refine tw_ri rfl (rfl) ?_
    show tw_P L xs _ 92 12 [.ref 6, .ref 81, .int (nI l), .int (nI c)] [.int (σ 84 ((l * 10) + c)), .int (nI c), .ref 8] σ _
    refine tw_as (k := 8) (j := c) (len := 10) rfl rfl rfl (rfl) (by omega) (by decide) ?_
    refine tw_sgn 2 (i1 := 2) (ls0 := [.ref 6, .ref 81, .int (nI l), .int (nI c + nI 1)]) (st0 := []) (σ0 := (tw_upd σ 8 c (σ 84 ((l * 10) + c)))) (ls1 := [.ref 6, .ref 81, .int (nI l), .int (nI (c + 1))]) (st1 := []) (σ1 := (tw_upd σ 8 c (σ 84 ((l * 10) + c)))) rfl (by simp only [tw_nadd, tw_nmul]) (rfl) (rfl) ?_
    exact ih (c + 1) _ (by omega) (hI.step (fun hc => (hI.1 84 _ (by omega)).trans (hT c hc)))
set_option maxHeartbeats 4000000 in
set_option maxRecDepth 100000 in
theorem tw_e_pd0 {α : tw_Mem} {n r H l : Nat} {T : Nat → Nat → Nat} (hI : tw_Inv α) (hLo : tw_iLoom α 6 0 n r) (hs : tw_agC σ α) (hr2 : r < 50) (hl : l < H) (hH : H ≤ 8) (hT4 : ∀ c, T l c < 4) (hT : ∀ c, c < n → σ 84 (l * 10 + c) = nI (T l c)) (hj : tw_jm α (T l) n) : tw_E L xs 8 92 [.ref 6, .ref 81, .int (nI l)] σ (fun v τ => v = some (.int (nI 0)) ∧ tw_laidn σ τ 8 (T l) n 10) := by
  obtain ⟨⟨hn10, hr50⟩, ⟨hn6, hn89⟩, ⟨hr9, hw9, hr90⟩, hCa, hRo, hLa⟩ := id hLo
  have h6 : σ 6 4 = nI n := (hs 6 4 (by omega) (by omega)).trans hn6
  have h9 : σ 9 3 = nI r := (hs 9 3 (by omega) (by omega)).trans hr9
  have hA : ∀ c, c < n → σ (2 * c + 18) 3 = α 94 c := fun c hc => (hs _ _ (by omega) (by omega)).trans (hCa c hc).2.2.2
  show tw_P L xs _ 92 0 [.ref 6, .ref 81, .int (nI l), tw_U] [] σ _
  refine tw_sg 2 (i1 := 2) (ls1 := [.ref 6, .ref 81, .int (nI l), .int (nI 0)]) (st1 := []) (σ1 := σ) rfl ?_
  refine tw_l_pd (T := T) (n := n) hl hH hn10 hT (fun τ h => ?_) 10 0 σ (by omega) ⟨fun _ _ _ => rfl, fun d hd => by omega⟩
  show tw_P L xs _ 92 15 [.ref 6, .ref 81, .int (nI l), .int (nI 10)] [] τ _
  refine tw_sg 1 (i1 := 16) (ls1 := [.ref 6, .ref 81, .int (nI l), .int (nI 10)]) (st1 := [.ref 6]) (σ1 := τ) rfl ?_
  refine tw_cl1 rfl (rfl) (by decide) (tw_e_pickC0 (P := id) (q := id) (σ := τ) (α := α) (n := n) (r := r) (T := T l) (by rw [h.1 _ _ (by omega)]; exact h6) (by rw [h.1 _ _ (by omega)]; exact h9) hr50 hn10 (fun c hc => ⟨hT4 c, h.2 c (by omega) hc⟩) (fun c hc => by rw [h.1 _ _ (by omega)]; exact hA c hc) hr2 hj) ?_
  rintro _ _ ⟨rfl, rfl⟩
  show tw_P L xs _ 92 17 [.ref 6, .ref 81, .int (nI l), .int (nI 10)] [.int (nI 0)] τ _
  refine tw_ri rfl (rfl) ?_
  exact ⟨rfl, h⟩
set_option maxHeartbeats 4000000 in
set_option maxRecDepth 100000 in
theorem tw_e_pd1 {α : tw_Mem} {n r H l : Nat} {T : Nat → Nat → Nat} (hI : tw_Inv α) (hLo : tw_iLoom α 6 0 n r) (hs : tw_agC σ α) (hr2 : r < 50) (hl : l < H) (hH : H ≤ 8) (hT4 : ∀ c, T l c < 4) (hT : ∀ c, c < n → σ 84 (l * 10 + c) = nI (T l c)) (hj : ¬ tw_jm α (T l) n) {P q : Nat → Nat} (hPq : ∀ c, c < n → (P c < 4 ∧ α (2 * c + 18) 2 = nI (P c) ∧ α 93 c = nI (P c)) ∧ (q c < 2 ∧ α (2 * c + 18) 1 = nI (q c) ∧ α 92 c = nI (q c))) : tw_E L xs 8 92 [.ref 6, .ref 81, .int (nI l)] σ (fun v υ => v = some (.int (nI 1)) ∧ ∃ τ τ0, tw_laidn σ τ 8 (T l) n 10 ∧ tw_wkC τ τ0 r (T l) P q n ∧ υ = tw_upd τ0 9 3 (nI (r + 1))) := by
  obtain ⟨⟨hn10, hr50⟩, ⟨hn6, hn89⟩, ⟨hr9, hw9, hr90⟩, hCa, hRo, hLa⟩ := id hLo
  have h6 : σ 6 4 = nI n := (hs 6 4 (by omega) (by omega)).trans hn6
  have h9 : σ 9 3 = nI r := (hs 9 3 (by omega) (by omega)).trans hr9
  have hA : ∀ c, c < n → σ (2 * c + 18) 3 = α 94 c := fun c hc => (hs _ _ (by omega) (by omega)).trans (hCa c hc).2.2.2
  show tw_P L xs _ 92 0 [.ref 6, .ref 81, .int (nI l), tw_U] [] σ _
  refine tw_sg 2 (i1 := 2) (ls1 := [.ref 6, .ref 81, .int (nI l), .int (nI 0)]) (st1 := []) (σ1 := σ) rfl ?_
  refine tw_l_pd (T := T) (n := n) hl hH hn10 hT (fun τ h => ?_) 10 0 σ (by omega) ⟨fun _ _ _ => rfl, fun d hd => by omega⟩
  show tw_P L xs _ 92 15 [.ref 6, .ref 81, .int (nI l), .int (nI 10)] [] τ _
  refine tw_sg 1 (i1 := 16) (ls1 := [.ref 6, .ref 81, .int (nI l), .int (nI 10)]) (st1 := [.ref 6]) (σ1 := τ) rfl ?_
  refine tw_cl1 rfl (rfl) (by decide) (tw_e_pickC1 (P := P) (q := q) (σ := τ) (α := α) (n := n) (r := r) (T := T l) (by rw [h.1 _ _ (by omega)]; exact h6) (by rw [h.1 _ _ (by omega)]; exact h9) hr50 hn10 (fun c hc => ⟨hT4 c, h.2 c (by omega) hc⟩) (fun c hc => by rw [h.1 _ _ (by omega)]; exact hA c hc) hr2 hj (fun c hc => ⟨(hPq c hc).1.1, by rw [h.1 _ _ (by omega), hs _ _ (by omega) (by omega)]; exact (hPq c hc).1.2.1⟩) (fun c hc => ⟨(hPq c hc).2.1, by rw [h.1 _ _ (by omega), hs _ _ (by omega) (by omega)]; exact (hPq c hc).2.2.1⟩)) ?_
  rintro _ _ ⟨rfl, τ0, hw, rfl⟩
  show tw_P L xs _ 92 17 [.ref 6, .ref 81, .int (nI l), .int (nI 10)] [.int (nI 1)] (tw_upd τ0 9 3 (nI (r + 1))) _
  refine tw_ri rfl (rfl) ?_
  exact ⟨rfl, τ, τ0, h, hw, rfl⟩
end tw_s73
