/-! a threading read, the reference -/
section tw_s61
variable {L : Nat} {xs : Nat → Int32} {σ : tw_Mem} {x y w : Int32} {n r i c k h q a b e : Nat}
def tw_thF (σ0 σ : tw_Mem) : Prop := ∀ k j, ¬ (k = 88 ∧ (j = 18 ∨ j = 19)) → ¬ k = 108 → ¬ k = 109 → σ k j = σ0 k j
def tw_thH (w : Nat → Int32) (k : Nat) (σ : tw_Mem) (n : Nat) : Prop := ∀ c, c < n → (∀ h, h < 4 → σ 108 (4 * c + h) = tw_hr w k (6 * c + h) - nI 97) ∧ σ 109 c = if tw_hr w k (6 * c + 4) = nI 90 then nI 1 else nI 0
def tw_thS (w : Nat → Int32) (k m : Nat) (σ0 σ : tw_Mem) (n : Nat) : Prop := tw_thF σ0 σ ∧ ((6 * n - 1 ≤ m ∧ σ 88 18 = nI (6 * n - 1) ∧ σ 88 19 = (-1) ∧ tw_thH w k σ n) ∨ (σ 88 19 = nI m ∧ (m < k ∨ m % 6 < 5)))
theorem tw_thS.step {w : Nat → Int32} {k m c : Nat} {σ0 σ τ : tw_Mem} (hF : tw_thF σ0 σ) (hH : tw_thH w k σ c) (hm : 6 * c ≤ m) (f : ∀ k j, ¬ (k = 88 ∧ (j = 18 ∨ j = 19)) → ¬ (k = 108 ∧ 4 * c ≤ j ∧ j < 4 * c + 4) → ¬ (k = 109 ∧ j = c) → τ k j = σ k j)
    (h : (6 * c + 5 ≤ m ∧ τ 88 18 = nI (6 * c + 5) ∧ τ 88 19 = (-1) ∧ (∀ h, h < 4 → τ 108 (4 * c + h) = tw_hr w k (6 * c + h) - nI 97) ∧ τ 109 c = if tw_hr w k (6 * c + 4) = nI 90 then nI 1 else nI 0) ∨ (m < 6 * c + 5 ∧ τ 88 19 = nI m)) : tw_thS w k m σ0 τ (c + 1) := by
  refine ⟨fun k j g1 g2 g3 => by rw [f k j g1 (fun q => g2 q.1) (fun q => g3 q.1)]; exact hF k j g1 g2 g3, ?_⟩
  rcases h with ⟨h1, h2, h3, h4, h5⟩ | ⟨h1, h2⟩
  · refine Or.inl ⟨by omega, h2.trans (congrArg nI (by omega)), h3, fun d hd => ?_⟩
    by_cases z : d = c
    · rw [z]; exact ⟨h4, h5⟩
    · rw [f 109 d (by omega) (by omega) (by omega)]
      refine ⟨fun h hh => ?_, (hH d (by omega)).2⟩
      rw [f 108 _ (by omega) (by omega) (by omega)]
      exact (hH d (by omega)).1 h hh
  · exact Or.inr ⟨h2, Or.inr (by omega)⟩
set_option maxHeartbeats 4000000 in
set_option maxRecDepth 100000 in
theorem tw_l_thr {L : Nat} {xs : Nat → Int32} {Q : Option Value → tw_Mem → Prop} {σ0 : tw_Mem} {w : Nat → Int32} {k m : Nat} {u1 u2 : Value} (hk : k ≤ 80) (hmk : m ≤ k) (hw : ∀ z, z < k → σ0 103 z = w z) (h17 : σ0 88 17 = nI k) (hok : ∀ j, j < m → tw_fit (tw_hr w k j) j) (hbad : ¬ tw_fit (tw_hr w k m) m) (hB : ∀ (τ : tw_Mem) (n : Nat), tw_thF σ0 τ → τ 88 19 = nI m → (m < k ∨ m % 6 < 5) → tw_P L xs 4 197 44 [.ref 88, .int (nI n), u1, u2] [] τ Q) (hG : ∀ (τ : tw_Mem) (n : Nat), tw_thF σ0 τ → τ 88 19 = (-1) → m = k → 6 * n = k + 1 → 1 ≤ n → n ≤ 10 → tw_thH w k τ n → tw_P L xs 4 197 44 [.ref 88, .int (nI n), u1, u2] [] τ Q) : ∀ (f n : Nat) (σ : tw_Mem), n + f = 10 → 1 ≤ n → tw_thS w k m σ0 σ n → tw_P L xs 4 197 11 [.ref 88, .int (nI n), u1, u2] [] σ Q := by
  intro f
  induction f with
  | zero =>
    intro n σ hf hn hS
    have hf : n = 10 := hf
    subst hf
    obtain ⟨hF, ⟨s1, s2, s3, s4⟩ | ⟨s1, s2⟩⟩ := hS
    · have hm59 : m = 59 := by
        rcases (show m = 59 ∨ 59 < m by omega) with h | h
        · exact h
        · exact absurd ((hok 59 h).2.2 (by omega)).2 (by omega)
      refine tw_sgn 2 (i1 := 13) (ls0 := [.ref 88, .int (nI 10), u1, u2]) (st0 := [.int (σ 88 19)]) (σ0 := σ) (ls1 := [.ref 88, .int (nI 10), u1, u2]) (st1 := [.int (-1)]) (σ1 := σ) rfl (rfl) (by simp only [s3, tw_nadd, tw_nmul]) (rfl) ?_
      refine tw_bzF (c := .ge) rfl (by rw [tw_cge'] <;> (exact tw_not_le.mpr (by decide))) ?_
      show tw_P L xs _ 197 14 [.ref 88, .int (nI 10), u1, u2] [] σ _
      refine tw_sg 2 (i1 := 16) (ls1 := [.ref 88, .int (nI 10), u1, u2]) (st1 := [.int (nI 10), .int (nI 10)]) (σ1 := σ) rfl ?_
      refine tw_biT (c := .ge) rfl (by rw [tw_cge, tw_nle (by omega) (by omega)] <;> omega) ?_
      show tw_P L xs _ 197 32 [.ref 88, .int (nI 10), u1, u2] [] σ _
      rcases (show m < k ∨ m = k by omega) with hz | hz
      · skip
        refine tw_sgn 2 (i1 := 34) (ls0 := [.ref 88, .int (nI 10), u1, u2]) (st0 := [.int (σ 88 19)]) (σ0 := σ) (ls1 := [.ref 88, .int (nI 10), u1, u2]) (st1 := [.int (-1)]) (σ1 := σ) rfl (rfl) (by simp only [s3, tw_nadd, tw_nmul]) (rfl) ?_
        refine tw_bzF (c := .ge) rfl (by rw [tw_cge'] <;> (exact tw_not_le.mpr (by decide))) ?_
        show tw_P L xs _ 197 35 [.ref 88, .int (nI 10), u1, u2] [] σ _
        refine tw_sgn 4 (i1 := 39) (ls0 := [.ref 88, .int (nI 10), u1, u2]) (st0 := [.int (σ 88 17), .int (σ 88 18)]) (σ0 := σ) (ls1 := [.ref 88, .int (nI 10), u1, u2]) (st1 := [.int (nI k), .int (nI (6 * 10 - 1))]) (σ1 := σ) rfl (rfl) (by simp only [s2, ((hF 88 17 (by omega) (by omega) (by omega)).trans h17), tw_nadd, tw_nmul]) (rfl) ?_
        refine tw_biF (c := .ge) rfl (by rw [tw_cge', tw_nle (by omega) (by omega)] <;> omega) ?_
        show tw_P L xs _ 197 40 [.ref 88, .int (nI 10), u1, u2] [] σ _
        refine tw_sgn 3 (i1 := 43) (ls0 := [.ref 88, .int (nI 10), u1, u2]) (st0 := [.int (σ 88 18), .ref 88]) (σ0 := σ) (ls1 := [.ref 88, .int (nI 10), u1, u2]) (st1 := [.int (nI (6 * 10 - 1)), .ref 88]) (σ1 := σ) rfl (rfl) (by simp only [s2, tw_nadd, tw_nmul]) (rfl) ?_
        refine tw_cl0 3 rfl (rfl) (by decide) ?_
        show tw_P L xs _ 190 0 [.ref 88, .int (nI (6 * 10 - 1))] [] σ _
        refine tw_sgn 2 (i1 := 2) (ls0 := [.ref 88, .int (nI (6 * 10 - 1))]) (st0 := [.int (σ 88 19)]) (σ0 := σ) (ls1 := [.ref 88, .int (nI (6 * 10 - 1))]) (st1 := [.int (-1)]) (σ1 := σ) rfl (rfl) (by simp only [s3, tw_nadd, tw_nmul]) (rfl) ?_
        refine tw_bzF (c := .ge) rfl (by rw [tw_cge'] <;> (exact tw_not_le.mpr (by decide))) ?_
        show tw_P L xs _ 190 3 [.ref 88, .int (nI (6 * 10 - 1))] [] σ _
        refine tw_sg 3 (i1 := 6) (ls1 := [.ref 88, .int (nI (6 * 10 - 1))]) (st1 := []) (σ1 := (tw_upd σ 88 19 (nI (6 * 10 - 1)))) rfl ?_
        refine tw_rv rfl ?_
        show tw_P L xs _ 197 44 [.ref 88, .int (nI 10), u1, u2] [] (tw_upd σ 88 19 (nI (6 * 10 - 1))) _
        refine hB _ _ (fun k j g1 g2 g3 => by rw [tw_upd_off (by omega)]; exact hF k j g1 g2 g3) (tw_upd_at.trans (congrArg nI (by omega))) (Or.inl hz)
      · skip
        refine tw_sgn 2 (i1 := 34) (ls0 := [.ref 88, .int (nI 10), u1, u2]) (st0 := [.int (σ 88 19)]) (σ0 := σ) (ls1 := [.ref 88, .int (nI 10), u1, u2]) (st1 := [.int (-1)]) (σ1 := σ) rfl (rfl) (by simp only [s3, tw_nadd, tw_nmul]) (rfl) ?_
        refine tw_bzF (c := .ge) rfl (by rw [tw_cge'] <;> (exact tw_not_le.mpr (by decide))) ?_
        show tw_P L xs _ 197 35 [.ref 88, .int (nI 10), u1, u2] [] σ _
        refine tw_sgn 4 (i1 := 39) (ls0 := [.ref 88, .int (nI 10), u1, u2]) (st0 := [.int (σ 88 17), .int (σ 88 18)]) (σ0 := σ) (ls1 := [.ref 88, .int (nI 10), u1, u2]) (st1 := [.int (nI k), .int (nI (6 * 10 - 1))]) (σ1 := σ) rfl (rfl) (by simp only [s2, ((hF 88 17 (by omega) (by omega) (by omega)).trans h17), tw_nadd, tw_nmul]) (rfl) ?_
        refine tw_biT (c := .ge) rfl (by rw [tw_cge, tw_nle (by omega) (by omega)] <;> omega) ?_
        show tw_P L xs _ 197 44 [.ref 88, .int (nI 10), u1, u2] [] σ _
        exact hG σ _ hF s3 hz (by omega) (by omega) (by omega) s4
    · skip
      refine tw_sgn 2 (i1 := 13) (ls0 := [.ref 88, .int (nI 10), u1, u2]) (st0 := [.int (σ 88 19)]) (σ0 := σ) (ls1 := [.ref 88, .int (nI 10), u1, u2]) (st1 := [.int (nI m)]) (σ1 := σ) rfl (rfl) (by simp only [s1, tw_nadd, tw_nmul]) (rfl) ?_
      refine tw_bzT (c := .ge) rfl (by rw [tw_cge, tw_nle (by omega) (by omega)] <;> omega) ?_
      show tw_P L xs _ 197 32 [.ref 88, .int (nI 10), u1, u2] [] σ _
      refine tw_sgn 2 (i1 := 34) (ls0 := [.ref 88, .int (nI 10), u1, u2]) (st0 := [.int (σ 88 19)]) (σ0 := σ) (ls1 := [.ref 88, .int (nI 10), u1, u2]) (st1 := [.int (nI m)]) (σ1 := σ) rfl (rfl) (by simp only [s1, tw_nadd, tw_nmul]) (rfl) ?_
      refine tw_bzT (c := .ge) rfl (by rw [tw_cge, tw_nle (by omega) (by omega)] <;> omega) ?_
      show tw_P L xs _ 197 44 [.ref 88, .int (nI 10), u1, u2] [] σ _
      exact hB σ _ hF s1 s2
  | succ f ih =>
    intro n σ hf hn hS
    obtain ⟨hF, ⟨s1, s2, s3, s4⟩ | ⟨s1, s2⟩⟩ := hS
    · rcases (show 6 * n - 1 < m ∨ m = 6 * n - 1 by omega) with hz | hz
      · have h59 : tw_hr w k (6 * n - 1) = nI 59 := ((hok (6 * n - 1) hz).2.2 (by omega)).1
        refine tw_sgn 2 (i1 := 13) (ls0 := [.ref 88, .int (nI n), u1, u2]) (st0 := [.int (σ 88 19)]) (σ0 := σ) (ls1 := [.ref 88, .int (nI n), u1, u2]) (st1 := [.int (-1)]) (σ1 := σ) rfl (rfl) (by simp only [s3, tw_nadd, tw_nmul]) (rfl) ?_
        refine tw_bzF (c := .ge) rfl (by rw [tw_cge'] <;> (exact tw_not_le.mpr (by decide))) ?_
        show tw_P L xs _ 197 14 [.ref 88, .int (nI n), u1, u2] [] σ _
        refine tw_sg 2 (i1 := 16) (ls1 := [.ref 88, .int (nI n), u1, u2]) (st1 := [.int (nI 10), .int (nI n)]) (σ1 := σ) rfl ?_
        refine tw_biF (c := .ge) rfl (by rw [tw_cge', tw_nle (by omega) (by omega)] <;> omega) ?_
        show tw_P L xs _ 197 17 [.ref 88, .int (nI n), u1, u2] [] σ _
        refine tw_sg 1 (i1 := 18) (ls1 := [.ref 88, .int (nI n), u1, u2]) (st1 := [.ref 88]) (σ1 := σ) rfl ?_
        refine tw_cl1 rfl (rfl) (by decide) (tw_E_mono (tw_e_here (w := w) (k := k) (j := 6 * n - 1) hk (by omega) (fun z hz => (hF 103 z (by omega) (by omega) (by omega)).trans (hw z hz)) ((hF 88 17 (by omega) (by omega) (by omega)).trans h17) s2) (fun v σ1 h => (⟨by rw [h.1, h59], h.2⟩ : v = some (.int (nI 59)) ∧ σ = σ1))) ?_
        rintro _ _ ⟨rfl, rfl⟩
        show tw_P L xs _ 197 19 [.ref 88, .int (nI n), u1, u2] [.int (nI 59)] σ _
        refine tw_sg 1 (i1 := 20) (ls1 := [.ref 88, .int (nI n), u1, u2]) (st1 := [.int (nI 59), .int (nI 59)]) (σ1 := σ) rfl ?_
        refine tw_biF (c := .ne) rfl (by rw [tw_cne', tw_neq (by omega) (by omega)] <;> omega) ?_
        show tw_P L xs _ 197 21 [.ref 88, .int (nI n), u1, u2] [] σ _
        refine tw_sgn 8 (i1 := 29) (ls0 := [.ref 88, .int (nI n), u1, u2]) (st0 := [.int (nI n), .ref 88]) (σ0 := (tw_upd σ 88 18 ((σ 88 18) + nI 1))) (ls1 := [.ref 88, .int (nI n), u1, u2]) (st1 := [.int (nI n), .ref 88]) (σ1 := (tw_upd σ 88 18 (nI ((6 * n - 1) + 1)))) rfl (rfl) (rfl) (by simp only [s2, tw_nadd, tw_nmul]) ?_
        refine tw_cl1 rfl (rfl) (by decide) (tw_e_rd (σ := (tw_upd σ 88 18 (nI ((6 * n - 1) + 1)))) (w := w) (c := n) (m := m) (k := k) hk (by omega) (fun z hz => by rw [tw_upd_off (by omega)]; exact (hF 103 z (by omega) (by omega) (by omega)).trans (hw z hz)) (by rw [tw_upd_off (by omega)]; exact (hF 88 17 (by omega) (by omega) (by omega)).trans h17) (by rw [tw_upd_at]; exact congrArg nI (by omega)) (by rw [tw_upd_off (by omega)]; exact s3) (by omega) hok hbad) ?_
        rintro _ τ ⟨rfl, r1, r2⟩
        show tw_P L xs _ 197 30 [.ref 88, .int (nI n), u1, u2] [] τ _
        refine tw_sgn 2 (i1 := 11) (ls0 := [.ref 88, .int (nI n + nI 1), u1, u2]) (st0 := []) (σ0 := τ) (ls1 := [.ref 88, .int (nI (n + 1)), u1, u2]) (st1 := []) (σ1 := τ) rfl (by simp only [tw_nadd, tw_nmul]) (rfl) (rfl) ?_
        refine ih (n + 1) τ (by omega) (by omega) (tw_thS.step (σ := σ) hF s4 (by omega) (fun k j g1 g2 g3 => by rw [r1 k j g1 g2 g3, tw_upd_off (by omega)]) r2)
      · have h59 : ¬ tw_hr w k (6 * n - 1) = nI 59 := fun e => hbad (by rw [hz]; exact ⟨fun q => by omega, fun q => by omega, fun _ => ⟨e, by omega⟩⟩)
        refine tw_sgn 2 (i1 := 13) (ls0 := [.ref 88, .int (nI n), u1, u2]) (st0 := [.int (σ 88 19)]) (σ0 := σ) (ls1 := [.ref 88, .int (nI n), u1, u2]) (st1 := [.int (-1)]) (σ1 := σ) rfl (rfl) (by simp only [s3, tw_nadd, tw_nmul]) (rfl) ?_
        refine tw_bzF (c := .ge) rfl (by rw [tw_cge'] <;> (exact tw_not_le.mpr (by decide))) ?_
        show tw_P L xs _ 197 14 [.ref 88, .int (nI n), u1, u2] [] σ _
        refine tw_sg 2 (i1 := 16) (ls1 := [.ref 88, .int (nI n), u1, u2]) (st1 := [.int (nI 10), .int (nI n)]) (σ1 := σ) rfl ?_
        refine tw_biF (c := .ge) rfl (by rw [tw_cge', tw_nle (by omega) (by omega)] <;> omega) ?_
        show tw_P L xs _ 197 17 [.ref 88, .int (nI n), u1, u2] [] σ _
        refine tw_sg 1 (i1 := 18) (ls1 := [.ref 88, .int (nI n), u1, u2]) (st1 := [.ref 88]) (σ1 := σ) rfl ?_
        refine tw_cl1 rfl (rfl) (by decide) (tw_E_mono (tw_e_here (w := w) (k := k) (j := 6 * n - 1) hk (by omega) (fun z hz => (hF 103 z (by omega) (by omega) (by omega)).trans (hw z hz)) ((hF 88 17 (by omega) (by omega) (by omega)).trans h17) s2) (fun v σ1 h => (⟨by rw [h.1], h.2⟩ : v = some (.int (tw_hr w k (6 * n - 1))) ∧ σ = σ1))) ?_
        rintro _ _ ⟨rfl, rfl⟩
        show tw_P L xs _ 197 19 [.ref 88, .int (nI n), u1, u2] [.int (tw_hr w k (6 * n - 1))] σ _
        refine tw_sg 1 (i1 := 20) (ls1 := [.ref 88, .int (nI n), u1, u2]) (st1 := [.int (nI 59), .int (tw_hr w k (6 * n - 1))]) (σ1 := σ) rfl ?_
        refine tw_biT (c := .ne) rfl (by rw [tw_cne] <;> (exact h59)) ?_
        show tw_P L xs _ 197 32 [.ref 88, .int (nI n), u1, u2] [] σ _
        rcases (show m < k ∨ m = k by omega) with hz | hz
        · skip
          refine tw_sgn 2 (i1 := 34) (ls0 := [.ref 88, .int (nI n), u1, u2]) (st0 := [.int (σ 88 19)]) (σ0 := σ) (ls1 := [.ref 88, .int (nI n), u1, u2]) (st1 := [.int (-1)]) (σ1 := σ) rfl (rfl) (by simp only [s3, tw_nadd, tw_nmul]) (rfl) ?_
          refine tw_bzF (c := .ge) rfl (by rw [tw_cge'] <;> (exact tw_not_le.mpr (by decide))) ?_
          show tw_P L xs _ 197 35 [.ref 88, .int (nI n), u1, u2] [] σ _
          refine tw_sgn 4 (i1 := 39) (ls0 := [.ref 88, .int (nI n), u1, u2]) (st0 := [.int (σ 88 17), .int (σ 88 18)]) (σ0 := σ) (ls1 := [.ref 88, .int (nI n), u1, u2]) (st1 := [.int (nI k), .int (nI (6 * n - 1))]) (σ1 := σ) rfl (rfl) (by simp only [s2, ((hF 88 17 (by omega) (by omega) (by omega)).trans h17), tw_nadd, tw_nmul]) (rfl) ?_
          refine tw_biF (c := .ge) rfl (by rw [tw_cge', tw_nle (by omega) (by omega)] <;> omega) ?_
          show tw_P L xs _ 197 40 [.ref 88, .int (nI n), u1, u2] [] σ _
          refine tw_sgn 3 (i1 := 43) (ls0 := [.ref 88, .int (nI n), u1, u2]) (st0 := [.int (σ 88 18), .ref 88]) (σ0 := σ) (ls1 := [.ref 88, .int (nI n), u1, u2]) (st1 := [.int (nI (6 * n - 1)), .ref 88]) (σ1 := σ) rfl (rfl) (by simp only [s2, tw_nadd, tw_nmul]) (rfl) ?_
          refine tw_cl0 3 rfl (rfl) (by decide) ?_
          show tw_P L xs _ 190 0 [.ref 88, .int (nI (6 * n - 1))] [] σ _
          refine tw_sgn 2 (i1 := 2) (ls0 := [.ref 88, .int (nI (6 * n - 1))]) (st0 := [.int (σ 88 19)]) (σ0 := σ) (ls1 := [.ref 88, .int (nI (6 * n - 1))]) (st1 := [.int (-1)]) (σ1 := σ) rfl (rfl) (by simp only [s3, tw_nadd, tw_nmul]) (rfl) ?_
          refine tw_bzF (c := .ge) rfl (by rw [tw_cge'] <;> (exact tw_not_le.mpr (by decide))) ?_
          show tw_P L xs _ 190 3 [.ref 88, .int (nI (6 * n - 1))] [] σ _
          refine tw_sg 3 (i1 := 6) (ls1 := [.ref 88, .int (nI (6 * n - 1))]) (st1 := []) (σ1 := (tw_upd σ 88 19 (nI (6 * n - 1)))) rfl ?_
          refine tw_rv rfl ?_
          show tw_P L xs _ 197 44 [.ref 88, .int (nI n), u1, u2] [] (tw_upd σ 88 19 (nI (6 * n - 1))) _
          refine hB _ _ (fun k j g1 g2 g3 => by rw [tw_upd_off (by omega)]; exact hF k j g1 g2 g3) (tw_upd_at.trans (congrArg nI (by omega))) (Or.inl hz)
        · skip
          refine tw_sgn 2 (i1 := 34) (ls0 := [.ref 88, .int (nI n), u1, u2]) (st0 := [.int (σ 88 19)]) (σ0 := σ) (ls1 := [.ref 88, .int (nI n), u1, u2]) (st1 := [.int (-1)]) (σ1 := σ) rfl (rfl) (by simp only [s3, tw_nadd, tw_nmul]) (rfl) ?_
          refine tw_bzF (c := .ge) rfl (by rw [tw_cge'] <;> (exact tw_not_le.mpr (by decide))) ?_
          show tw_P L xs _ 197 35 [.ref 88, .int (nI n), u1, u2] [] σ _
          refine tw_sgn 4 (i1 := 39) (ls0 := [.ref 88, .int (nI n), u1, u2]) (st0 := [.int (σ 88 17), .int (σ 88 18)]) (σ0 := σ) (ls1 := [.ref 88, .int (nI n), u1, u2]) (st1 := [.int (nI k), .int (nI (6 * n - 1))]) (σ1 := σ) rfl (rfl) (by simp only [s2, ((hF 88 17 (by omega) (by omega) (by omega)).trans h17), tw_nadd, tw_nmul]) (rfl) ?_
          refine tw_biT (c := .ge) rfl (by rw [tw_cge, tw_nle (by omega) (by omega)] <;> omega) ?_
          show tw_P L xs _ 197 44 [.ref 88, .int (nI n), u1, u2] [] σ _
          exact hG σ _ hF s3 hz (by omega) (by omega) (by omega) s4
    · skip
      refine tw_sgn 2 (i1 := 13) (ls0 := [.ref 88, .int (nI n), u1, u2]) (st0 := [.int (σ 88 19)]) (σ0 := σ) (ls1 := [.ref 88, .int (nI n), u1, u2]) (st1 := [.int (nI m)]) (σ1 := σ) rfl (rfl) (by simp only [s1, tw_nadd, tw_nmul]) (rfl) ?_
      refine tw_bzT (c := .ge) rfl (by rw [tw_cge, tw_nle (by omega) (by omega)] <;> omega) ?_
      show tw_P L xs _ 197 32 [.ref 88, .int (nI n), u1, u2] [] σ _
      refine tw_sgn 2 (i1 := 34) (ls0 := [.ref 88, .int (nI n), u1, u2]) (st0 := [.int (σ 88 19)]) (σ0 := σ) (ls1 := [.ref 88, .int (nI n), u1, u2]) (st1 := [.int (nI m)]) (σ1 := σ) rfl (rfl) (by simp only [s1, tw_nadd, tw_nmul]) (rfl) ?_
      refine tw_bzT (c := .ge) rfl (by rw [tw_cge, tw_nle (by omega) (by omega)] <;> omega) ?_
      show tw_P L xs _ 197 44 [.ref 88, .int (nI n), u1, u2] [] σ _
      exact hB σ _ hF s1 s2
def tw_thM (σ0 σ : tw_Mem) (c : Nat) : Prop := (∀ k j, ¬ (k = 91 ∧ j < 4 * c) → ¬ (92 ≤ k ∧ k ≤ 94 ∧ j < c) → σ k j = σ0 k j) ∧ (∀ d, d < c → (∀ h, h < 4 → σ 91 (4 * d + h) = σ0 108 (4 * d + h)) ∧ σ 92 d = σ0 109 d ∧ σ 93 d = nI 0 ∧ σ 94 d = nI 0)
set_option maxHeartbeats 4000000 in
set_option maxRecDepth 100000 in
theorem tw_l_thrw {L : Nat} {xs : Nat → Int32} {Q : Option Value → tw_Mem → Prop} {σ0 : tw_Mem} {n : Nat} (hn : n ≤ 10) : ∀ (f : Nat) (c : Nat) (σ : tw_Mem) (u : Value), c + f = n → (tw_thM σ0 σ c ∧ ∀ τ : tw_Mem, tw_thM σ0 τ n → Q (some (.int (nI n))) τ) → tw_P L xs 4 197 67 [.ref 88, .int (nI n), .int (nI c), u] [] σ Q := by
  intro f
  induction f with
  | zero =>
    intro c σ u hf hQ
    have hI := hQ.1
    refine tw_sg 2 (i1 := 69) (ls1 := [.ref 88, .int (nI n), .int (nI c), u]) (st1 := [.int (nI n), .int (nI c)]) (σ1 := σ) rfl ?_
    refine tw_biT (c := .ge) rfl (by rw [tw_cge, tw_nle (by omega) (by omega)] <;> omega) ?_
    show tw_P L xs _ 197 113 [.ref 88, .int (nI n), .int (nI c), u] [] σ _
    refine tw_sg 1 (i1 := 114) (ls1 := [.ref 88, .int (nI n), .int (nI c), u]) (st1 := [.int (nI n)]) (σ1 := σ) rfl ?_
    refine tw_ri rfl (rfl) ?_
    have hf : n = c := Eq.symm hf
    subst hf
    exact hQ.2 σ hI
  | succ f ih =>
    intro c σ u hf hQ
    have hI := hQ.1
    refine tw_sg 2 (i1 := 69) (ls1 := [.ref 88, .int (nI n), .int (nI c), u]) (st1 := [.int (nI n), .int (nI c)]) (σ1 := σ) rfl ?_
    refine tw_biF (c := .ge) rfl (by rw [tw_cge', tw_nle (by omega) (by omega)] <;> omega) ?_
    show tw_P L xs _ 197 70 [.ref 88, .int (nI n), .int (nI c), u] [] σ _
    refine tw_sg 6 (i1 := 76) (ls1 := [.ref 88, .int (nI n), .int (nI c), u]) (st1 := [.int (nI c), .ref 109, .int (nI c), .ref 92]) (σ1 := σ) rfl ?_
    refine tw_al (k := 109) (j := c) (len := 10) rfl rfl rfl rfl (rfl) (by omega) (by decide) ?_
    rw [(hI.1 109 c (by omega) (by omega))]
    refine tw_as (k := 92) (j := c) (len := 20) rfl rfl rfl (rfl) (by omega) (by decide) ?_
    refine tw_sg 4 (i1 := 82) (ls1 := [.ref 88, .int (nI n), .int (nI c), u]) (st1 := [.int (nI 0), .int (nI c), .ref 93]) (σ1 := (tw_upd σ 92 c (σ0 109 c))) rfl ?_
    refine tw_as (k := 93) (j := c) (len := 20) rfl rfl rfl (rfl) (by omega) (by decide) ?_
    refine tw_sg 4 (i1 := 87) (ls1 := [.ref 88, .int (nI n), .int (nI c), u]) (st1 := [.int (nI 0), .int (nI c), .ref 94]) (σ1 := (tw_upd (tw_upd σ 92 c (σ0 109 c)) 93 c (nI 0))) rfl ?_
    refine tw_as (k := 94) (j := c) (len := 20) rfl rfl rfl (rfl) (by omega) (by decide) ?_
    refine tw_sg 4 (i1 := 92) (ls1 := [.ref 88, .int (nI n), .int (nI c), .int (nI 0)]) (st1 := [.int (nI 4), .int (nI 0)]) (σ1 := (tw_upd (tw_upd (tw_upd σ 92 c (σ0 109 c)) 93 c (nI 0)) 94 c (nI 0))) rfl ?_
    refine tw_biF (c := .ge) rfl (by rw [tw_cge', tw_nle (by omega) (by omega)] <;> omega) ?_
    show tw_P L xs _ 197 93 [.ref 88, .int (nI n), .int (nI c), .int (nI 0)] [] (tw_upd (tw_upd (tw_upd σ 92 c (σ0 109 c)) 93 c (nI 0)) 94 c (nI 0)) _
    refine tw_sgn 14 (i1 := 107) (ls0 := [.ref 88, .int (nI n), .int (nI c), .int (nI 0)]) (st0 := [.int ((nI 4 * nI c) + nI 0), .ref 108, .int ((nI 4 * nI c) + nI 0), .ref 91]) (σ0 := (tw_upd (tw_upd (tw_upd σ 92 c (σ0 109 c)) 93 c (nI 0)) 94 c (nI 0))) (ls1 := [.ref 88, .int (nI n), .int (nI c), .int (nI 0)]) (st1 := [.int (nI ((4 * c) + 0)), .ref 108, .int (nI ((4 * c) + 0)), .ref 91]) (σ1 := (tw_upd (tw_upd (tw_upd σ 92 c (σ0 109 c)) 93 c (nI 0)) 94 c (nI 0))) rfl (rfl) (by simp only [tw_nadd, tw_nmul]) (rfl) ?_
    refine tw_al (k := 108) (j := ((4 * c) + 0)) (len := 40) rfl rfl rfl rfl (rfl) (by omega) (by decide) ?_
    rw [show (tw_upd (tw_upd (tw_upd σ 92 c (σ0 109 c)) 93 c (nI 0)) 94 c (nI 0)) 108 ((4 * c) + 0) = σ 108 ((4 * c) + 0) from by repeat (first | exact rfl | exact tw_upd_at | rw [tw_upd_off (by omega)]), (hI.1 108 (4 * c + 0) (by omega) (by omega))]
    refine tw_as (k := 91) (j := ((4 * c) + 0)) (len := 80) rfl rfl rfl (rfl) (by omega) (by decide) ?_
    refine tw_sgn 4 (i1 := 92) (ls0 := [.ref 88, .int (nI n), .int (nI c), .int (nI 0 + nI 1)]) (st0 := [.int (nI 4), .int (nI 0 + nI 1)]) (σ0 := (tw_upd (tw_upd (tw_upd (tw_upd σ 92 c (σ0 109 c)) 93 c (nI 0)) 94 c (nI 0)) 91 ((4 * c) + 0) (σ0 108 (4 * c + 0)))) (ls1 := [.ref 88, .int (nI n), .int (nI c), .int (nI 1)]) (st1 := [.int (nI 4), .int (nI 1)]) (σ1 := (tw_upd (tw_upd (tw_upd (tw_upd σ 92 c (σ0 109 c)) 93 c (nI 0)) 94 c (nI 0)) 91 ((4 * c) + 0) (σ0 108 (4 * c + 0)))) rfl (by simp only [tw_nadd, tw_nmul]) (by simp only [tw_nadd, tw_nmul]) (rfl) ?_
    refine tw_biF (c := .ge) rfl (by rw [tw_cge', tw_nle (by omega) (by omega)] <;> omega) ?_
    show tw_P L xs _ 197 93 [.ref 88, .int (nI n), .int (nI c), .int (nI 1)] [] (tw_upd (tw_upd (tw_upd (tw_upd σ 92 c (σ0 109 c)) 93 c (nI 0)) 94 c (nI 0)) 91 ((4 * c) + 0) (σ0 108 (4 * c + 0))) _
    refine tw_sgn 14 (i1 := 107) (ls0 := [.ref 88, .int (nI n), .int (nI c), .int (nI 1)]) (st0 := [.int ((nI 4 * nI c) + nI 1), .ref 108, .int ((nI 4 * nI c) + nI 1), .ref 91]) (σ0 := (tw_upd (tw_upd (tw_upd (tw_upd σ 92 c (σ0 109 c)) 93 c (nI 0)) 94 c (nI 0)) 91 ((4 * c) + 0) (σ0 108 (4 * c + 0)))) (ls1 := [.ref 88, .int (nI n), .int (nI c), .int (nI 1)]) (st1 := [.int (nI ((4 * c) + 1)), .ref 108, .int (nI ((4 * c) + 1)), .ref 91]) (σ1 := (tw_upd (tw_upd (tw_upd (tw_upd σ 92 c (σ0 109 c)) 93 c (nI 0)) 94 c (nI 0)) 91 ((4 * c) + 0) (σ0 108 (4 * c + 0)))) rfl (rfl) (by simp only [tw_nadd, tw_nmul]) (rfl) ?_
    refine tw_al (k := 108) (j := ((4 * c) + 1)) (len := 40) rfl rfl rfl rfl (rfl) (by omega) (by decide) ?_
    rw [show (tw_upd (tw_upd (tw_upd (tw_upd σ 92 c (σ0 109 c)) 93 c (nI 0)) 94 c (nI 0)) 91 ((4 * c) + 0) (σ0 108 (4 * c + 0))) 108 ((4 * c) + 1) = σ 108 ((4 * c) + 1) from by repeat (first | exact rfl | exact tw_upd_at | rw [tw_upd_off (by omega)]), (hI.1 108 (4 * c + 1) (by omega) (by omega))]
    refine tw_as (k := 91) (j := ((4 * c) + 1)) (len := 80) rfl rfl rfl (rfl) (by omega) (by decide) ?_
    refine tw_sgn 4 (i1 := 92) (ls0 := [.ref 88, .int (nI n), .int (nI c), .int (nI 1 + nI 1)]) (st0 := [.int (nI 4), .int (nI 1 + nI 1)]) (σ0 := (tw_upd (tw_upd (tw_upd (tw_upd (tw_upd σ 92 c (σ0 109 c)) 93 c (nI 0)) 94 c (nI 0)) 91 ((4 * c) + 0) (σ0 108 (4 * c + 0))) 91 ((4 * c) + 1) (σ0 108 (4 * c + 1)))) (ls1 := [.ref 88, .int (nI n), .int (nI c), .int (nI 2)]) (st1 := [.int (nI 4), .int (nI 2)]) (σ1 := (tw_upd (tw_upd (tw_upd (tw_upd (tw_upd σ 92 c (σ0 109 c)) 93 c (nI 0)) 94 c (nI 0)) 91 ((4 * c) + 0) (σ0 108 (4 * c + 0))) 91 ((4 * c) + 1) (σ0 108 (4 * c + 1)))) rfl (by simp only [tw_nadd, tw_nmul]) (by simp only [tw_nadd, tw_nmul]) (rfl) ?_
    refine tw_biF (c := .ge) rfl (by rw [tw_cge', tw_nle (by omega) (by omega)] <;> omega) ?_
    show tw_P L xs _ 197 93 [.ref 88, .int (nI n), .int (nI c), .int (nI 2)] [] (tw_upd (tw_upd (tw_upd (tw_upd (tw_upd σ 92 c (σ0 109 c)) 93 c (nI 0)) 94 c (nI 0)) 91 ((4 * c) + 0) (σ0 108 (4 * c + 0))) 91 ((4 * c) + 1) (σ0 108 (4 * c + 1))) _
    refine tw_sgn 14 (i1 := 107) (ls0 := [.ref 88, .int (nI n), .int (nI c), .int (nI 2)]) (st0 := [.int ((nI 4 * nI c) + nI 2), .ref 108, .int ((nI 4 * nI c) + nI 2), .ref 91]) (σ0 := (tw_upd (tw_upd (tw_upd (tw_upd (tw_upd σ 92 c (σ0 109 c)) 93 c (nI 0)) 94 c (nI 0)) 91 ((4 * c) + 0) (σ0 108 (4 * c + 0))) 91 ((4 * c) + 1) (σ0 108 (4 * c + 1)))) (ls1 := [.ref 88, .int (nI n), .int (nI c), .int (nI 2)]) (st1 := [.int (nI ((4 * c) + 2)), .ref 108, .int (nI ((4 * c) + 2)), .ref 91]) (σ1 := (tw_upd (tw_upd (tw_upd (tw_upd (tw_upd σ 92 c (σ0 109 c)) 93 c (nI 0)) 94 c (nI 0)) 91 ((4 * c) + 0) (σ0 108 (4 * c + 0))) 91 ((4 * c) + 1) (σ0 108 (4 * c + 1)))) rfl (rfl) (by simp only [tw_nadd, tw_nmul]) (rfl) ?_
    refine tw_al (k := 108) (j := ((4 * c) + 2)) (len := 40) rfl rfl rfl rfl (rfl) (by omega) (by decide) ?_
    rw [show (tw_upd (tw_upd (tw_upd (tw_upd (tw_upd σ 92 c (σ0 109 c)) 93 c (nI 0)) 94 c (nI 0)) 91 ((4 * c) + 0) (σ0 108 (4 * c + 0))) 91 ((4 * c) + 1) (σ0 108 (4 * c + 1))) 108 ((4 * c) + 2) = σ 108 ((4 * c) + 2) from by repeat (first | exact rfl | exact tw_upd_at | rw [tw_upd_off (by omega)]), (hI.1 108 (4 * c + 2) (by omega) (by omega))]
    refine tw_as (k := 91) (j := ((4 * c) + 2)) (len := 80) rfl rfl rfl (rfl) (by omega) (by decide) ?_
    refine tw_sgn 4 (i1 := 92) (ls0 := [.ref 88, .int (nI n), .int (nI c), .int (nI 2 + nI 1)]) (st0 := [.int (nI 4), .int (nI 2 + nI 1)]) (σ0 := (tw_upd (tw_upd (tw_upd (tw_upd (tw_upd (tw_upd σ 92 c (σ0 109 c)) 93 c (nI 0)) 94 c (nI 0)) 91 ((4 * c) + 0) (σ0 108 (4 * c + 0))) 91 ((4 * c) + 1) (σ0 108 (4 * c + 1))) 91 ((4 * c) + 2) (σ0 108 (4 * c + 2)))) (ls1 := [.ref 88, .int (nI n), .int (nI c), .int (nI 3)]) (st1 := [.int (nI 4), .int (nI 3)]) (σ1 := (tw_upd (tw_upd (tw_upd (tw_upd (tw_upd (tw_upd σ 92 c (σ0 109 c)) 93 c (nI 0)) 94 c (nI 0)) 91 ((4 * c) + 0) (σ0 108 (4 * c + 0))) 91 ((4 * c) + 1) (σ0 108 (4 * c + 1))) 91 ((4 * c) + 2) (σ0 108 (4 * c + 2)))) rfl (by simp only [tw_nadd, tw_nmul]) (by simp only [tw_nadd, tw_nmul]) (rfl) ?_
    refine tw_biF (c := .ge) rfl (by rw [tw_cge', tw_nle (by omega) (by omega)] <;> omega) ?_
    show tw_P L xs _ 197 93 [.ref 88, .int (nI n), .int (nI c), .int (nI 3)] [] (tw_upd (tw_upd (tw_upd (tw_upd (tw_upd (tw_upd σ 92 c (σ0 109 c)) 93 c (nI 0)) 94 c (nI 0)) 91 ((4 * c) + 0) (σ0 108 (4 * c + 0))) 91 ((4 * c) + 1) (σ0 108 (4 * c + 1))) 91 ((4 * c) + 2) (σ0 108 (4 * c + 2))) _
    refine tw_sgn 14 (i1 := 107) (ls0 := [.ref 88, .int (nI n), .int (nI c), .int (nI 3)]) (st0 := [.int ((nI 4 * nI c) + nI 3), .ref 108, .int ((nI 4 * nI c) + nI 3), .ref 91]) (σ0 := (tw_upd (tw_upd (tw_upd (tw_upd (tw_upd (tw_upd σ 92 c (σ0 109 c)) 93 c (nI 0)) 94 c (nI 0)) 91 ((4 * c) + 0) (σ0 108 (4 * c + 0))) 91 ((4 * c) + 1) (σ0 108 (4 * c + 1))) 91 ((4 * c) + 2) (σ0 108 (4 * c + 2)))) (ls1 := [.ref 88, .int (nI n), .int (nI c), .int (nI 3)]) (st1 := [.int (nI ((4 * c) + 3)), .ref 108, .int (nI ((4 * c) + 3)), .ref 91]) (σ1 := (tw_upd (tw_upd (tw_upd (tw_upd (tw_upd (tw_upd σ 92 c (σ0 109 c)) 93 c (nI 0)) 94 c (nI 0)) 91 ((4 * c) + 0) (σ0 108 (4 * c + 0))) 91 ((4 * c) + 1) (σ0 108 (4 * c + 1))) 91 ((4 * c) + 2) (σ0 108 (4 * c + 2)))) rfl (rfl) (by simp only [tw_nadd, tw_nmul]) (rfl) ?_
    refine tw_al (k := 108) (j := ((4 * c) + 3)) (len := 40) rfl rfl rfl rfl (rfl) (by omega) (by decide) ?_
    rw [show (tw_upd (tw_upd (tw_upd (tw_upd (tw_upd (tw_upd σ 92 c (σ0 109 c)) 93 c (nI 0)) 94 c (nI 0)) 91 ((4 * c) + 0) (σ0 108 (4 * c + 0))) 91 ((4 * c) + 1) (σ0 108 (4 * c + 1))) 91 ((4 * c) + 2) (σ0 108 (4 * c + 2))) 108 ((4 * c) + 3) = σ 108 ((4 * c) + 3) from by repeat (first | exact rfl | exact tw_upd_at | rw [tw_upd_off (by omega)]), (hI.1 108 (4 * c + 3) (by omega) (by omega))]
    refine tw_as (k := 91) (j := ((4 * c) + 3)) (len := 80) rfl rfl rfl (rfl) (by omega) (by decide) ?_
    refine tw_sgn 4 (i1 := 92) (ls0 := [.ref 88, .int (nI n), .int (nI c), .int (nI 3 + nI 1)]) (st0 := [.int (nI 4), .int (nI 3 + nI 1)]) (σ0 := (tw_upd (tw_upd (tw_upd (tw_upd (tw_upd (tw_upd (tw_upd σ 92 c (σ0 109 c)) 93 c (nI 0)) 94 c (nI 0)) 91 ((4 * c) + 0) (σ0 108 (4 * c + 0))) 91 ((4 * c) + 1) (σ0 108 (4 * c + 1))) 91 ((4 * c) + 2) (σ0 108 (4 * c + 2))) 91 ((4 * c) + 3) (σ0 108 (4 * c + 3)))) (ls1 := [.ref 88, .int (nI n), .int (nI c), .int (nI 4)]) (st1 := [.int (nI 4), .int (nI 4)]) (σ1 := (tw_upd (tw_upd (tw_upd (tw_upd (tw_upd (tw_upd (tw_upd σ 92 c (σ0 109 c)) 93 c (nI 0)) 94 c (nI 0)) 91 ((4 * c) + 0) (σ0 108 (4 * c + 0))) 91 ((4 * c) + 1) (σ0 108 (4 * c + 1))) 91 ((4 * c) + 2) (σ0 108 (4 * c + 2))) 91 ((4 * c) + 3) (σ0 108 (4 * c + 3)))) rfl (by simp only [tw_nadd, tw_nmul]) (by simp only [tw_nadd, tw_nmul]) (rfl) ?_
    refine tw_biT (c := .ge) rfl (by rw [tw_cge, tw_nle (by omega) (by omega)] <;> omega) ?_
    show tw_P L xs _ 197 111 [.ref 88, .int (nI n), .int (nI c), .int (nI 4)] [] (tw_upd (tw_upd (tw_upd (tw_upd (tw_upd (tw_upd (tw_upd σ 92 c (σ0 109 c)) 93 c (nI 0)) 94 c (nI 0)) 91 ((4 * c) + 0) (σ0 108 (4 * c + 0))) 91 ((4 * c) + 1) (σ0 108 (4 * c + 1))) 91 ((4 * c) + 2) (σ0 108 (4 * c + 2))) 91 ((4 * c) + 3) (σ0 108 (4 * c + 3))) _
    refine tw_sgn 2 (i1 := 67) (ls0 := [.ref 88, .int (nI n), .int (nI c + nI 1), .int (nI 4)]) (st0 := []) (σ0 := (tw_upd (tw_upd (tw_upd (tw_upd (tw_upd (tw_upd (tw_upd σ 92 c (σ0 109 c)) 93 c (nI 0)) 94 c (nI 0)) 91 ((4 * c) + 0) (σ0 108 (4 * c + 0))) 91 ((4 * c) + 1) (σ0 108 (4 * c + 1))) 91 ((4 * c) + 2) (σ0 108 (4 * c + 2))) 91 ((4 * c) + 3) (σ0 108 (4 * c + 3)))) (ls1 := [.ref 88, .int (nI n), .int (nI (c + 1)), .int (nI 4)]) (st1 := []) (σ1 := (tw_upd (tw_upd (tw_upd (tw_upd (tw_upd (tw_upd (tw_upd σ 92 c (σ0 109 c)) 93 c (nI 0)) 94 c (nI 0)) 91 ((4 * c) + 0) (σ0 108 (4 * c + 0))) 91 ((4 * c) + 1) (σ0 108 (4 * c + 1))) 91 ((4 * c) + 2) (σ0 108 (4 * c + 2))) 91 ((4 * c) + 3) (σ0 108 (4 * c + 3)))) rfl (by simp only [tw_nadd, tw_nmul]) (rfl) (rfl) ?_
    generalize hτ : (tw_upd (tw_upd (tw_upd (tw_upd (tw_upd (tw_upd (tw_upd σ 92 c (σ0 109 c)) 93 c (nI 0)) 94 c (nI 0)) 91 ((4 * c) + 0) (σ0 108 (4 * c + 0))) 91 ((4 * c) + 1) (σ0 108 (4 * c + 1))) 91 ((4 * c) + 2) (σ0 108 (4 * c + 2))) 91 ((4 * c) + 3) (σ0 108 (4 * c + 3))) = τ
    have F : ∀ k j, ¬ (k = 91 ∧ 4 * c ≤ j ∧ j < 4 * c + 4) → ¬ (92 ≤ k ∧ k ≤ 94 ∧ j = c) → τ k j = σ k j := fun k j g1 g2 => by rw [← hτ]; repeat (first | rfl | rw [tw_upd_off (by omega)])
    refine ih (c + 1) τ _ (by omega) ⟨⟨fun k j g1 g2 => ?_, fun d hd => ?_⟩, hQ.2⟩
    · rw [F k j (by omega) (by omega)]; exact hI.1 k j (by omega) (by omega)
    · by_cases z : d = c
      · subst z
        refine ⟨fun h hh => ?_, ?_, ?_, ?_⟩
        · rcases (show h = 0 ∨ h = 1 ∨ h = 2 ∨ h = 3 by omega) with rfl | rfl | rfl | rfl
          · rw [← hτ]; repeat (first | exact tw_upd_at | rw [tw_upd_off (by omega)])
          · rw [← hτ]; repeat (first | exact tw_upd_at | rw [tw_upd_off (by omega)])
          · rw [← hτ]; repeat (first | exact tw_upd_at | rw [tw_upd_off (by omega)])
          · rw [← hτ]; repeat (first | exact tw_upd_at | rw [tw_upd_off (by omega)])
        · rw [← hτ]; repeat (first | exact tw_upd_at | rw [tw_upd_off (by omega)])
        · rw [← hτ]; repeat (first | exact tw_upd_at | rw [tw_upd_off (by omega)])
        · rw [← hτ]; repeat (first | exact tw_upd_at | rw [tw_upd_off (by omega)])
      · rw [F 92 d (by omega) (by omega), F 93 d (by omega) (by omega), F 94 d (by omega) (by omega)]
        refine ⟨fun h hh => ?_, (hI.2 d (by omega)).2⟩
        rw [F 91 _ (by omega) (by omega)]
        exact (hI.2 d (by omega)).1 h hh
end tw_s61
