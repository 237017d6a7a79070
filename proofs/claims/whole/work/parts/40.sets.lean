/-! sets of turnings -/
section tw_s40
variable {L : Nat} {xs : Nat → Int32} {σ : tw_Mem} {x y w : Int32} {n r i c k h q a b e : Nat}
def tw_sT (s : Int32) (t c : Nat) : Nat := if (s >>> (nI c &&& nI 31)) &&& nI 1 = nI 1 then t else 0
theorem tw_sT_lt {s : Int32} {t c : Nat} (ht : t < 4) : tw_sT s t c < 4 := by unfold tw_sT; split <;> omega
/-- row K, up to c, is T; all else as it was -/
def tw_laid (σ0 σ : tw_Mem) (K : Nat) (T : Nat → Nat) (c : Nat) : Prop := (∀ k j, ¬ (k = K ∧ j < c) → σ k j = σ0 k j) ∧ ∀ d, d < c → σ K d = nI (T d)
theorem tw_laid.step {σ0 σ : tw_Mem} {K c : Nat} {T : Nat → Nat} (h : tw_laid σ0 σ K T c) : tw_laid σ0 (tw_upd σ K c (nI (T c))) K T (c + 1) := by
  refine ⟨fun k j g => by rw [tw_upd_off (by omega)]; exact h.1 k j (by omega), fun d hd => ?_⟩
  by_cases hz : d = c
  · subst hz; exact tw_upd_at
  · rw [tw_upd_off (by omega)]; exact h.2 d (by omega)
theorem tw_shl1 : ∀ n, n ≤ 10 → nI 1 <<< (nI n &&& nI 31) = nI (2 ^ n) := by decide +kernel
theorem tw_pow_le : ∀ n, n ≤ 10 → 2 ^ n ≤ 1024 := by decide +kernel
set_option maxHeartbeats 4000000 in
set_option maxRecDepth 100000 in
theorem tw_l_set {L : Nat} {xs : Nat → Int32} {Q : Option Value → tw_Mem → Prop} {σ0 : tw_Mem} {s : Int32} {t : Nat} (ht : t < 4)  : ∀ (f : Nat) (c : Nat) (σ : tw_Mem), c + f = 10 → tw_laid σ0 σ 8 (tw_sT s t) c → (∀ τ : tw_Mem, tw_laid σ0 τ 8 (tw_sT s t) 10 → tw_P L xs 8 90 21 [.ref 6, .int s, .int (nI t), .int (nI 10)] [] τ Q) → tw_P L xs 8 90 2 [.ref 6, .int s, .int (nI t), .int (nI c)] [] σ Q := by
  intro f
  induction f with
  | zero =>
    intro c σ hf hI hQ
    refine tw_sg 2 (i1 := 4) (ls1 := [.ref 6, .int s, .int (nI t), .int (nI c)]) (st1 := [.int (nI 10), .int (nI c)]) (σ1 := σ) rfl ?_
    refine tw_biT (c := .ge) rfl (by rw [tw_cge, tw_nle (by omega) (by omega)] <;> omega) ?_
    show tw_P L xs _ 90 21 [.ref 6, .int s, .int (nI t), .int (nI c)] [] σ _
    have hz : 10 = c := Eq.symm hf
    subst hz
    exact hQ _ hI
  | succ f ih =>
    intro c σ hf hI hQ
    refine tw_sg 2 (i1 := 4) (ls1 := [.ref 6, .int s, .int (nI t), .int (nI c)]) (st1 := [.int (nI 10), .int (nI c)]) (σ1 := σ) rfl ?_
    refine tw_biF (c := .ge) rfl (by rw [tw_cge', tw_nle (by omega) (by omega)] <;> omega) ?_
    show tw_P L xs _ 90 5 [.ref 6, .int s, .int (nI t), .int (nI c)] [] σ _
    refine tw_sg 9 (i1 := 14) (ls1 := [.ref 6, .int s, .int (nI t), .int (nI c)]) (st1 := [.int (nI 1), .int ((s >>> (nI c &&& 31)) &&& nI 1), .int (nI c), .ref 8]) (σ1 := σ) rfl ?_
    refine tw_bi (c := .ne) rfl (fun h1 => ?_) (fun h1 => ?_)
    · rw [tw_cne] at h1
      refine tw_sg 1 (i1 := 18) (ls1 := [.ref 6, .int s, .int (nI t), .int (nI c)]) (st1 := [.int (nI 0), .int (nI c), .ref 8]) (σ1 := σ) rfl ?_
      have hK : tw_P L xs 8 90 18 [.ref 6, .int s, .int (nI t), .int (nI c)] [.int (nI (tw_sT s t c)), .int (nI c), .ref 8] σ Q := by
        refine tw_as (k := 8) (j := c) (len := 10) rfl rfl rfl (rfl) (by omega) (by decide) ?_
        refine tw_sgn 2 (i1 := 2) (ls0 := [.ref 6, .int s, .int (nI t), .int (nI c + nI 1)]) (st0 := []) (σ0 := (tw_upd σ 8 c (nI (tw_sT s t c)))) (ls1 := [.ref 6, .int s, .int (nI t), .int (nI (c + 1))]) (st1 := []) (σ1 := (tw_upd σ 8 c (nI (tw_sT s t c)))) rfl (by simp only [tw_nadd, tw_nmul]) (rfl) (rfl) ?_
        exact ih (c + 1) _ (by omega) hI.step hQ
      have e : nI (tw_sT s t c) = nI 0 := by unfold tw_sT; first | rw [if_pos (by assumption)] | rw [if_neg (by assumption)]
      rw [e] at hK
      exact hK
    · rw [tw_cne'] at h1
      refine tw_sg 2 (i1 := 18) (ls1 := [.ref 6, .int s, .int (nI t), .int (nI c)]) (st1 := [.int (nI t), .int (nI c), .ref 8]) (σ1 := σ) rfl ?_
      have hK : tw_P L xs 8 90 18 [.ref 6, .int s, .int (nI t), .int (nI c)] [.int (nI (tw_sT s t c)), .int (nI c), .ref 8] σ Q := by
        refine tw_as (k := 8) (j := c) (len := 10) rfl rfl rfl (rfl) (by omega) (by decide) ?_
        refine tw_sgn 2 (i1 := 2) (ls0 := [.ref 6, .int s, .int (nI t), .int (nI c + nI 1)]) (st0 := []) (σ0 := (tw_upd σ 8 c (nI (tw_sT s t c)))) (ls1 := [.ref 6, .int s, .int (nI t), .int (nI (c + 1))]) (st1 := []) (σ1 := (tw_upd σ 8 c (nI (tw_sT s t c)))) rfl (by simp only [tw_nadd, tw_nmul]) (rfl) (rfl) ?_
        exact ih (c + 1) _ (by omega) hI.step hQ
      have e : nI (tw_sT s t c) = nI t := by unfold tw_sT; first | rw [if_pos (by assumption)] | rw [if_neg (by assumption)]
      rw [e] at hK
      exact hK
set_option maxHeartbeats 4000000 in
set_option maxRecDepth 100000 in
theorem tw_l_picked {L : Nat} {xs : Nat → Int32} {Q : Option Value → tw_Mem → Prop} {σ0 : tw_Mem} {s : Int32} {t : Nat} (ht : t < 4) {n : Nat} (h89 : σ0 89 0 = nI n) (h10 : n ≤ 10) : ∀ (f : Nat) (c : Nat) (σ : tw_Mem), c + f = n → tw_laid σ0 σ 110 (tw_sT s t) c → (∀ τ : tw_Mem, tw_laid σ0 τ 110 (tw_sT s t) n → tw_P L xs 8 208 24 [.ref 88, .int s, .int (nI t), .int (nI n)] [] τ Q) → tw_P L xs 8 208 2 [.ref 88, .int s, .int (nI t), .int (nI c)] [] σ Q := by
  intro f
  induction f with
  | zero =>
    intro c σ hf hI hQ
    have e89 : σ 89 0 = nI n := by rw [hI.1 _ _ (by omega)]; exact h89
    refine tw_sg 4 (i1 := 6) (ls1 := [.ref 88, .int s, .int (nI t), .int (nI c)]) (st1 := [.int (nI 0), .ref 89, .int (nI c)]) (σ1 := σ) rfl ?_
    refine tw_al (k := 89) (j := 0) (len := 2) rfl rfl rfl rfl (rfl) (by omega) (by decide) ?_
    rw [e89]
    refine tw_biT (c := .ge) rfl (by rw [tw_cge, tw_nle (by omega) (by omega)] <;> omega) ?_
    show tw_P L xs _ 208 24 [.ref 88, .int s, .int (nI t), .int (nI c)] [] σ _
    have hz : n = c := Eq.symm hf
    subst hz
    exact hQ _ hI
  | succ f ih =>
    intro c σ hf hI hQ
    have e89 : σ 89 0 = nI n := by rw [hI.1 _ _ (by omega)]; exact h89
    refine tw_sg 4 (i1 := 6) (ls1 := [.ref 88, .int s, .int (nI t), .int (nI c)]) (st1 := [.int (nI 0), .ref 89, .int (nI c)]) (σ1 := σ) rfl ?_
    refine tw_al (k := 89) (j := 0) (len := 2) rfl rfl rfl rfl (rfl) (by omega) (by decide) ?_
    rw [e89]
    refine tw_biF (c := .ge) rfl (by rw [tw_cge', tw_nle (by omega) (by omega)] <;> omega) ?_
    show tw_P L xs _ 208 8 [.ref 88, .int s, .int (nI t), .int (nI c)] [] σ _
    refine tw_sg 9 (i1 := 17) (ls1 := [.ref 88, .int s, .int (nI t), .int (nI c)]) (st1 := [.int (nI 1), .int ((s >>> (nI c &&& 31)) &&& nI 1), .int (nI c), .ref 110]) (σ1 := σ) rfl ?_
    refine tw_bi (c := .ne) rfl (fun h1 => ?_) (fun h1 => ?_)
    · rw [tw_cne] at h1
      refine tw_sg 1 (i1 := 21) (ls1 := [.ref 88, .int s, .int (nI t), .int (nI c)]) (st1 := [.int (nI 0), .int (nI c), .ref 110]) (σ1 := σ) rfl ?_
      have hK : tw_P L xs 8 208 21 [.ref 88, .int s, .int (nI t), .int (nI c)] [.int (nI (tw_sT s t c)), .int (nI c), .ref 110] σ Q := by
        refine tw_as (k := 110) (j := c) (len := 10) rfl rfl rfl (rfl) (by omega) (by decide) ?_
        refine tw_sgn 2 (i1 := 2) (ls0 := [.ref 88, .int s, .int (nI t), .int (nI c + nI 1)]) (st0 := []) (σ0 := (tw_upd σ 110 c (nI (tw_sT s t c)))) (ls1 := [.ref 88, .int s, .int (nI t), .int (nI (c + 1))]) (st1 := []) (σ1 := (tw_upd σ 110 c (nI (tw_sT s t c)))) rfl (by simp only [tw_nadd, tw_nmul]) (rfl) (rfl) ?_
        exact ih (c + 1) _ (by omega) hI.step hQ
      have e : nI (tw_sT s t c) = nI 0 := by unfold tw_sT; first | rw [if_pos (by assumption)] | rw [if_neg (by assumption)]
      rw [e] at hK
      exact hK
    · rw [tw_cne'] at h1
      refine tw_sg 2 (i1 := 21) (ls1 := [.ref 88, .int s, .int (nI t), .int (nI c)]) (st1 := [.int (nI t), .int (nI c), .ref 110]) (σ1 := σ) rfl ?_
      have hK : tw_P L xs 8 208 21 [.ref 88, .int s, .int (nI t), .int (nI c)] [.int (nI (tw_sT s t c)), .int (nI c), .ref 110] σ Q := by
        refine tw_as (k := 110) (j := c) (len := 10) rfl rfl rfl (rfl) (by omega) (by decide) ?_
        refine tw_sgn 2 (i1 := 2) (ls0 := [.ref 88, .int s, .int (nI t), .int (nI c + nI 1)]) (st0 := []) (σ0 := (tw_upd σ 110 c (nI (tw_sT s t c)))) (ls1 := [.ref 88, .int s, .int (nI t), .int (nI (c + 1))]) (st1 := []) (σ1 := (tw_upd σ 110 c (nI (tw_sT s t c)))) rfl (by simp only [tw_nadd, tw_nmul]) (rfl) (rfl) ?_
        exact ih (c + 1) _ (by omega) hI.step hQ
      have e : nI (tw_sT s t c) = nI t := by unfold tw_sT; first | rw [if_pos (by assumption)] | rw [if_neg (by assumption)]
      rw [e] at hK
      exact hK
end tw_s40
