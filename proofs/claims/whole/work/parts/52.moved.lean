/-! a loom moved -/
section tw_s52
variable {L : Nat} {xs : Nat → Int32} {σ : tw_Mem} {x y w : Int32} {n r i c k h q a b e : Nat}
section tw_mvi
variable {σ τ : tw_Mem} {n r : Nat}
theorem tw_mvCi {k k2 k3 j : Nat} (e1 : ∀ k j, tw_fcl k j → τ (k + 32) j = σ k j) (h : tw_fcl k j) (h2 : k2 = k + 32) (h3 : k3 = k + 0) : τ k2 j = σ k3 j := by
  subst h2; subst h3; exact e1 _ j h
theorem tw_mvMi {k j2 j3 : Nat} (e2 : ∀ k j j2, tw_fmL k j j2 → τ k j2 = σ k j) (h : tw_fmL k j3 j2) : τ k j2 = σ k j3 := e2 k _ _ h
theorem tw_tree.mvi {k : Nat} (hk : k ≤ 80) (e1 : ∀ k j, tw_fcl k j → τ (k + 32) j = σ k j) (e2 : ∀ k j j2, tw_fmL k j j2 → τ k j2 = σ k j) : ∀ (f nd : Nat), tw_tree σ 6 0 k f nd → tw_tree τ 38 1 k f nd
  | 0, _, h => h
  | f + 1, nd, ⟨g1, ch, g2, g3, g4, g5⟩ => by
    have C : ∀ q, q < 4 → τ (38 + 8 + q) nd = σ (6 + 8 + q) nd := fun q hq => tw_mvCi (k := 14 + q) e1 (by unfold tw_fcl; omega) (by omega) (by omega)
    have M : ∀ q, q < 4 → τ (99 + q) (nd + 80 * 1) = σ (99 + q) (nd + 80 * 0) := fun q hq => tw_mvMi e2 (by unfold tw_fmL; omega)
    refine ⟨g1, ch, g2, (C 0 (by omega)).trans g3, (M 0 (by omega)).trans g4, ?_⟩
    rcases g5 with g5 | ⟨g5, ⟨q, q1, q2, q3, q4⟩, ⟨a, a1, a2, a3⟩, g6⟩
    · exact Or.inl g5
    · refine Or.inr ⟨g5, ⟨q, q1, (C 1 (by omega)).trans q2, (M 1 (by omega)).trans q3, q4⟩, ⟨a, (C 2 (by omega)).trans a1, (M 2 (by omega)).trans a2, tw_tree.mvi hk e1 e2 f a a3⟩, fun hp => ?_⟩
      obtain ⟨c, c1, c2, c3⟩ := g6 hp
      exact ⟨c, (C 3 (by omega)).trans c1, (M 3 (by omega)).trans c2, tw_tree.mvi hk e1 e2 f c c3⟩
theorem tw_iLoom.mvi (h : tw_iLoom σ 6 0 n r) (e1 : ∀ k j, tw_fcl k j → τ (k + 32) j = σ k j) (e2 : ∀ k j j2, tw_fmL k j j2 → τ k j2 = σ k j) : tw_iLoom τ 38 1 n r := by
  obtain ⟨⟨h10, h50⟩, ⟨g1, g2⟩, ⟨g3, g4, g5⟩, hC, hR, hL⟩ := h
  have C : ∀ k k2 k3 j, tw_fcl k j → k2 = k + 32 → k3 = k + 0 → τ k2 j = σ k3 j := fun k k2 k3 j a b c => tw_mvCi e1 a b c
  have M : ∀ k j2 j3, tw_fmL k j3 j2 → τ k j2 = σ k j3 := fun k j2 j3 a => tw_mvMi e2 a
  refine ⟨⟨h10, h50⟩, ⟨(C 6 _ _ 4 (by unfold tw_fcl; omega) (by omega) (by omega)).trans g1, (M 89 _ _ (by unfold tw_fmL; omega)).trans g2⟩, ⟨(C 9 _ _ 3 (by unfold tw_fcl; omega) (by omega) (by omega)).trans g3, (C 9 _ _ 4 (by unfold tw_fcl; omega) (by omega) (by omega)).trans g4, (M 90 _ _ (by unfold tw_fmL; omega)).trans g5⟩, fun c hc => ?_, fun i hi c hc => ?_, ?_⟩
  · obtain ⟨a1, ⟨a2, a3⟩, ⟨a4, a5⟩, a6⟩ := hC c hc
    have P : ∀ h, h < 4 → τ (2 * c + (38 + 13)) h = σ (2 * c + (6 + 13)) h := fun h hh => C (2 * c + 19) _ _ h (by unfold tw_fcl; omega) (by omega) (by omega)
    have O : ∀ j, 1 ≤ j → j ≤ 3 → τ (2 * c + (38 + 12)) j = σ (2 * c + (6 + 12)) j := fun j h1 h2 => C (2 * c + 18) _ _ j (by unfold tw_fcl; omega) (by omega) (by omega)
    have Hh : ∀ h, h < 4 → τ 91 (4 * c + h + 40 * 1) = σ 91 (4 * c + h + 40 * 0) := fun h hh => M 91 _ _ (by unfold tw_fmL; omega)
    have S : ∀ k, 92 ≤ k → k ≤ 94 → τ k (c + 10 * 1) = σ k (c + 10 * 0) := fun k h1 h2 => M k _ _ (by unfold tw_fmL; omega)
    refine ⟨fun h hh => by rw [P h hh, Hh h hh]; exact a1 h hh, ⟨by rw [O 1 (by omega) (by omega), S 92 (by omega) (by omega)]; exact a2, by rw [S 92 (by omega) (by omega)]; exact a3⟩, ⟨by rw [O 2 (by omega) (by omega), S 93 (by omega) (by omega)]; exact a4, by rw [S 93 (by omega) (by omega)]; exact a5⟩, by rw [O 3 (by omega) (by omega), S 94 (by omega) (by omega)]; exact a6⟩
  · have R : ∀ q, q < 4 → τ (38 + 4) ((i * 10 + c) * 4 + q) = σ (6 + 4) ((i * 10 + c) * 4 + q) := fun q hq => C 10 _ _ _ (by unfold tw_fcl; omega) (by omega) (by omega)
    have W : ∀ k, 95 ≤ k → k ≤ 98 → τ k (10 * i + c + 500 * 1) = σ k (10 * i + c + 500 * 0) := fun k h1 h2 => M k _ _ (by unfold tw_fmL; omega)
    rw [R 0 (by omega), R 1 (by omega), R 2 (by omega), R 3 (by omega), W 95 (by omega) (by omega), W 96 (by omega) (by omega), W 97 (by omega) (by omega), W 98 (by omega) (by omega)]
    exact hR i hi c hc
  · have e0 : τ (38 + 7) 4 = σ (6 + 7) 4 := C 13 _ _ 4 (by unfold tw_fcl; omega) (by omega) (by omega)
    rcases hL with ⟨a1, a2⟩ | ⟨k, a1, a2, a3⟩
    · exact Or.inl ⟨e0.trans a1, (M 99 _ _ (by unfold tw_fmL; omega)).trans a2⟩
    · exact Or.inr ⟨k, a1, e0.trans a2, tw_tree.mvi a1 e1 e2 7 0 a3⟩
theorem tw_iTw.mvi (h : tw_iTw σ 0) (e2 : ∀ k j j2, tw_fmL k j j2 → τ k j2 = σ k j) : tw_iTw τ 1 := by
  intro n r hn hr h1 h2 c hc
  have M : ∀ k j2 j3, tw_fmL k j3 j2 → τ k j2 = σ k j3 := fun k j2 j3 a => tw_mvMi e2 a
  rw [M 94 _ (c + 10 * 0) (by unfold tw_fmL; omega), h n r hn hr ((M 89 _ _ (by unfold tw_fmL; omega)).symm.trans h1) ((M 90 _ _ (by unfold tw_fmL; omega)).symm.trans h2) c hc]
  exact tw_sm_cg r (fun i hi => (M 98 _ _ (by unfold tw_fmL; omega)).symm)
end tw_mvi
section tw_mvu
variable {σ τ : tw_Mem} {n r : Nat}
theorem tw_mvCu {k k2 k3 j : Nat} (e1 : ∀ k j, tw_fcl k j → τ k j = σ (k + 32) j) (h : tw_fcl k j) (h2 : k2 = k + 0) (h3 : k3 = k + 32) : τ k2 j = σ k3 j := by
  subst h2; subst h3; exact e1 _ j h
theorem tw_mvMu {k j2 j3 : Nat} (e2 : ∀ k j j2, tw_fmL k j j2 → τ k j = σ k j2) (h : tw_fmL k j2 j3) : τ k j2 = σ k j3 := e2 k _ _ h
theorem tw_tree.mvu {k : Nat} (hk : k ≤ 80) (e1 : ∀ k j, tw_fcl k j → τ k j = σ (k + 32) j) (e2 : ∀ k j j2, tw_fmL k j j2 → τ k j = σ k j2) : ∀ (f nd : Nat), tw_tree σ 38 1 k f nd → tw_tree τ 6 0 k f nd
  | 0, _, h => h
  | f + 1, nd, ⟨g1, ch, g2, g3, g4, g5⟩ => by
    have C : ∀ q, q < 4 → τ (6 + 8 + q) nd = σ (38 + 8 + q) nd := fun q hq => tw_mvCu (k := 14 + q) e1 (by unfold tw_fcl; omega) (by omega) (by omega)
    have M : ∀ q, q < 4 → τ (99 + q) (nd + 80 * 0) = σ (99 + q) (nd + 80 * 1) := fun q hq => tw_mvMu e2 (by unfold tw_fmL; omega)
    refine ⟨g1, ch, g2, (C 0 (by omega)).trans g3, (M 0 (by omega)).trans g4, ?_⟩
    rcases g5 with g5 | ⟨g5, ⟨q, q1, q2, q3, q4⟩, ⟨a, a1, a2, a3⟩, g6⟩
    · exact Or.inl g5
    · refine Or.inr ⟨g5, ⟨q, q1, (C 1 (by omega)).trans q2, (M 1 (by omega)).trans q3, q4⟩, ⟨a, (C 2 (by omega)).trans a1, (M 2 (by omega)).trans a2, tw_tree.mvu hk e1 e2 f a a3⟩, fun hp => ?_⟩
      obtain ⟨c, c1, c2, c3⟩ := g6 hp
      exact ⟨c, (C 3 (by omega)).trans c1, (M 3 (by omega)).trans c2, tw_tree.mvu hk e1 e2 f c c3⟩
theorem tw_iLoom.mvu (h : tw_iLoom σ 38 1 n r) (e1 : ∀ k j, tw_fcl k j → τ k j = σ (k + 32) j) (e2 : ∀ k j j2, tw_fmL k j j2 → τ k j = σ k j2) : tw_iLoom τ 6 0 n r := by
  obtain ⟨⟨h10, h50⟩, ⟨g1, g2⟩, ⟨g3, g4, g5⟩, hC, hR, hL⟩ := h
  have C : ∀ k k2 k3 j, tw_fcl k j → k2 = k + 0 → k3 = k + 32 → τ k2 j = σ k3 j := fun k k2 k3 j a b c => tw_mvCu e1 a b c
  have M : ∀ k j2 j3, tw_fmL k j2 j3 → τ k j2 = σ k j3 := fun k j2 j3 a => tw_mvMu e2 a
  refine ⟨⟨h10, h50⟩, ⟨(C 6 _ _ 4 (by unfold tw_fcl; omega) (by omega) (by omega)).trans g1, (M 89 _ _ (by unfold tw_fmL; omega)).trans g2⟩, ⟨(C 9 _ _ 3 (by unfold tw_fcl; omega) (by omega) (by omega)).trans g3, (C 9 _ _ 4 (by unfold tw_fcl; omega) (by omega) (by omega)).trans g4, (M 90 _ _ (by unfold tw_fmL; omega)).trans g5⟩, fun c hc => ?_, fun i hi c hc => ?_, ?_⟩
  · obtain ⟨a1, ⟨a2, a3⟩, ⟨a4, a5⟩, a6⟩ := hC c hc
    have P : ∀ h, h < 4 → τ (2 * c + (6 + 13)) h = σ (2 * c + (38 + 13)) h := fun h hh => C (2 * c + 19) _ _ h (by unfold tw_fcl; omega) (by omega) (by omega)
    have O : ∀ j, 1 ≤ j → j ≤ 3 → τ (2 * c + (6 + 12)) j = σ (2 * c + (38 + 12)) j := fun j h1 h2 => C (2 * c + 18) _ _ j (by unfold tw_fcl; omega) (by omega) (by omega)
    have Hh : ∀ h, h < 4 → τ 91 (4 * c + h + 40 * 0) = σ 91 (4 * c + h + 40 * 1) := fun h hh => M 91 _ _ (by unfold tw_fmL; omega)
    have S : ∀ k, 92 ≤ k → k ≤ 94 → τ k (c + 10 * 0) = σ k (c + 10 * 1) := fun k h1 h2 => M k _ _ (by unfold tw_fmL; omega)
    refine ⟨fun h hh => by rw [P h hh, Hh h hh]; exact a1 h hh, ⟨by rw [O 1 (by omega) (by omega), S 92 (by omega) (by omega)]; exact a2, by rw [S 92 (by omega) (by omega)]; exact a3⟩, ⟨by rw [O 2 (by omega) (by omega), S 93 (by omega) (by omega)]; exact a4, by rw [S 93 (by omega) (by omega)]; exact a5⟩, by rw [O 3 (by omega) (by omega), S 94 (by omega) (by omega)]; exact a6⟩
  · have R : ∀ q, q < 4 → τ (6 + 4) ((i * 10 + c) * 4 + q) = σ (38 + 4) ((i * 10 + c) * 4 + q) := fun q hq => C 10 _ _ _ (by unfold tw_fcl; omega) (by omega) (by omega)
    have W : ∀ k, 95 ≤ k → k ≤ 98 → τ k (10 * i + c + 500 * 0) = σ k (10 * i + c + 500 * 1) := fun k h1 h2 => M k _ _ (by unfold tw_fmL; omega)
    rw [R 0 (by omega), R 1 (by omega), R 2 (by omega), R 3 (by omega), W 95 (by omega) (by omega), W 96 (by omega) (by omega), W 97 (by omega) (by omega), W 98 (by omega) (by omega)]
    exact hR i hi c hc
  · have e0 : τ (6 + 7) 4 = σ (38 + 7) 4 := C 13 _ _ 4 (by unfold tw_fcl; omega) (by omega) (by omega)
    rcases hL with ⟨a1, a2⟩ | ⟨k, a1, a2, a3⟩
    · exact Or.inl ⟨e0.trans a1, (M 99 _ _ (by unfold tw_fmL; omega)).trans a2⟩
    · exact Or.inr ⟨k, a1, e0.trans a2, tw_tree.mvu a1 e1 e2 7 0 a3⟩
theorem tw_iTw.mvu (h : tw_iTw σ 1) (e2 : ∀ k j j2, tw_fmL k j j2 → τ k j = σ k j2) : tw_iTw τ 0 := by
  intro n r hn hr h1 h2 c hc
  have M : ∀ k j2 j3, tw_fmL k j2 j3 → τ k j2 = σ k j3 := fun k j2 j3 a => tw_mvMu e2 a
  rw [M 94 _ (c + 10 * 1) (by unfold tw_fmL; omega), h n r hn hr ((M 89 _ _ (by unfold tw_fmL; omega)).symm.trans h1) ((M 90 _ _ (by unfold tw_fmL; omega)).symm.trans h2) c hc]
  exact tw_sm_cg r (fun i hi => (M 98 _ _ (by unfold tw_fmL; omega)).symm)
end tw_mvu
end tw_s52
