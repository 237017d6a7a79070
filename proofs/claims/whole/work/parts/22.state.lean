/-! what the class's cells and the reference's have to do with each other. A loom of the class at cell B (6: the loom, 38: the image), the reference's half H (0, 1); n CARDS, r ROWS -/
def tw_iCards (σ : tw_Mem) (B H n : Nat) : Prop := ∀ c, c < n → (∀ h, h < 4 → σ (2 * c + (B + 13)) h = σ 91 (4 * c + h + 40 * H) ∧ ∃ q, q < 10 ∧ σ 91 (4 * c + h + 40 * H) = nI q) ∧ (σ (2 * c + (B + 12)) 1 = σ 92 (c + 10 * H) ∧ ∃ q, q < 2 ∧ σ 92 (c + 10 * H) = nI q) ∧ (σ (2 * c + (B + 12)) 2 = σ 93 (c + 10 * H) ∧ ∃ q, q < 4 ∧ σ 93 (c + 10 * H) = nI q) ∧ σ (2 * c + (B + 12)) 3 = σ 94 (c + 10 * H)
def tw_iRows (σ : tw_Mem) (B H n r : Nat) : Prop := ∀ i, i < r → ∀ c, c < n → σ (B + 4) ((i * 10 + c) * 4 + 0) = σ 95 (10 * i + c + 500 * H) ∧ σ (B + 4) ((i * 10 + c) * 4 + 1) = σ 96 (10 * i + c + 500 * H) ∧ σ (B + 4) ((i * 10 + c) * 4 + 2) = σ 97 (10 * i + c + 500 * H) ∧ σ (B + 4) ((i * 10 + c) * 4 + 3) = σ 98 (10 * i + c + 500 * H) ∧ ∃ q, q < 4 ∧ σ 98 (10 * i + c + 500 * H) = nI q
def tw_leaf (ch : Nat) : Prop := ch = 105 ∨ ch = 102 ∨ ch = 98 ∨ ch = 104
def tw_numd (ch : Nat) : Prop := ch = 107 ∨ ch = 99 ∨ ch = 120 ∨ ch = 115
def tw_pair (ch : Nat) : Prop := ch = 107 ∨ ch = 99 ∨ ch = 120 ∨ ch = 116
def tw_oper (ch : Nat) : Prop := tw_numd ch ∨ ch = 100 ∨ ch = 114 ∨ ch = 109 ∨ ch = 116
/-- a law's tree from a node on, at most so deep: nodes below k -/
def tw_tree (σ : tw_Mem) (B H k : Nat) : Nat → Nat → Prop
  | 0, _ => False
  | f + 1, nd => nd < k ∧ ∃ ch, ch < 128 ∧ σ (B + 8) nd = nI ch ∧ σ 99 (nd + 80 * H) = nI ch ∧ (tw_leaf ch ∨ (tw_oper ch ∧ (∃ q, q < 100 ∧ σ (B + 9) nd = nI q ∧ σ 100 (nd + 80 * H) = nI q ∧ (ch = 107 ∨ ch = 120 → 1 ≤ q)) ∧
      (∃ a, σ (B + 10) nd = nI a ∧ σ 101 (nd + 80 * H) = nI a ∧ tw_tree σ B H k f a) ∧ (tw_pair ch → ∃ a, σ (B + 11) nd = nI a ∧ σ 102 (nd + 80 * H) = nI a ∧ tw_tree σ B H k f a)))
def tw_iLaw (σ : tw_Mem) (B H : Nat) : Prop := (σ (B + 7) 4 = nI 0 ∧ σ 99 (80 * H) = nI 105) ∨ ∃ k, k ≤ 80 ∧ σ (B + 7) 4 = nI k ∧ tw_tree σ B H k 7 0
def tw_iChars (σ : tw_Mem) (K : Nat) : Prop := ∀ j, j < 80 → ∃ q, q < 65536 ∧ σ K j = nI q
def tw_iLoom (σ : tw_Mem) (B H n r : Nat) : Prop := (n ≤ 10 ∧ r ≤ 50) ∧ (σ B 4 = nI n ∧ σ 89 H = nI n) ∧ (σ (B + 3) 3 = nI r ∧ σ (B + 3) 4 = nI n ∧ σ 90 H = nI r) ∧ tw_iCards σ B H n ∧ tw_iRows σ B H n r ∧ tw_iLaw σ B H
def tw_iTape (σ : tw_Mem) : Prop := ∃ k, k ≤ 80 ∧ σ 2 1 = nI k ∧ σ 88 17 = nI k ∧ ∀ j, j < k → σ 3 j = σ 103 j ∧ ∃ q, 1 ≤ q ∧ q < 128 ∧ σ 103 j = nI q
def tw_iPaper (σ : tw_Mem) : Prop := ∃ k, k ≤ 59 ∧ σ 4 1 = nI k ∧ σ 88 37 = nI k ∧ ∀ j, j < k → σ 5 j = σ 116 j
def tw_iPic (σ : tw_Mem) : Prop := ∃ h, h ≤ 8 ∧ σ 79 1 = nI h ∧ σ 88 32 = nI h ∧ (∀ j, j < 10 * h → σ 80 j = σ 113 j) ∧ ∀ j, 10 * h ≤ j → j < 80 → σ 113 j = nI 0
def tw_iLists (σ : tw_Mem) : Prop := ∀ l, l < 4 → (σ 87 l = (-1) ∧ σ 117 l = nI 0) ∨ ∃ s, s ≤ 20 ∧ σ 87 l = nI s ∧ σ 117 l = nI 1 ∧ σ 118 l = nI s ∧ ∀ i, i < s → σ 86 (l * 20 + i) = σ 119 (20 * l + i)
def tw_iImg (σ : tw_Mem) : Prop := (σ 1 9 = nI 0 ∧ σ 88 11 = nI 0) ∨ (σ 1 9 = nI 1 ∧ σ 88 11 = nI 1 ∧ ∃ n r, tw_iLoom σ 38 1 n r)
/-- a TWIST is the sum of the turnings of the ROWS that stand -/
def tw_gW (x : Int32) : Int32 := if x = nI 1 then nI 1 else if x = nI 2 then (-1) else if x = nI 3 then nI 2 else nI 0
def tw_sm (w : Nat → Int32) : Nat → Int32
  | 0 => nI 0
  | i + 1 => tw_sm w i + tw_gW (w i)
theorem tw_sm_cg {w w1 : Nat → Int32} : ∀ r, (∀ i, i < r → w i = w1 i) → tw_sm w r = tw_sm w1 r
  | 0, _ => rfl
  | r + 1, h => by rw [tw_sm, tw_sm, tw_sm_cg r (fun i hi => h i (by omega)), h r (by omega)]
def tw_iTw (σ : tw_Mem) (H : Nat) : Prop := ∀ n r, n ≤ 10 → r ≤ 50 → σ 89 H = nI n → σ 90 H = nI r → ∀ c, c < n → σ 94 (c + 10 * H) = tw_sm (fun i => σ 98 (10 * i + c + 500 * H)) r
def tw_fTw (H k j : Nat) : Prop := (89 ≤ k ∧ k ≤ 90 ∧ j = H) ∨ (k = 94 ∧ 10 * H ≤ j ∧ j < 10 * H + 10) ∨ (k = 98 ∧ 500 * H ≤ j ∧ j < 500 * H + 500)
theorem tw_iTw.cg {σ τ : tw_Mem} {H : Nat} (h : tw_iTw σ H) (e : ∀ k j, tw_fTw H k j → τ k j = σ k j) : tw_iTw τ H := by
  intro n r hn hr h1 h2 c hc
  rw [e _ _ (by unfold tw_fTw; omega)] at h1 h2 ⊢
  rw [h n r hn hr h1 h2 c hc]
  exact tw_sm_cg r (fun i hi => (e _ _ (by unfold tw_fTw; omega)).symm)
def tw_Inv (σ : tw_Mem) : Prop := (∃ n r, tw_iLoom σ 6 0 n r) ∧ tw_iTape σ ∧ tw_iPaper σ ∧ tw_iPic σ ∧ tw_iLists σ ∧ tw_iImg σ ∧ tw_iChars σ 14 ∧ tw_iChars σ 46 ∧ tw_iChars σ 72 ∧ tw_iTw σ 0 ∧ tw_iTw σ 1
-- what each part rests on
section tw_K
variable {σ τ : tw_Mem} {B H n r k : Nat}
theorem tw_iCards.to (h : tw_iCards σ B H n) (h1 : ∀ c, c < n → τ (2 * c + (B + 12)) = σ (2 * c + (B + 12)) ∧ τ (2 * c + (B + 13)) = σ (2 * c + (B + 13))) (h2 : τ 91 = σ 91) (h3 : τ 92 = σ 92) (h4 : τ 93 = σ 93) (h5 : τ 94 = σ 94) : tw_iCards τ B H n := by
  intro c hc
  obtain ⟨e1, e2⟩ := h1 c hc
  rw [e1, e2, h2, h3, h4, h5]
  exact h c hc
theorem tw_iRows.to (h : tw_iRows σ B H n r) (h1 : τ (B + 4) = σ (B + 4)) (h2 : τ 95 = σ 95) (h3 : τ 96 = σ 96) (h4 : τ 97 = σ 97) (h5 : τ 98 = σ 98) : tw_iRows τ B H n r := by
  intro i hi c hc
  rw [h1, h2, h3, h4, h5]
  exact h i hi c hc
theorem tw_tree.to (h1 : τ (B + 8) = σ (B + 8)) (h2 : τ (B + 9) = σ (B + 9)) (h3 : τ (B + 10) = σ (B + 10)) (h4 : τ (B + 11) = σ (B + 11)) (g1 : τ 99 = σ 99) (g2 : τ 100 = σ 100) (g3 : τ 101 = σ 101) (g4 : τ 102 = σ 102) : ∀ (f nd : Nat), tw_tree σ B H k f nd → tw_tree τ B H k f nd
  | 0, _, h => h
  | f + 1, nd, ⟨e1, ch, e2, e3, e4, e5⟩ => by
    refine ⟨e1, ch, e2, by rw [h1]; exact e3, by rw [g1]; exact e4, ?_⟩
    rcases e5 with e5 | ⟨e5, ⟨q, q1, q2, q3, q4⟩, ⟨a, a1, a2, a3⟩, e6⟩
    · exact Or.inl e5
    · refine Or.inr ⟨e5, ⟨q, q1, by rw [h2]; exact q2, by rw [g2]; exact q3, q4⟩, ⟨a, by rw [h3]; exact a1, by rw [g3]; exact a2, tw_tree.to h1 h2 h3 h4 g1 g2 g3 g4 f a a3⟩, fun hp => ?_⟩
      obtain ⟨c, c1, c2, c3⟩ := e6 hp
      exact ⟨c, by rw [h4]; exact c1, by rw [g4]; exact c2, tw_tree.to h1 h2 h3 h4 g1 g2 g3 g4 f c c3⟩
theorem tw_iLaw.to (h : tw_iLaw σ B H) (h0 : τ (B + 7) 4 = σ (B + 7) 4) (h1 : τ (B + 8) = σ (B + 8)) (h2 : τ (B + 9) = σ (B + 9)) (h3 : τ (B + 10) = σ (B + 10)) (h4 : τ (B + 11) = σ (B + 11)) (g1 : τ 99 = σ 99) (g2 : τ 100 = σ 100) (g3 : τ 101 = σ 101) (g4 : τ 102 = σ 102) : tw_iLaw τ B H := by
  rcases h with ⟨e1, e2⟩ | ⟨k, e1, e2, e3⟩
  · exact Or.inl ⟨by rw [h0]; exact e1, by rw [g1]; exact e2⟩
  · exact Or.inr ⟨k, e1, by rw [h0]; exact e2, tw_tree.to h1 h2 h3 h4 g1 g2 g3 g4 7 0 e3⟩
end tw_K
/-- the places that tell nothing between two calls -/
def tw_scr (k j : Nat) : Prop := k = 8 ∨ k = 11 ∨ k = 12 ∨ k = 40 ∨ k = 43 ∨ k = 44 ∨ k = 70 ∨ k = 71 ∨ (73 ≤ k ∧ k ≤ 78) ∨ (82 ≤ k ∧ k ≤ 84) ∨ (104 ≤ k ∧ k ≤ 112) ∨ k = 114 ∨ k = 115 ∨ (k = 88 ∧ 18 ≤ j ∧ j ≤ 22)
def tw_keep (σ τ : tw_Mem) : Prop := ∀ k j, ¬ tw_scr k j → τ k j = σ k j
section tw_K2
variable {σ τ υ : tw_Mem} {B H n r k : Nat}
theorem tw_keep.rf : tw_keep σ σ := fun _ _ _ => rfl
theorem tw_keep.tr (h1 : tw_keep σ τ) (h2 : tw_keep τ υ) : tw_keep σ υ := fun k j h => (h2 k j h).trans (h1 k j h)
theorem tw_keep.row (h : tw_keep σ τ) {k : Nat} (hk : ∀ j, ¬ tw_scr k j) : τ k = σ k := funext fun j => h k j (hk j)
theorem tw_keep.upd (h : tw_keep σ τ) {k j : Nat} {x : Int32} (hk : tw_scr k j) : tw_keep σ (tw_upd τ k j x) := fun k' j' h' => by
  unfold tw_upd
  rw [if_neg (fun q => h' (by rw [q.1, q.2]; exact hk))]
  exact h k' j' h'
theorem tw_iLoom.keep (h : tw_iLoom σ B H n r) (hB : B = 6 ∨ B = 38) (hk : tw_keep σ τ) : tw_iLoom τ B H n r := by
  obtain ⟨h1, h2, h3, h4, h5, h6⟩ := h
  have hr : ∀ k, (∀ j, ¬ tw_scr k j) → τ k = σ k := fun k hh => hk.row hh
  have e89 := hr 89 (fun j => by unfold tw_scr; omega)
  have e90 := hr 90 (fun j => by unfold tw_scr; omega)
  have eB := hr B (fun j => by unfold tw_scr; omega)
  have eB3 := hr (B + 3) (fun j => by unfold tw_scr; omega)
  refine ⟨h1, by rw [eB, e89]; exact h2, by rw [eB3, e90]; exact h3, h4.to (fun c hc => ⟨hr _ (fun j => by unfold tw_scr; omega), hr _ (fun j => by unfold tw_scr; omega)⟩) (hr _ (fun j => by unfold tw_scr; omega)) (hr _ (fun j => by unfold tw_scr; omega)) (hr _ (fun j => by unfold tw_scr; omega)) (hr _ (fun j => by unfold tw_scr; omega)),
    h5.to (hr _ (fun j => by unfold tw_scr; omega)) (hr _ (fun j => by unfold tw_scr; omega)) (hr _ (fun j => by unfold tw_scr; omega)) (hr _ (fun j => by unfold tw_scr; omega)) (hr _ (fun j => by unfold tw_scr; omega)),
    h6.to (by rw [hr (B + 7) (fun j => by unfold tw_scr; omega)]) (hr _ (fun j => by unfold tw_scr; omega)) (hr _ (fun j => by unfold tw_scr; omega)) (hr _ (fun j => by unfold tw_scr; omega)) (hr _ (fun j => by unfold tw_scr; omega)) (hr _ (fun j => by unfold tw_scr; omega)) (hr _ (fun j => by unfold tw_scr; omega)) (hr _ (fun j => by unfold tw_scr; omega)) (hr _ (fun j => by unfold tw_scr; omega))⟩
theorem tw_Inv.keep (h : tw_Inv σ) (hk : tw_keep σ τ) : tw_Inv τ := by
  obtain ⟨⟨n, r, h1⟩, h2, h3, h4, h5, h6, h7, h8, h9, hTa, hTb⟩ := h
  have hr : ∀ k, (∀ j, ¬ tw_scr k j) → τ k = σ k := fun k hh => hk.row hh
  have hs : ∀ k j, ¬ tw_scr k j → τ k j = σ k j := hk
  refine ⟨⟨n, r, h1.keep (Or.inl rfl) hk⟩, ?_, ?_, ?_, ?_, ?_, ?_, ?_, ?_, hTa.cg (fun k j q => hs k j (by unfold tw_fTw at q; unfold tw_scr; omega)), hTb.cg (fun k j q => hs k j (by unfold tw_fTw at q; unfold tw_scr; omega))⟩
  · unfold tw_iTape
    rw [hr 2 (fun j => by unfold tw_scr; omega), hs 88 17 (by unfold tw_scr; omega), hr 3 (fun j => by unfold tw_scr; omega), hr 103 (fun j => by unfold tw_scr; omega)]
    exact h2
  · unfold tw_iPaper
    rw [hr 4 (fun j => by unfold tw_scr; omega), hs 88 37 (by unfold tw_scr; omega), hr 5 (fun j => by unfold tw_scr; omega), hr 116 (fun j => by unfold tw_scr; omega)]
    exact h3
  · unfold tw_iPic
    rw [hr 79 (fun j => by unfold tw_scr; omega), hs 88 32 (by unfold tw_scr; omega), hr 80 (fun j => by unfold tw_scr; omega), hr 113 (fun j => by unfold tw_scr; omega)]
    exact h4
  · unfold tw_iLists
    rw [hr 87 (fun j => by unfold tw_scr; omega), hr 117 (fun j => by unfold tw_scr; omega), hr 118 (fun j => by unfold tw_scr; omega), hr 86 (fun j => by unfold tw_scr; omega), hr 119 (fun j => by unfold tw_scr; omega)]
    exact h5
  · unfold tw_iImg
    rw [hr 1 (fun j => by unfold tw_scr; omega), hs 88 11 (by unfold tw_scr; omega)]
    rcases h6 with h6 | ⟨h6, h7, n1, r1, h8⟩
    · exact Or.inl h6
    · exact Or.inr ⟨h6, h7, n1, r1, h8.keep (Or.inr rfl) hk⟩
  · unfold tw_iChars
    rw [hr 14 (fun j => by unfold tw_scr; omega)]
    exact h7
  · unfold tw_iChars
    rw [hr 46 (fun j => by unfold tw_scr; omega)]
    exact h8
  · unfold tw_iChars
    rw [hr 72 (fun j => by unfold tw_scr; omega)]
    exact h9
/-- a row of the memory that a store leaves alone -/
theorem tw_upd_row {k0 j0 k : Nat} {x : Int32} (h : k ≠ k0) : tw_upd σ k0 j0 x k = σ k := funext fun j => by
  unfold tw_upd
  rw [if_neg (fun q => h q.1)]
theorem tw_upd_at {k j : Nat} {x : Int32} : tw_upd σ k j x k j = x := if_pos ⟨rfl, rfl⟩
theorem tw_upd_off {k0 j0 k j : Nat} {x : Int32} (h : ¬ (k = k0 ∧ j = j0)) : tw_upd σ k0 j0 x k j = σ k j := if_neg h
end tw_K2
/-- what a call of both has to do: the same answer, and the state goes on -/
def tw_op (L : Nat) (xs : Nat → Int32) (mc mm : Nat) (as : List Value) : Prop := ∀ σ, tw_Inv σ → tw_E L xs 60 mc (.ref 1 :: as) σ (fun v σ1 => ∃ u : Int32, v = some (.int u) ∧ tw_E L xs 60 mm (.ref 88 :: as) σ1 (fun v2 σ2 => v2 = some (.int u) ∧ tw_Inv σ2))
