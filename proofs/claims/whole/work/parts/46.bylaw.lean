/-! a pick by law, the class -/
section tw_s46
variable {L : Nat} {xs : Nat → Int32} {σ : tw_Mem} {x y w : Int32} {n r i c k h q a b e : Nat}
def tw_lT (α : tw_Mem) (n r : Nat) : Nat → Nat := fun c => tw_lvm α n 7 0 c r
theorem tw_lT_lt {α : tw_Mem} {n r c : Nat} : tw_lT α n r c < 4 := Nat.lt_of_le_of_lt tw_lvm_le (by decide)
set_option maxHeartbeats 4000000 in
set_option maxRecDepth 100000 in
theorem tw_e_byLaw50 {α : tw_Mem} {n r : Nat} (hI : tw_Inv α) (hLo : tw_iLoom α 6 0 n r) (hs : tw_agC σ α) (hr2 : r = 50) : tw_E L xs 11 91 [.ref 6] σ (fun v τ => v = some (.int (nI 0)) ∧ tw_laidn σ τ 8 (tw_lT α n r) n 10) := by
  obtain ⟨⟨hn10, hr50⟩, ⟨hn6, hn89⟩, ⟨hr9, hw9, hr90⟩, hCa, hRo, hLa⟩ := id hLo
  have h6 : σ 6 4 = nI n := (hs 6 4 (by omega) (by omega)).trans hn6
  have h9 : σ 9 3 = nI r := (hs 9 3 (by omega) (by omega)).trans hr9
  have hμ : ∀ k j, 13 ≤ k → k ≤ 17 → σ k j = α k j := fun k j g1 g2 => hs k j (by omega) (by omega)
  have hA : ∀ c, c < n → σ (2 * c + 18) 3 = α 94 c := fun c hc => (hs _ _ (by omega) (by omega)).trans (hCa c hc).2.2.2
  show tw_P L xs _ 91 0 [.ref 6, tw_U] [] σ _
  refine tw_sg 2 (i1 := 2) (ls1 := [.ref 6, .int (nI 0)]) (st1 := []) (σ1 := σ) rfl ?_
  refine tw_l_byLaw (μ := α) h6 h9 hμ hLa hn10 hr50 10 0 σ (by omega) ⟨fun _ _ _ => rfl, fun d hd => by omega⟩ (fun τ h => ?_)
  have h : tw_laidn σ τ 8 (tw_lT α n r) n 10 := h
  show tw_P L xs _ 91 15 [.ref 6, .int (nI 10)] [] τ _
  refine tw_sg 1 (i1 := 16) (ls1 := [.ref 6, .int (nI 10)]) (st1 := [.ref 6]) (σ1 := τ) rfl ?_
  refine tw_cl1 rfl (rfl) (by decide) (tw_e_pickC50 (by rw [h.1 _ _ (by omega)]; exact h9) hr2) ?_
  rintro _ _ ⟨rfl, rfl⟩
  show tw_P L xs _ 91 17 [.ref 6, .int (nI 10)] [.int (nI 0)] τ _
  refine tw_ri rfl (rfl) ?_
  exact ⟨rfl, h⟩
set_option maxHeartbeats 4000000 in
set_option maxRecDepth 100000 in
theorem tw_e_byLaw0 {α : tw_Mem} {n r : Nat} (hI : tw_Inv α) (hLo : tw_iLoom α 6 0 n r) (hs : tw_agC σ α) (hr2 : r < 50) (hj : tw_jm α (tw_lT α n r) n) : tw_E L xs 11 91 [.ref 6] σ (fun v τ => v = some (.int (nI 0)) ∧ tw_laidn σ τ 8 (tw_lT α n r) n 10) := by
  obtain ⟨⟨hn10, hr50⟩, ⟨hn6, hn89⟩, ⟨hr9, hw9, hr90⟩, hCa, hRo, hLa⟩ := id hLo
  have h6 : σ 6 4 = nI n := (hs 6 4 (by omega) (by omega)).trans hn6
  have h9 : σ 9 3 = nI r := (hs 9 3 (by omega) (by omega)).trans hr9
  have hμ : ∀ k j, 13 ≤ k → k ≤ 17 → σ k j = α k j := fun k j g1 g2 => hs k j (by omega) (by omega)
  have hA : ∀ c, c < n → σ (2 * c + 18) 3 = α 94 c := fun c hc => (hs _ _ (by omega) (by omega)).trans (hCa c hc).2.2.2
  show tw_P L xs _ 91 0 [.ref 6, tw_U] [] σ _
  refine tw_sg 2 (i1 := 2) (ls1 := [.ref 6, .int (nI 0)]) (st1 := []) (σ1 := σ) rfl ?_
  refine tw_l_byLaw (μ := α) h6 h9 hμ hLa hn10 hr50 10 0 σ (by omega) ⟨fun _ _ _ => rfl, fun d hd => by omega⟩ (fun τ h => ?_)
  have h : tw_laidn σ τ 8 (tw_lT α n r) n 10 := h
  show tw_P L xs _ 91 15 [.ref 6, .int (nI 10)] [] τ _
  refine tw_sg 1 (i1 := 16) (ls1 := [.ref 6, .int (nI 10)]) (st1 := [.ref 6]) (σ1 := τ) rfl ?_
  refine tw_cl1 rfl (rfl) (by decide) (tw_e_pickC0 (P := id) (q := id) (σ := τ) (α := α) (n := n) (r := r) (T := tw_lT α n r) (by rw [h.1 _ _ (by omega)]; exact h6) (by rw [h.1 _ _ (by omega)]; exact h9) hr50 hn10 (fun c hc => ⟨tw_lT_lt, h.2 c (by omega) hc⟩) (fun c hc => by rw [h.1 _ _ (by omega)]; exact hA c hc) hr2 hj) ?_
  rintro _ _ ⟨rfl, rfl⟩
  show tw_P L xs _ 91 17 [.ref 6, .int (nI 10)] [.int (nI 0)] τ _
  refine tw_ri rfl (rfl) ?_
  exact ⟨rfl, h⟩
set_option maxHeartbeats 4000000 in
set_option maxRecDepth 100000 in
theorem tw_e_byLaw1 {α : tw_Mem} {n r : Nat} (hI : tw_Inv α) (hLo : tw_iLoom α 6 0 n r) (hs : tw_agC σ α) (hr2 : r < 50) (hj : ¬ tw_jm α (tw_lT α n r) n) {P q : Nat → Nat} (hPq : ∀ c, c < n → (P c < 4 ∧ α (2 * c + 18) 2 = nI (P c) ∧ α 93 c = nI (P c)) ∧ (q c < 2 ∧ α (2 * c + 18) 1 = nI (q c) ∧ α 92 c = nI (q c))) : tw_E L xs 11 91 [.ref 6] σ (fun v υ => v = some (.int (nI 1)) ∧ ∃ τ τ0, tw_laidn σ τ 8 (tw_lT α n r) n 10 ∧ tw_wkC τ τ0 r (tw_lT α n r) P q n ∧ υ = tw_upd τ0 9 3 (nI (r + 1))) := by
  obtain ⟨⟨hn10, hr50⟩, ⟨hn6, hn89⟩, ⟨hr9, hw9, hr90⟩, hCa, hRo, hLa⟩ := id hLo
  have h6 : σ 6 4 = nI n := (hs 6 4 (by omega) (by omega)).trans hn6
  have h9 : σ 9 3 = nI r := (hs 9 3 (by omega) (by omega)).trans hr9
  have hμ : ∀ k j, 13 ≤ k → k ≤ 17 → σ k j = α k j := fun k j g1 g2 => hs k j (by omega) (by omega)
  have hA : ∀ c, c < n → σ (2 * c + 18) 3 = α 94 c := fun c hc => (hs _ _ (by omega) (by omega)).trans (hCa c hc).2.2.2
  show tw_P L xs _ 91 0 [.ref 6, tw_U] [] σ _
  refine tw_sg 2 (i1 := 2) (ls1 := [.ref 6, .int (nI 0)]) (st1 := []) (σ1 := σ) rfl ?_
  refine tw_l_byLaw (μ := α) h6 h9 hμ hLa hn10 hr50 10 0 σ (by omega) ⟨fun _ _ _ => rfl, fun d hd => by omega⟩ (fun τ h => ?_)
  have h : tw_laidn σ τ 8 (tw_lT α n r) n 10 := h
  show tw_P L xs _ 91 15 [.ref 6, .int (nI 10)] [] τ _
  refine tw_sg 1 (i1 := 16) (ls1 := [.ref 6, .int (nI 10)]) (st1 := [.ref 6]) (σ1 := τ) rfl ?_
  refine tw_cl1 rfl (rfl) (by decide) (tw_e_pickC1 (P := P) (q := q) (σ := τ) (α := α) (n := n) (r := r) (T := tw_lT α n r) (by rw [h.1 _ _ (by omega)]; exact h6) (by rw [h.1 _ _ (by omega)]; exact h9) hr50 hn10 (fun c hc => ⟨tw_lT_lt, h.2 c (by omega) hc⟩) (fun c hc => by rw [h.1 _ _ (by omega)]; exact hA c hc) hr2 hj (fun c hc => ⟨(hPq c hc).1.1, by rw [h.1 _ _ (by omega), hs _ _ (by omega) (by omega)]; exact (hPq c hc).1.2.1⟩) (fun c hc => ⟨(hPq c hc).2.1, by rw [h.1 _ _ (by omega), hs _ _ (by omega) (by omega)]; exact (hPq c hc).2.2.1⟩)) ?_
  rintro _ _ ⟨rfl, τ0, hw, rfl⟩
  show tw_P L xs _ 91 17 [.ref 6, .int (nI 10)] [.int (nI 1)] (tw_upd τ0 9 3 (nI (r + 1))) _
  refine tw_ri rfl (rfl) ?_
  exact ⟨rfl, τ, τ0, h, hw, rfl⟩
end tw_s46
