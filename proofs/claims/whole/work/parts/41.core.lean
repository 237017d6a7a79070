/-! a set of turnings, both -/
section tw_s41
variable {L : Nat} {xs : Nat → Int32} {σ : tw_Mem} {x y w : Int32} {n r i c k h q a b e : Nat}
theorem tw_jm_cg {σ τ : tw_Mem} {T : Nat → Nat} {n : Nat} (h : ∀ c, τ 94 c = σ 94 c) : tw_jm τ T n ↔ tw_jm σ T n := by
  unfold tw_jm
  constructor <;> rintro ⟨c, h1, h2⟩
  · exact ⟨c, h1, by rw [← h c]; exact h2⟩
  · exact ⟨c, h1, by rw [h c]; exact h2⟩
set_option maxHeartbeats 4000000 in
set_option maxRecDepth 100000 in
theorem tw_e_pickSet0 {s : Int32} {n t : Nat} {P q : Nat → Nat} (ht : t < 4) (h6 : σ 6 4 = nI n) (h9 : σ 9 3 = nI r) (hr : r ≤ 50) (h10 : n ≤ 10) (hA : ∀ c, c < n → σ (2 * c + 18) 3 = σ 94 c) (hr2 : r < 50) (hj : tw_jm σ (tw_sT s t) n) : tw_E L xs 8 90 [.ref 6, .int s, .int (nI t)] σ (fun v τ => v = some (.int (nI 0)) ∧ tw_laid σ τ 8 (tw_sT s t) 10) := by
  show tw_P L xs _ 90 0 [.ref 6, .int s, .int (nI t), tw_U] [] σ _
  refine tw_sg 2 (i1 := 2) (ls1 := [.ref 6, .int s, .int (nI t), .int (nI 0)]) (st1 := []) (σ1 := σ) rfl ?_
  refine tw_l_set ht 10 0 σ (by omega) ⟨fun _ _ _ => rfl, fun d hd => by omega⟩ (fun τ h => ?_)
  show tw_P L xs _ 90 21 [.ref 6, .int s, .int (nI t), .int (nI 10)] [] τ _
  refine tw_sg 1 (i1 := 22) (ls1 := [.ref 6, .int s, .int (nI t), .int (nI 10)]) (st1 := [.ref 6]) (σ1 := τ) rfl ?_
  refine tw_cl1 rfl (rfl) (by decide) (tw_e_pickC0 (σ := τ) (n := n) (r := r) (T := tw_sT s t) (P := id) (q := id) (by rw [h.1 _ _ (by omega)]; exact h6) (by rw [h.1 _ _ (by omega)]; exact h9) hr h10 (fun c hc => ⟨tw_sT_lt ht, h.2 c (by omega)⟩) (fun c hc => by rw [h.1 _ _ (by omega), h.1 _ _ (by omega)]; exact hA c hc) hr2 ((tw_jm_cg (fun c => h.1 _ _ (by omega))).mpr hj)) ?_
  rintro _ _ ⟨rfl, rfl⟩
  show tw_P L xs _ 90 23 [.ref 6, .int s, .int (nI t), .int (nI 10)] [.int (nI 0)] τ _
  refine tw_ri rfl (rfl) ?_
  exact ⟨rfl, h⟩
set_option maxHeartbeats 4000000 in
set_option maxRecDepth 100000 in
theorem tw_e_pickSet1 {s : Int32} {n t : Nat} {P q : Nat → Nat} (ht : t < 4) (h6 : σ 6 4 = nI n) (h9 : σ 9 3 = nI r) (hr : r ≤ 50) (h10 : n ≤ 10) (hA : ∀ c, c < n → σ (2 * c + 18) 3 = σ 94 c) (hr2 : r < 50) (hj : ¬ tw_jm σ (tw_sT s t) n) (hP : ∀ c, c < n → P c < 4 ∧ σ (2 * c + 18) 2 = nI (P c)) (hq : ∀ c, c < n → q c < 2 ∧ σ (2 * c + 18) 1 = nI (q c)) : tw_E L xs 8 90 [.ref 6, .int s, .int (nI t)] σ (fun v υ => v = some (.int (nI 1)) ∧ ∃ τ τ0, tw_laid σ τ 8 (tw_sT s t) 10 ∧ tw_wkC τ τ0 r (tw_sT s t) P q n ∧ υ = tw_upd τ0 9 3 (nI (r + 1))) := by
  show tw_P L xs _ 90 0 [.ref 6, .int s, .int (nI t), tw_U] [] σ _
  refine tw_sg 2 (i1 := 2) (ls1 := [.ref 6, .int s, .int (nI t), .int (nI 0)]) (st1 := []) (σ1 := σ) rfl ?_
  refine tw_l_set ht 10 0 σ (by omega) ⟨fun _ _ _ => rfl, fun d hd => by omega⟩ (fun τ h => ?_)
  show tw_P L xs _ 90 21 [.ref 6, .int s, .int (nI t), .int (nI 10)] [] τ _
  refine tw_sg 1 (i1 := 22) (ls1 := [.ref 6, .int s, .int (nI t), .int (nI 10)]) (st1 := [.ref 6]) (σ1 := τ) rfl ?_
  refine tw_cl1 rfl (rfl) (by decide) (tw_e_pickC1 (σ := τ) (n := n) (r := r) (T := tw_sT s t) (P := P) (q := q) (by rw [h.1 _ _ (by omega)]; exact h6) (by rw [h.1 _ _ (by omega)]; exact h9) hr h10 (fun c hc => ⟨tw_sT_lt ht, h.2 c (by omega)⟩) (fun c hc => by rw [h.1 _ _ (by omega), h.1 _ _ (by omega)]; exact hA c hc) hr2 (fun g => hj ((tw_jm_cg (fun c => h.1 _ _ (by omega))).mp g)) (fun c hc => ⟨(hP c hc).1, by rw [h.1 _ _ (by omega)]; exact (hP c hc).2⟩) (fun c hc => ⟨(hq c hc).1, by rw [h.1 _ _ (by omega)]; exact (hq c hc).2⟩)) ?_
  rintro _ _ ⟨rfl, τ0, hw, rfl⟩
  show tw_P L xs _ 90 23 [.ref 6, .int s, .int (nI t), .int (nI 10)] [.int (nI 1)] (tw_upd τ0 9 3 (nI (r + 1))) _
  refine tw_ri rfl (rfl) ?_
  exact ⟨rfl, τ, τ0, h, hw, rfl⟩
set_option maxHeartbeats 4000000 in
set_option maxRecDepth 100000 in
theorem tw_e_picked50 {s : Int32} {n t : Nat} {P q : Nat → Nat} (ht : t < 4) (h89 : σ 89 0 = nI n) (h90 : σ 90 0 = nI r) (hr : r ≤ 50) (h10 : n ≤ 10) (hr2 : r = 50) : tw_E L xs 8 208 [.ref 88, .int s, .int (nI t)] σ (fun v τ => v = some (.int (-4)) ∧ tw_laid σ τ 110 (tw_sT s t) n) := by
  show tw_P L xs _ 208 0 [.ref 88, .int s, .int (nI t), tw_U] [] σ _
  refine tw_sg 2 (i1 := 2) (ls1 := [.ref 88, .int s, .int (nI t), .int (nI 0)]) (st1 := []) (σ1 := σ) rfl ?_
  refine tw_l_picked ht h89 h10 n 0 σ (by omega) ⟨fun _ _ _ => rfl, fun d hd => by omega⟩ (fun τ h => ?_)
  show tw_P L xs _ 208 24 [.ref 88, .int s, .int (nI t), .int (nI n)] [] τ _
  refine tw_sg 1 (i1 := 25) (ls1 := [.ref 88, .int s, .int (nI t), .int (nI n)]) (st1 := [.ref 88]) (σ1 := τ) rfl ?_
  refine tw_cl1 rfl (rfl) (by decide) (tw_e_pickM50 (by rw [h.1 _ _ (by omega)]; exact h90) hr2) ?_
  rintro _ _ ⟨rfl, rfl⟩
  show tw_P L xs _ 208 26 [.ref 88, .int s, .int (nI t), .int (nI n)] [.int (-4)] τ _
  refine tw_ri rfl (rfl) ?_
  exact ⟨rfl, h⟩
set_option maxHeartbeats 4000000 in
set_option maxRecDepth 100000 in
theorem tw_e_picked0 {s : Int32} {n t : Nat} {P q : Nat → Nat} (ht : t < 4) (h89 : σ 89 0 = nI n) (h90 : σ 90 0 = nI r) (hr : r ≤ 50) (h10 : n ≤ 10) (hr2 : r < 50) (hj : tw_jm σ (tw_sT s t) n) : tw_E L xs 8 208 [.ref 88, .int s, .int (nI t)] σ (fun v τ => v = some (.int (-6)) ∧ tw_laid σ τ 110 (tw_sT s t) n) := by
  show tw_P L xs _ 208 0 [.ref 88, .int s, .int (nI t), tw_U] [] σ _
  refine tw_sg 2 (i1 := 2) (ls1 := [.ref 88, .int s, .int (nI t), .int (nI 0)]) (st1 := []) (σ1 := σ) rfl ?_
  refine tw_l_picked ht h89 h10 n 0 σ (by omega) ⟨fun _ _ _ => rfl, fun d hd => by omega⟩ (fun τ h => ?_)
  show tw_P L xs _ 208 24 [.ref 88, .int s, .int (nI t), .int (nI n)] [] τ _
  refine tw_sg 1 (i1 := 25) (ls1 := [.ref 88, .int s, .int (nI t), .int (nI n)]) (st1 := [.ref 88]) (σ1 := τ) rfl ?_
  refine tw_cl1 rfl (rfl) (by decide) (tw_e_pickM0 (σ := τ) (n := n) (r := r) (T := tw_sT s t) (P := id) (q := id) (by rw [h.1 _ _ (by omega)]; exact h89) (by rw [h.1 _ _ (by omega)]; exact h90) hr h10 (fun c hc => ⟨tw_sT_lt ht, h.2 c (by omega)⟩) hr2 ((tw_jm_cg (fun c => h.1 _ _ (by omega))).mpr hj)) ?_
  rintro _ _ ⟨rfl, rfl⟩
  show tw_P L xs _ 208 26 [.ref 88, .int s, .int (nI t), .int (nI n)] [.int (-6)] τ _
  refine tw_ri rfl (rfl) ?_
  exact ⟨rfl, h⟩
set_option maxHeartbeats 4000000 in
set_option maxRecDepth 100000 in
theorem tw_e_picked1 {s : Int32} {n t : Nat} {P q : Nat → Nat} (ht : t < 4) (h89 : σ 89 0 = nI n) (h90 : σ 90 0 = nI r) (hr : r ≤ 50) (h10 : n ≤ 10) (hr2 : r < 50) (hj : ¬ tw_jm σ (tw_sT s t) n) (hP : ∀ c, c < n → P c < 4 ∧ σ 93 c = nI (P c)) (hq : ∀ c, c < n → q c < 2 ∧ σ 92 c = nI (q c)) : tw_E L xs 8 208 [.ref 88, .int s, .int (nI t)] σ (fun v υ => v = some (.int (nI (r + 1))) ∧ ∃ τ τ0, tw_laid σ τ 110 (tw_sT s t) n ∧ tw_wkM τ τ0 r (tw_sT s t) P q n ∧ υ = tw_upd τ0 90 0 (nI (r + 1))) := by
  show tw_P L xs _ 208 0 [.ref 88, .int s, .int (nI t), tw_U] [] σ _
  refine tw_sg 2 (i1 := 2) (ls1 := [.ref 88, .int s, .int (nI t), .int (nI 0)]) (st1 := []) (σ1 := σ) rfl ?_
  refine tw_l_picked ht h89 h10 n 0 σ (by omega) ⟨fun _ _ _ => rfl, fun d hd => by omega⟩ (fun τ h => ?_)
  show tw_P L xs _ 208 24 [.ref 88, .int s, .int (nI t), .int (nI n)] [] τ _
  refine tw_sg 1 (i1 := 25) (ls1 := [.ref 88, .int s, .int (nI t), .int (nI n)]) (st1 := [.ref 88]) (σ1 := τ) rfl ?_
  refine tw_cl1 rfl (rfl) (by decide) (tw_e_pickM1 (σ := τ) (n := n) (r := r) (T := tw_sT s t) (P := P) (q := q) (by rw [h.1 _ _ (by omega)]; exact h89) (by rw [h.1 _ _ (by omega)]; exact h90) hr h10 (fun c hc => ⟨tw_sT_lt ht, h.2 c (by omega)⟩) hr2 (fun g => hj ((tw_jm_cg (fun c => h.1 _ _ (by omega))).mp g)) (fun c hc => ⟨(hP c hc).1, by rw [h.1 _ _ (by omega)]; exact (hP c hc).2⟩) (fun c hc => ⟨(hq c hc).1, by rw [h.1 _ _ (by omega)]; exact (hq c hc).2⟩)) ?_
  rintro _ _ ⟨rfl, τ0, hw, rfl⟩
  show tw_P L xs _ 208 26 [.ref 88, .int s, .int (nI t), .int (nI n)] [.int (nI (r + 1))] (tw_upd τ0 90 0 (nI (r + 1))) _
  refine tw_ri rfl (rfl) ?_
  exact ⟨rfl, τ, τ0, h, hw, rfl⟩
set_option maxHeartbeats 4000000 in
set_option maxRecDepth 100000 in
theorem tw_core {L : Nat} {xs : Nat → Int32} {s : Int32} {t : Nat} (ht : t < 4) : ∀ σ, tw_Inv σ → tw_E L xs 12 142 [.ref 1, .int s, .int (nI t)] σ (fun v σ1 => ∃ u : Int32, v = some (.int u) ∧ (∀ k j, 88 ≤ k → σ1 k j = σ k j) ∧ tw_E L xs 12 208 [.ref 88, .int s, .int (nI t)] σ1 (fun v2 σ2 => v2 = some (.int u) ∧ tw_Inv σ2)) := by
  intro σ hI
  obtain ⟨⟨n, r, hL⟩, hT, hPp, hPc, hLs, hIm, hC14, hC46, hC72⟩ := id hI
  obtain ⟨⟨hn10, hr50⟩, ⟨hn6, hn89⟩, ⟨hr9, hw9, hr90⟩, hCa, hRo, hLa⟩ := hL
  have hn6 : σ 6 4 = nI n := hn6
  have hn89 : σ 89 0 = nI n := hn89
  have hr9 : σ 9 3 = nI r := hr9
  have hw9 : σ 9 4 = nI n := hw9
  have hr90 : σ 90 0 = nI r := hr90
  obtain ⟨P, q, hPq⟩ := tw_cardsP hCa
  have hLo : tw_iLoom σ 6 0 n r := ⟨⟨hn10, hr50⟩, ⟨hn6, hn89⟩, ⟨hr9, hw9, hr90⟩, hCa, hRo, hLa⟩
  have hA : ∀ c, c < n → σ (2 * c + 18) 3 = σ 94 c := fun c hc => (hCa c hc).2.2.2
  rcases (show r = 50 ∨ r < 50 by omega) with h50 | h50
  · skip
    show tw_P L xs _ 142 0 [.ref 1, .int s, .int (nI t)] [] σ _
    refine tw_sg 2 (i1 := 2) (ls1 := [.ref 1, .int s, .int (nI t)]) (st1 := [.ref 6]) (σ1 := σ) rfl ?_
    refine tw_cl0 11 rfl (rfl) (by decide) ?_
    show tw_P L xs _ 83 0 [.ref 6] [] σ _
    refine tw_sg 2 (i1 := 2) (ls1 := [.ref 6]) (st1 := [.ref 9]) (σ1 := σ) rfl ?_
    refine tw_ra rfl ?_
    show tw_P L xs _ 142 3 [.ref 1, .int s, .int (nI t)] [.ref 9] σ _
    refine tw_cl0 11 rfl (rfl) (by decide) ?_
    show tw_P L xs _ 19 0 [.ref 9] [] σ _
    refine tw_sgn 4 (i1 := 4) (ls0 := [.ref 9]) (st0 := [.int (nI 50 - (σ 9 3))]) (σ0 := σ) (ls1 := [.ref 9]) (st1 := [.int (nI (50 - r))]) (σ1 := σ) rfl (rfl) (by simp only [hr9, tw_nsub (show r ≤ 50 by omega), tw_nadd, tw_nmul]) (rfl) ?_
    refine tw_ri rfl (rfl) ?_
    show tw_P L xs _ 142 4 [.ref 1, .int s, .int (nI t)] [.int (nI (50 - r))] σ _
    refine tw_sg 1 (i1 := 5) (ls1 := [.ref 1, .int s, .int (nI t)]) (st1 := [.int (nI 1), .int (nI (50 - r))]) (σ1 := σ) rfl ?_
    refine tw_biF (c := .ge) rfl (by rw [tw_cge', tw_nle (by omega) (by omega)] <;> omega) ?_
    show tw_P L xs _ 142 6 [.ref 1, .int s, .int (nI t)] [] σ _
    refine tw_sg 1 (i1 := 7) (ls1 := [.ref 1, .int s, .int (nI t)]) (st1 := [.int (-4)]) (σ1 := σ) rfl ?_
    refine tw_ri rfl (rfl) ?_
    refine ⟨_, rfl, fun _ _ _ => rfl, tw_P_le (d := 8) (tw_E_mono (tw_e_picked50 (P := id) (q := id) ht hn89 hr90 hr50 hn10 h50) (fun v τ h => ⟨h.1, hI.keep (fun k j g => h.2.1 k j (fun e => g (by unfold tw_scr; omega)))⟩)) (by decide)⟩
  · by_cases hj : tw_jm σ (tw_sT s t) n
    · skip
      show tw_P L xs _ 142 0 [.ref 1, .int s, .int (nI t)] [] σ _
      refine tw_sg 2 (i1 := 2) (ls1 := [.ref 1, .int s, .int (nI t)]) (st1 := [.ref 6]) (σ1 := σ) rfl ?_
      refine tw_cl0 11 rfl (rfl) (by decide) ?_
      show tw_P L xs _ 83 0 [.ref 6] [] σ _
      refine tw_sg 2 (i1 := 2) (ls1 := [.ref 6]) (st1 := [.ref 9]) (σ1 := σ) rfl ?_
      refine tw_ra rfl ?_
      show tw_P L xs _ 142 3 [.ref 1, .int s, .int (nI t)] [.ref 9] σ _
      refine tw_cl0 11 rfl (rfl) (by decide) ?_
      show tw_P L xs _ 19 0 [.ref 9] [] σ _
      refine tw_sgn 4 (i1 := 4) (ls0 := [.ref 9]) (st0 := [.int (nI 50 - (σ 9 3))]) (σ0 := σ) (ls1 := [.ref 9]) (st1 := [.int (nI (50 - r))]) (σ1 := σ) rfl (rfl) (by simp only [hr9, tw_nsub (show r ≤ 50 by omega), tw_nadd, tw_nmul]) (rfl) ?_
      refine tw_ri rfl (rfl) ?_
      show tw_P L xs _ 142 4 [.ref 1, .int s, .int (nI t)] [.int (nI (50 - r))] σ _
      refine tw_sg 1 (i1 := 5) (ls1 := [.ref 1, .int s, .int (nI t)]) (st1 := [.int (nI 1), .int (nI (50 - r))]) (σ1 := σ) rfl ?_
      refine tw_biT (c := .ge) rfl (by rw [tw_cge, tw_nle (by omega) (by omega)] <;> omega) ?_
      show tw_P L xs _ 142 8 [.ref 1, .int s, .int (nI t)] [] σ _
      refine tw_sg 4 (i1 := 12) (ls1 := [.ref 1, .int s, .int (nI t)]) (st1 := [.int (nI t), .int s, .ref 6]) (σ1 := σ) rfl ?_
      refine tw_cl1 rfl (rfl) (by decide) (tw_e_pickSet0 (P := id) (q := id) (n := n) (r := r) ht hn6 hr9 hr50 hn10 hA h50 hj) ?_
      rintro _ τ ⟨rfl, h⟩
      show tw_P L xs _ 142 13 [.ref 1, .int s, .int (nI t)] [.int (nI 0)] τ _
      refine tw_bzT (c := .eq) rfl (by rw [tw_ceq, tw_neq (by omega) (by omega)] <;> omega) ?_
      show tw_P L xs _ 142 19 [.ref 1, .int s, .int (nI t)] [] τ _
      refine tw_sg 1 (i1 := 20) (ls1 := [.ref 1, .int s, .int (nI t)]) (st1 := [.int (-6)]) (σ1 := τ) rfl ?_
      refine tw_ri rfl (rfl) ?_
      refine ⟨_, rfl, fun k j g => h.1 k j (by omega), tw_P_le (d := 8) (tw_E_mono (tw_e_picked0 (P := id) (q := id) (σ := τ) (n := n) (r := r) ht (by rw [h.1 _ _ (by omega)]; exact hn89) (by rw [h.1 _ _ (by omega)]; exact hr90) hr50 hn10 h50 ((tw_jm_cg (fun c => h.1 _ _ (by omega))).mpr hj)) (fun v υ g => ⟨g.1, hI.keep (fun k j e => ?_)⟩)) (by decide)⟩
      rw [g.2.1 k j (fun z => e (by unfold tw_scr; omega)), h.1 k j (fun z => e (by unfold tw_scr; omega))]
    · skip
      show tw_P L xs _ 142 0 [.ref 1, .int s, .int (nI t)] [] σ _
      refine tw_sg 2 (i1 := 2) (ls1 := [.ref 1, .int s, .int (nI t)]) (st1 := [.ref 6]) (σ1 := σ) rfl ?_
      refine tw_cl0 11 rfl (rfl) (by decide) ?_
      show tw_P L xs _ 83 0 [.ref 6] [] σ _
      refine tw_sg 2 (i1 := 2) (ls1 := [.ref 6]) (st1 := [.ref 9]) (σ1 := σ) rfl ?_
      refine tw_ra rfl ?_
      show tw_P L xs _ 142 3 [.ref 1, .int s, .int (nI t)] [.ref 9] σ _
      refine tw_cl0 11 rfl (rfl) (by decide) ?_
      show tw_P L xs _ 19 0 [.ref 9] [] σ _
      refine tw_sgn 4 (i1 := 4) (ls0 := [.ref 9]) (st0 := [.int (nI 50 - (σ 9 3))]) (σ0 := σ) (ls1 := [.ref 9]) (st1 := [.int (nI (50 - r))]) (σ1 := σ) rfl (rfl) (by simp only [hr9, tw_nsub (show r ≤ 50 by omega), tw_nadd, tw_nmul]) (rfl) ?_
      refine tw_ri rfl (rfl) ?_
      show tw_P L xs _ 142 4 [.ref 1, .int s, .int (nI t)] [.int (nI (50 - r))] σ _
      refine tw_sg 1 (i1 := 5) (ls1 := [.ref 1, .int s, .int (nI t)]) (st1 := [.int (nI 1), .int (nI (50 - r))]) (σ1 := σ) rfl ?_
      refine tw_biT (c := .ge) rfl (by rw [tw_cge, tw_nle (by omega) (by omega)] <;> omega) ?_
      show tw_P L xs _ 142 8 [.ref 1, .int s, .int (nI t)] [] σ _
      refine tw_sg 4 (i1 := 12) (ls1 := [.ref 1, .int s, .int (nI t)]) (st1 := [.int (nI t), .int s, .ref 6]) (σ1 := σ) rfl ?_
      refine tw_cl1 rfl (rfl) (by decide) (tw_e_pickSet1 (n := n) (r := r) (P := P) (q := q) ht hn6 hr9 hr50 hn10 hA h50 hj (fun c hc => ⟨(hPq c hc).1.1, (hPq c hc).1.2.1⟩) (fun c hc => ⟨(hPq c hc).2.1, (hPq c hc).2.2.1⟩)) ?_
      rintro _ υ ⟨rfl, τ, τ0, h, hw, hυ⟩; have e9 : υ 9 3 = nI (r + 1) := by rw [hυ]; exact tw_upd_at
      show tw_P L xs _ 142 13 [.ref 1, .int s, .int (nI t)] [.int (nI 1)] υ _
      refine tw_bzF (c := .eq) rfl (by rw [tw_ceq', tw_neq (by omega) (by omega)] <;> omega) ?_
      show tw_P L xs _ 142 14 [.ref 1, .int s, .int (nI t)] [] υ _
      refine tw_sg 2 (i1 := 16) (ls1 := [.ref 1, .int s, .int (nI t)]) (st1 := [.ref 6]) (σ1 := υ) rfl ?_
      refine tw_cl0 11 rfl (rfl) (by decide) ?_
      show tw_P L xs _ 83 0 [.ref 6] [] υ _
      refine tw_sg 2 (i1 := 2) (ls1 := [.ref 6]) (st1 := [.ref 9]) (σ1 := υ) rfl ?_
      refine tw_ra rfl ?_
      show tw_P L xs _ 142 17 [.ref 1, .int s, .int (nI t)] [.ref 9] υ _
      refine tw_cl0 11 rfl (rfl) (by decide) ?_
      show tw_P L xs _ 17 0 [.ref 9] [] υ _
      refine tw_sgn 2 (i1 := 2) (ls0 := [.ref 9]) (st0 := [.int (υ 9 3)]) (σ0 := υ) (ls1 := [.ref 9]) (st1 := [.int (nI (r + 1))]) (σ1 := υ) rfl (rfl) (by simp only [e9, tw_nadd, tw_nmul]) (rfl) ?_
      refine tw_ri rfl (rfl) ?_
      show tw_P L xs _ 142 18 [.ref 1, .int s, .int (nI t)] [.int (nI (r + 1))] υ _
      refine tw_sg 1 (i1 := 20) (ls1 := [.ref 1, .int s, .int (nI t)]) (st1 := [.int (nI (r + 1))]) (σ1 := υ) rfl ?_
      refine tw_ri rfl (rfl) ?_
      have hk : ∀ k j, 88 ≤ k → υ k j = σ k j := fun k j g => by rw [hυ, tw_upd_off (by omega), hw.1 k j (by omega) (by omega), h.1 k j (by omega)]
      refine ⟨_, rfl, hk, tw_P_le (d := 8) (tw_E_mono (tw_e_picked1 (σ := υ) (n := n) (r := r) (P := P) (q := q) ht (by rw [hk _ _ (by omega)]; exact hn89) (by rw [hk _ _ (by omega)]; exact hr90) hr50 hn10 h50 (fun g => hj ((tw_jm_cg (fun c => hk _ _ (by omega))).mp g)) (fun c hc => ⟨(hPq c hc).1.1, by rw [hk _ _ (by omega)]; exact (hPq c hc).1.2.2⟩) (fun c hc => ⟨(hPq c hc).2.1, by rw [hk _ _ (by omega)]; exact (hPq c hc).2.2.2⟩)) ?_) (by decide)⟩
      rintro _ _ ⟨rfl, τa, υ0, g, gw, rfl⟩
      exact ⟨rfl, tw_Inv_pick hI hLo h50 (fun c hc => tw_sT_lt ht) (fun k j e => h.1 k j (by omega)) hw (fun k j e => by rw [g.1 k j (by omega), hυ]) gw⟩
end tw_s41
