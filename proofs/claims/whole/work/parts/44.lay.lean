/-! laying a law -/
section tw_s44
variable {L : Nat} {xs : Nat → Int32} {σ : tw_Mem} {x y w : Int32} {n r i c k h q a b e : Nat}
set_option maxRecDepth 100000 in
theorem tw_e_nextC {μ : tw_Mem} {n c b : Nat} (h6 : σ 6 4 = nI n) (h9 : σ 9 3 = nI r) (hμ : ∀ k j, 13 ≤ k → k ≤ 17 → σ k j = μ k j) (hL : tw_iLaw μ 6 0) (h10 : n ≤ 10) (hp : r + b ≤ 90000) : tw_E L xs 10 89 [.ref 6, .int (nI c), .int (nI b)] σ (fun v σ1 => (∃ u : Int32, v = some (.int u) ∧ (c < n → u = nI (tw_lvm μ n 7 0 c (r + b)))) ∧ σ = σ1) := by
  by_cases hc : c < n
  · show tw_P L xs _ 89 0 [.ref 6, .int (nI c), .int (nI b)] [] σ _
    refine tw_sg 4 (i1 := 4) (ls1 := [.ref 6, .int (nI c), .int (nI b)]) (st1 := [.ref 6, .int (nI c), .ref 13]) (σ1 := σ) rfl ?_
    refine tw_cl0 9 rfl (rfl) (by decide) ?_
    show tw_P L xs _ 84 0 [.ref 6] [] σ _
    refine tw_sg 2 (i1 := 2) (ls1 := [.ref 6]) (st1 := [.ref 9]) (σ1 := σ) rfl ?_
    refine tw_cl0 8 rfl (rfl) (by decide) ?_
    show tw_P L xs _ 17 0 [.ref 9] [] σ _
    refine tw_sgn 2 (i1 := 2) (ls0 := [.ref 9]) (st0 := [.int (σ 9 3)]) (σ0 := σ) (ls1 := [.ref 9]) (st1 := [.int (nI r)]) (σ1 := σ) rfl (rfl) (by simp only [h9, tw_nadd, tw_nmul]) (rfl) ?_
    refine tw_ri rfl (rfl) ?_
    show tw_P L xs _ 84 3 [.ref 6] [.int (nI r)] σ _
    refine tw_ri rfl (rfl) ?_
    show tw_P L xs _ 89 5 [.ref 6, .int (nI c), .int (nI b)] [.int (nI r), .int (nI c), .ref 13] σ _
    refine tw_sgn 4 (i1 := 9) (ls0 := [.ref 6, .int (nI c), .int (nI b)]) (st0 := [.int (σ 6 4), .int (nI r + nI b), .int (nI c), .ref 13]) (σ0 := σ) (ls1 := [.ref 6, .int (nI c), .int (nI b)]) (st1 := [.int (nI n), .int (nI (r + b)), .int (nI c), .ref 13]) (σ1 := σ) rfl (rfl) (by simp only [h6, tw_nadd, tw_nmul]) (rfl) ?_
    refine tw_cl1 rfl (rfl) (by decide) (tw_e_turnC hμ hL h10 hc hp) ?_
    rintro _ _ ⟨rfl, rfl⟩
    show tw_P L xs _ 89 10 [.ref 6, .int (nI c), .int (nI b)] [.int (nI (tw_lvm μ n 7 0 c (r + b)))] σ _
    refine tw_ri rfl (rfl) ?_
    exact ⟨⟨_, rfl, fun _ => rfl⟩, rfl⟩
  · show tw_P L xs _ 89 0 [.ref 6, .int (nI c), .int (nI b)] [] σ _
    refine tw_sg 4 (i1 := 4) (ls1 := [.ref 6, .int (nI c), .int (nI b)]) (st1 := [.ref 6, .int (nI c), .ref 13]) (σ1 := σ) rfl ?_
    refine tw_cl0 9 rfl (rfl) (by decide) ?_
    show tw_P L xs _ 84 0 [.ref 6] [] σ _
    refine tw_sg 2 (i1 := 2) (ls1 := [.ref 6]) (st1 := [.ref 9]) (σ1 := σ) rfl ?_
    refine tw_cl0 8 rfl (rfl) (by decide) ?_
    show tw_P L xs _ 17 0 [.ref 9] [] σ _
    refine tw_sgn 2 (i1 := 2) (ls0 := [.ref 9]) (st0 := [.int (σ 9 3)]) (σ0 := σ) (ls1 := [.ref 9]) (st1 := [.int (nI r)]) (σ1 := σ) rfl (rfl) (by simp only [h9, tw_nadd, tw_nmul]) (rfl) ?_
    refine tw_ri rfl (rfl) ?_
    show tw_P L xs _ 84 3 [.ref 6] [.int (nI r)] σ _
    refine tw_ri rfl (rfl) ?_
    show tw_P L xs _ 89 5 [.ref 6, .int (nI c), .int (nI b)] [.int (nI r), .int (nI c), .ref 13] σ _
    refine tw_sgn 4 (i1 := 9) (ls0 := [.ref 6, .int (nI c), .int (nI b)]) (st0 := [.int (σ 6 4), .int (nI r + nI b), .int (nI c), .ref 13]) (σ0 := σ) (ls1 := [.ref 6, .int (nI c), .int (nI b)]) (st1 := [.int (nI n), .int (nI (r + b)), .int (nI c), .ref 13]) (σ1 := σ) rfl (rfl) (by simp only [h6, tw_nadd, tw_nmul]) (rfl) ?_
    refine tw_cl1 rfl (rfl) (by decide) (tw_e_turnAny hμ hL) ?_
    rintro _ _ ⟨⟨u, rfl⟩, rfl⟩
    show tw_P L xs _ 89 10 [.ref 6, .int (nI c), .int (nI b)] [.int u] σ _
    refine tw_ri rfl (rfl) ?_
    exact ⟨⟨_, rfl, fun h => absurd h hc⟩, rfl⟩
/-- row K, up to c and below n, is T; row K apart all as it was -/
def tw_laidn (σ0 σ : tw_Mem) (K : Nat) (T : Nat → Nat) (n c : Nat) : Prop := (∀ k j, ¬ k = K → σ k j = σ0 k j) ∧ ∀ d, d < c → d < n → σ K d = nI (T d)
theorem tw_laidn.step {σ0 σ : tw_Mem} {K n c : Nat} {T : Nat → Nat} {u : Int32} (h : tw_laidn σ0 σ K T n c) (hu : c < n → u = nI (T c)) : tw_laidn σ0 (tw_upd σ K c u) K T n (c + 1) := by
  refine ⟨fun k j g => by rw [tw_upd_off (by omega)]; exact h.1 k j g, fun d hd hn => ?_⟩
  by_cases hz : d = c
  · subst hz; rw [tw_upd_at]; exact hu hn
  · rw [tw_upd_off (by omega)]; exact h.2 d (by omega) hn
set_option maxHeartbeats 4000000 in
set_option maxRecDepth 100000 in
theorem tw_l_byLaw {L : Nat} {xs : Nat → Int32} {Q : Option Value → tw_Mem → Prop} {σ0 μ : tw_Mem} {n r : Nat} (h6 : σ0 6 4 = nI n) (h9 : σ0 9 3 = nI r) (hμ : ∀ k j, 13 ≤ k → k ≤ 17 → σ0 k j = μ k j) (hL : tw_iLaw μ 6 0) (h10 : n ≤ 10) (hp : r ≤ 50) : ∀ (f : Nat) (c : Nat) (σ : tw_Mem), c + f = 10 → tw_laidn σ0 σ 8 (fun c => tw_lvm μ n 7 0 c (r + 0)) n c → (∀ τ : tw_Mem, tw_laidn σ0 τ 8 (fun c => tw_lvm μ n 7 0 c (r + 0)) n 10 → tw_P L xs 11 91 15 [.ref 6, .int (nI 10)] [] τ Q) → tw_P L xs 11 91 2 [.ref 6, .int (nI c)] [] σ Q := by
  intro f
  induction f with
  | zero =>
    intro c σ hf hI hQ
    refine tw_sg 2 (i1 := 4) (ls1 := [.ref 6, .int (nI c)]) (st1 := [.int (nI 10), .int (nI c)]) (σ1 := σ) rfl ?_
    refine tw_biT (c := .ge) rfl (by rw [tw_cge, tw_nle (by omega) (by omega)] <;> omega) ?_
    show tw_P L xs _ 91 15 [.ref 6, .int (nI c)] [] σ _
    have hz : c = 10 := hf
    subst hz
    exact hQ _ hI
  | succ f ih =>
    intro c σ hf hI hQ
    refine tw_sg 2 (i1 := 4) (ls1 := [.ref 6, .int (nI c)]) (st1 := [.int (nI 10), .int (nI c)]) (σ1 := σ) rfl ?_
    refine tw_biF (c := .ge) rfl (by rw [tw_cge', tw_nle (by omega) (by omega)] <;> omega) ?_
    show tw_P L xs _ 91 5 [.ref 6, .int (nI c)] [] σ _
    refine tw_sg 6 (i1 := 11) (ls1 := [.ref 6, .int (nI c)]) (st1 := [.int (nI 0), .int (nI c), .ref 6, .int (nI c), .ref 8]) (σ1 := σ) rfl ?_
    refine tw_cl1 rfl (rfl) (by decide) (tw_e_nextC (σ := σ) (r := r) (b := 0) (c := c) (by rw [hI.1 _ _ (by omega)]; exact h6) (by rw [hI.1 _ _ (by omega)]; exact h9) (fun k j g1 g2 => by rw [hI.1 _ _ (by omega)]; exact hμ k j g1 g2) hL h10 (by omega)) ?_
    rintro _ _ ⟨⟨u, rfl, hu⟩, rfl⟩
    show tw_P L xs _ 91 12 [.ref 6, .int (nI c)] [.int u, .int (nI c), .ref 8] σ _
    refine tw_as (k := 8) (j := c) (len := 10) rfl rfl rfl (rfl) (by omega) (by decide) ?_
    refine tw_sgn 2 (i1 := 2) (ls0 := [.ref 6, .int (nI c + nI 1)]) (st0 := []) (σ0 := (tw_upd σ 8 c u)) (ls1 := [.ref 6, .int (nI (c + 1))]) (st1 := []) (σ1 := (tw_upd σ 8 c u)) rfl (by simp only [tw_nadd, tw_nmul]) (rfl) (rfl) ?_
    exact ih (c + 1) _ (by omega) (hI.step hu) hQ
set_option maxHeartbeats 4000000 in
set_option maxRecDepth 100000 in
theorem tw_l_layLaw {L : Nat} {xs : Nat → Int32} {Q : Option Value → tw_Mem → Prop} {σ0 μ : tw_Mem} {n p : Nat} (h89 : σ0 89 0 = nI n) (hμ : ∀ k j, 99 ≤ k → k ≤ 102 → σ0 k j = μ k j) (hL : tw_iLaw μ 6 0) (h10 : n ≤ 10) (hp : p ≤ 90000) : ∀ (f : Nat) (c : Nat) (σ : tw_Mem), c + f = n → tw_laidn σ0 σ 110 (fun c => tw_lvm μ n 7 0 c p) n c → (∀ τ : tw_Mem, tw_laidn σ0 τ 110 (fun c => tw_lvm μ n 7 0 c p) n n → Q none τ) → tw_P L xs 9 211 2 [.ref 88, .int (nI p), .int (nI c)] [] σ Q := by
  intro f
  induction f with
  | zero =>
    intro c σ hf hI hQ
    have e89 : σ 89 0 = nI n := by rw [hI.1 _ _ (by omega)]; exact h89
    refine tw_sg 4 (i1 := 6) (ls1 := [.ref 88, .int (nI p), .int (nI c)]) (st1 := [.int (nI 0), .ref 89, .int (nI c)]) (σ1 := σ) rfl ?_
    refine tw_al (k := 89) (j := 0) (len := 2) rfl rfl rfl rfl (rfl) (by omega) (by decide) ?_
    rw [e89]
    refine tw_biT (c := .ge) rfl (by rw [tw_cge, tw_nle (by omega) (by omega)] <;> omega) ?_
    show tw_P L xs _ 211 19 [.ref 88, .int (nI p), .int (nI c)] [] σ _
    refine tw_rv rfl ?_
    have hz : n = c := Eq.symm hf
    subst hz
    exact hQ _ hI
  | succ f ih =>
    intro c σ hf hI hQ
    have e89 : σ 89 0 = nI n := by rw [hI.1 _ _ (by omega)]; exact h89
    refine tw_sg 4 (i1 := 6) (ls1 := [.ref 88, .int (nI p), .int (nI c)]) (st1 := [.int (nI 0), .ref 89, .int (nI c)]) (σ1 := σ) rfl ?_
    refine tw_al (k := 89) (j := 0) (len := 2) rfl rfl rfl rfl (rfl) (by omega) (by decide) ?_
    rw [e89]
    refine tw_biF (c := .ge) rfl (by rw [tw_cge', tw_nle (by omega) (by omega)] <;> omega) ?_
    show tw_P L xs _ 211 8 [.ref 88, .int (nI p), .int (nI c)] [] σ _
    refine tw_sg 7 (i1 := 15) (ls1 := [.ref 88, .int (nI p), .int (nI c)]) (st1 := [.int (nI p), .int (nI c), .int (nI 0), .ref 88, .int (nI c), .ref 110]) (σ1 := σ) rfl ?_
    refine tw_cl1 rfl (rfl) (by decide) (tw_e_turnM (σ := σ) (μ := μ) e89 (fun k j g1 g2 => by rw [hI.1 _ _ (by omega)]; exact hμ k j g1 g2) hL h10 (by omega) hp) ?_
    rintro _ _ ⟨rfl, rfl⟩
    show tw_P L xs _ 211 16 [.ref 88, .int (nI p), .int (nI c)] [.int (nI (tw_lvm μ n 7 0 c p)), .int (nI c), .ref 110] σ _
    refine tw_as (k := 110) (j := c) (len := 10) rfl rfl rfl (rfl) (by omega) (by decide) ?_
    refine tw_sgn 2 (i1 := 2) (ls0 := [.ref 88, .int (nI p), .int (nI c + nI 1)]) (st0 := []) (σ0 := (tw_upd σ 110 c (nI (tw_lvm μ n 7 0 c p)))) (ls1 := [.ref 88, .int (nI p), .int (nI (c + 1))]) (st1 := []) (σ1 := (tw_upd σ 110 c (nI (tw_lvm μ n 7 0 c p)))) rfl (by simp only [tw_nadd, tw_nmul]) (rfl) (rfl) ?_
    exact ih (c + 1) _ (by omega) (hI.step (fun _ => rfl)) hQ
set_option maxHeartbeats 4000000 in
set_option maxRecDepth 100000 in
theorem tw_e_layLaw {μ : tw_Mem} {n p : Nat} (h89 : σ 89 0 = nI n) (hμ : ∀ k j, 99 ≤ k → k ≤ 102 → σ k j = μ k j) (hL : tw_iLaw μ 6 0) (h10 : n ≤ 10) (hp : p ≤ 90000) : tw_E L xs 9 211 [.ref 88, .int (nI p)] σ (fun v τ => v = none ∧ tw_laidn σ τ 110 (fun c => tw_lvm μ n 7 0 c p) n n) := by
  show tw_P L xs _ 211 0 [.ref 88, .int (nI p), tw_U] [] σ _
  refine tw_sg 2 (i1 := 2) (ls1 := [.ref 88, .int (nI p), .int (nI 0)]) (st1 := []) (σ1 := σ) rfl ?_
  exact tw_l_layLaw h89 hμ hL h10 hp n 0 σ (by omega) ⟨fun _ _ _ => rfl, fun d hd => by omega⟩ (fun τ h => ⟨rfl, h⟩)
end tw_s44
