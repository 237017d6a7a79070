/-! a draft woven, the reference -/
section tw_s74
variable {L : Nat} {xs : Nat → Int32} {σ : tw_Mem} {x y w : Int32} {n r i c k h q a b e : Nat}
def tw_tbS (σ0 σ : tw_Mem) (T : Nat → Nat → Nat) (n l c : Nat) : Prop := (∀ k j, ¬ k = 114 → ¬ k = 115 → σ k j = σ0 k j) ∧ ∀ i d, (i < l ∧ d < n) ∨ (i = l ∧ d < c) → σ 115 (10 * i + d) = nI (T i d)
theorem tw_tbS.step {σ0 σ τ : tw_Mem} {T : Nat → Nat → Nat} {n l c : Nat} (h : tw_tbS σ0 σ T n l c) (g : tw_dG σ τ) (hn : n ≤ 10) (hc : c < n) : tw_tbS σ0 (tw_upd τ 115 (10 * l + c) (nI (T l c))) T n l (c + 1) := by
  refine ⟨fun k j a b => ?_, fun i d hd => ?_⟩
  · rw [tw_upd_off (by omega), g k j a]; exact h.1 k j a b
  · by_cases z : i = l ∧ d = c
    · rw [z.1, z.2, tw_upd_at]
    · rw [tw_upd_off (by omega), g 115 _ (by omega)]; exact h.2 i d (by omega)
theorem tw_tbS.next {σ0 σ : tw_Mem} {T : Nat → Nat → Nat} {n l : Nat} (h : tw_tbS σ0 σ T n l n) : tw_tbS σ0 σ T n (l + 1) 0 := ⟨h.1, fun i d hd => h.2 i d (by omega)⟩
set_option maxHeartbeats 4000000 in
set_option maxRecDepth 100000 in
theorem tw_l_tbi {Q : Option Value → tw_Mem → Prop} {σ0 : tw_Mem} {w pc : Nat → Nat → Int32} {P : Nat → Nat} {H n : Nat} (hD0 : tw_dM σ0 w pc P H n) (hlo : ∀ d, d < n → ¬ tw_ct (w d) (pc d) H H (P d) = 1000) {l : Nat} (hl : l < H) (hQ : ∀ τ, tw_tbS σ0 τ (tw_dT w pc P H) n l n → tw_P L xs 10 235 53 [.ref 88, .int (nI l), .int (nI n)] [] τ Q) : ∀ (f c : Nat) (σ : tw_Mem), c + f = n → tw_tbS σ0 σ (tw_dT w pc P H) n l c → tw_P L xs 10 235 33 [.ref 88, .int (nI l), .int (nI c)] [] σ Q := by
  intro f
  induction f with
  | zero =>
    intro c σ hf hI
    have hf : c = n := hf
    subst hf
    have hD : tw_dM σ w pc P H c := hD0.to (fun k j g => hI.1 k j (by omega) (by omega))
    obtain ⟨⟨h10, hH, h32, h89⟩, -⟩ := id hD
    refine tw_sg 4 (i1 := 37) (ls1 := [.ref 88, .int (nI l), .int (nI c)]) (st1 := [.int (nI 0), .ref 89, .int (nI c)]) (σ1 := σ) rfl ?_
    refine tw_al (k := 89) (j := 0) (len := 2) rfl rfl rfl rfl (rfl) (by omega) (by decide) ?_
    rw [h89]
    refine tw_biT (c := .ge) rfl (by rw [tw_cge, tw_nle (by omega) (by omega)] <;> omega) ?_
    show tw_P L xs _ 235 53 [.ref 88, .int (nI l), .int (nI c)] [] σ _
    exact hQ σ hI
  | succ f ih =>
    intro c σ hf hI
    have hD : tw_dM σ w pc P H n := hD0.to (fun k j g => hI.1 k j (by omega) (by omega))
    obtain ⟨⟨h10, hH, h32, h89⟩, -⟩ := id hD
    refine tw_sg 4 (i1 := 37) (ls1 := [.ref 88, .int (nI l), .int (nI c)]) (st1 := [.int (nI 0), .ref 89, .int (nI c)]) (σ1 := σ) rfl ?_
    refine tw_al (k := 89) (j := 0) (len := 2) rfl rfl rfl rfl (rfl) (by omega) (by decide) ?_
    rw [h89]
    refine tw_biF (c := .ge) rfl (by rw [tw_cge', tw_nle (by omega) (by omega)] <;> omega) ?_
    show tw_P L xs _ 235 39 [.ref 88, .int (nI l), .int (nI c)] [] σ _
    refine tw_sgn 10 (i1 := 49) (ls0 := [.ref 88, .int (nI l), .int (nI c)]) (st0 := [.int (nI c), .int (nI l), .ref 88, .int ((nI 10 * nI l) + nI c), .ref 115]) (σ0 := σ) (ls1 := [.ref 88, .int (nI l), .int (nI c)]) (st1 := [.int (nI c), .int (nI l), .ref 88, .int (nI ((10 * l) + c)), .ref 115]) (σ1 := σ) rfl (rfl) (by simp only [tw_nadd, tw_nmul]) (rfl) ?_
    refine tw_cl1 rfl (rfl) (by decide) (tw_e_drM1 (l := l) hD (by omega) hl (hlo c (by omega))) ?_
    rintro _ τ ⟨rfl, hG⟩
    show tw_P L xs _ 235 50 [.ref 88, .int (nI l), .int (nI c)] [.int (nI (tw_dT w pc P H l c)), .int (nI ((10 * l) + c)), .ref 115] τ _
    refine tw_as (k := 115) (j := (10 * l + c)) (len := 80) rfl rfl rfl (rfl) (by omega) (by decide) ?_
    refine tw_sgn 2 (i1 := 33) (ls0 := [.ref 88, .int (nI l), .int (nI c + nI 1)]) (st0 := []) (σ0 := (tw_upd τ 115 (10 * l + c) (nI (tw_dT w pc P H l c)))) (ls1 := [.ref 88, .int (nI l), .int (nI (c + 1))]) (st1 := []) (σ1 := (tw_upd τ 115 (10 * l + c) (nI (tw_dT w pc P H l c)))) rfl (by simp only [tw_nadd, tw_nmul]) (rfl) (rfl) ?_
    exact ih (c + 1) _ (by omega) (hI.step hG h10 (by omega))
set_option maxHeartbeats 4000000 in
set_option maxRecDepth 100000 in
theorem tw_l_tbo {Q : Option Value → tw_Mem → Prop} {σ0 : tw_Mem} {w pc : Nat → Nat → Int32} {P : Nat → Nat} {H n : Nat} (hD0 : tw_dM σ0 w pc P H n) (hlo : ∀ d, d < n → ¬ tw_ct (w d) (pc d) H H (P d) = 1000) (hQ : ∀ τ v, tw_tbS σ0 τ (tw_dT w pc P H) n H 0 → tw_P L xs 10 235 55 [.ref 88, .int (nI H), v] [] τ Q) : ∀ (f l : Nat) (σ : tw_Mem) (u : Value), l + f = H → tw_tbS σ0 σ (tw_dT w pc P H) n l 0 → tw_P L xs 10 235 27 [.ref 88, .int (nI l), u] [] σ Q := by
  intro f
  induction f with
  | zero =>
    intro l σ u hf hI
    have hf : l = H := hf
    have hD : tw_dM σ w pc P H n := hD0.to (fun k j g => hI.1 k j (by omega) (by omega))
    obtain ⟨⟨h10, hH, h32, h89⟩, -⟩ := id hD
    rw [hf] at hI ⊢
    refine tw_sgn 3 (i1 := 30) (ls0 := [.ref 88, .int (nI H), u]) (st0 := [.int (σ 88 32), .int (nI H)]) (σ0 := σ) (ls1 := [.ref 88, .int (nI H), u]) (st1 := [.int (nI H), .int (nI H)]) (σ1 := σ) rfl (rfl) (by simp only [h32, tw_nadd, tw_nmul]) (rfl) ?_
    refine tw_biT (c := .ge) rfl (by rw [tw_cge, tw_nle (by omega) (by omega)] <;> omega) ?_
    show tw_P L xs _ 235 55 [.ref 88, .int (nI H), u] [] σ _
    exact hQ σ u hI
  | succ f ih =>
    intro l σ u hf hI
    have hD : tw_dM σ w pc P H n := hD0.to (fun k j g => hI.1 k j (by omega) (by omega))
    obtain ⟨⟨h10, hH, h32, h89⟩, -⟩ := id hD
    refine tw_sgn 3 (i1 := 30) (ls0 := [.ref 88, .int (nI l), u]) (st0 := [.int (σ 88 32), .int (nI l)]) (σ0 := σ) (ls1 := [.ref 88, .int (nI l), u]) (st1 := [.int (nI H), .int (nI l)]) (σ1 := σ) rfl (rfl) (by simp only [h32, tw_nadd, tw_nmul]) (rfl) ?_
    refine tw_biF (c := .ge) rfl (by rw [tw_cge', tw_nle (by omega) (by omega)] <;> omega) ?_
    show tw_P L xs _ 235 31 [.ref 88, .int (nI l), u] [] σ _
    refine tw_sg 2 (i1 := 33) (ls1 := [.ref 88, .int (nI l), .int (nI 0)]) (st1 := []) (σ1 := σ) rfl ?_
    refine tw_l_tbi hD0 hlo (by omega) (fun τ hN => ?_) n 0 σ (by omega) hI
    refine tw_sgn 2 (i1 := 27) (ls0 := [.ref 88, .int (nI l + nI 1), .int (nI n)]) (st0 := []) (σ0 := τ) (ls1 := [.ref 88, .int (nI (l + 1)), .int (nI n)]) (st1 := []) (σ1 := τ) rfl (by simp only [tw_nadd, tw_nmul]) (rfl) (rfl) ?_
    exact ih (l + 1) τ _ (by omega) hN.next
set_option maxHeartbeats 4000000 in
set_option maxRecDepth 100000 in
theorem tw_l_dlay {Q : Option Value → tw_Mem → Prop} {σ0 : tw_Mem} {T : Nat → Nat → Nat} {n l : Nat} (h89 : σ0 89 0 = nI n) (h10 : n ≤ 10) (hl : l < 8) (hT : ∀ c, c < n → σ0 115 (10 * l + c) = nI (T l c)) (hQ : ∀ τ, tw_laidn σ0 τ 110 (T l) n n → tw_P L xs 10 235 83 [.ref 88, .int (nI l), .int (nI n)] [] τ Q) : ∀ (f c : Nat) (σ : tw_Mem), c + f = n → tw_laidn σ0 σ 110 (T l) n c → tw_P L xs 10 235 63 [.ref 88, .int (nI l), .int (nI c)] [] σ Q := by
  intro f
  induction f with
  | zero =>
    intro c σ hf hI
    have hf : c = n := hf
    subst hf
    refine tw_sg 4 (i1 := 67) (ls1 := [.ref 88, .int (nI l), .int (nI c)]) (st1 := [.int (nI 0), .ref 89, .int (nI c)]) (σ1 := σ) rfl ?_
    refine tw_al (k := 89) (j := 0) (len := 2) rfl rfl rfl rfl (rfl) (by omega) (by decide) ?_
    rw [((hI.1 89 0 (by omega)).trans h89)]
    refine tw_biT (c := .ge) rfl (by rw [tw_cge, tw_nle (by omega) (by omega)] <;> omega) ?_
    show tw_P L xs _ 235 83 [.ref 88, .int (nI l), .int (nI c)] [] σ _
    exact hQ σ hI
  | succ f ih =>
    intro c σ hf hI
    refine tw_sg 4 (i1 := 67) (ls1 := [.ref 88, .int (nI l), .int (nI c)]) (st1 := [.int (nI 0), .ref 89, .int (nI c)]) (σ1 := σ) rfl ?_
    refine tw_al (k := 89) (j := 0) (len := 2) rfl rfl rfl rfl (rfl) (by omega) (by decide) ?_
    rw [((hI.1 89 0 (by omega)).trans h89)]
    refine tw_biF (c := .ge) rfl (by rw [tw_cge', tw_nle (by omega) (by omega)] <;> omega) ?_
    show tw_P L xs _ 235 69 [.ref 88, .int (nI l), .int (nI c)] [] σ _
    refine tw_sgn 10 (i1 := 79) (ls0 := [.ref 88, .int (nI l), .int (nI c)]) (st0 := [.int ((nI 10 * nI l) + nI c), .ref 115, .int (nI c), .ref 110]) (σ0 := σ) (ls1 := [.ref 88, .int (nI l), .int (nI c)]) (st1 := [.int (nI ((10 * l) + c)), .ref 115, .int (nI c), .ref 110]) (σ1 := σ) rfl (rfl) (by simp only [tw_nadd, tw_nmul]) (rfl) ?_
    refine tw_al (k := 115) (j := (10 * l + c)) (len := 80) rfl rfl rfl rfl (rfl) (by omega) (by decide) ?_
    rw [((hI.1 115 _ (by omega)).trans (hT c (by omega)))]
    refine tw_as (k := 110) (j := c) (len := 10) rfl rfl rfl (rfl) (by omega) (by decide) ?_
    refine tw_sgn 2 (i1 := 63) (ls0 := [.ref 88, .int (nI l), .int (nI c + nI 1)]) (st0 := []) (σ0 := (tw_upd σ 110 c (nI (T l c)))) (ls1 := [.ref 88, .int (nI l), .int (nI (c + 1))]) (st1 := []) (σ1 := (tw_upd σ 110 c (nI (T l c)))) rfl (by simp only [tw_nadd, tw_nmul]) (rfl) (rfl) ?_
    exact ih (c + 1) _ (by omega) (hI.step (fun _ => rfl))
set_option maxHeartbeats 4000000 in
set_option maxRecDepth 100000 in
theorem tw_e_munw {n r m x : Nat} {T : Nat → Nat → Nat} {P : Nat → Nat} (h89 : σ 89 0 = nI n) (h90 : σ 90 0 = nI r) (hr : r ≤ 50) (h10 : n ≤ 10) (hT : ∀ i, i < r → ∀ c, c < n → T i c < 4 ∧ σ 98 (10 * i + c) = nI (T i c)) (hP : ∀ c, c < n → P c < 4 ∧ σ 93 c = nI (P c)) (hx : x ≤ 50) (hx1 : 1 ≤ x) (m1 : m ≤ x) (m2 : m ≤ r) (m3 : m = x ∨ m = r) : tw_E L xs 2 213 [.ref 88, .int (nI x)] σ (fun v τ => v = some (.int (nI m)) ∧ tw_uwM σ τ n r T P m) := by
  show tw_P L xs _ 213 0 [.ref 88, .int (nI x), tw_U, tw_U, tw_U] [] σ _
  refine tw_sg 3 (i1 := 3) (ls1 := [.ref 88, .int (nI x), tw_U, tw_U, tw_U]) (st1 := [.int (nI 50), .int (nI 1), .int (nI x)]) (σ1 := σ) rfl ?_
  refine tw_cl0 1 rfl (rfl) (by decide) ?_
  show tw_P L xs _ 182 0 [.int (nI x), .int (nI 1), .int (nI 50)] [] σ _
  refine tw_sg 2 (i1 := 2) (ls1 := [.int (nI x), .int (nI 1), .int (nI 50)]) (st1 := [.int (nI 1), .int (nI x)]) (σ1 := σ) rfl ?_
  refine tw_biF (c := .lt) rfl (by rw [tw_clt', tw_nlt (by omega) (by omega)] <;> omega) ?_
  show tw_P L xs _ 182 3 [.int (nI x), .int (nI 1), .int (nI 50)] [] σ _
  refine tw_sg 2 (i1 := 5) (ls1 := [.int (nI x), .int (nI 1), .int (nI 50)]) (st1 := [.int (nI 50), .int (nI x)]) (σ1 := σ) rfl ?_
  refine tw_biF (c := .gt) rfl (by rw [tw_cgt', tw_nlt (by omega) (by omega)] <;> omega) ?_
  show tw_P L xs _ 182 6 [.int (nI x), .int (nI 1), .int (nI 50)] [] σ _
  refine tw_sg 2 (i1 := 9) (ls1 := [.int (nI x), .int (nI 1), .int (nI 50)]) (st1 := [.int (nI 1)]) (σ1 := σ) rfl ?_
  refine tw_ri rfl (rfl) ?_
  show tw_P L xs _ 213 4 [.ref 88, .int (nI x), tw_U, tw_U, tw_U] [.int (nI 1)] σ _
  refine tw_bzT (c := .ne) rfl (by rw [tw_cne, tw_neq (by omega) (by omega)] <;> omega) ?_
  show tw_P L xs _ 213 7 [.ref 88, .int (nI x), tw_U, tw_U, tw_U] [] σ _
  refine tw_sg 2 (i1 := 9) (ls1 := [.ref 88, .int (nI x), .int (nI 0), tw_U, tw_U]) (st1 := []) (σ1 := σ) rfl ?_
  refine tw_P_le (d := 1) (tw_l_munw (T := T) (P := P) h89 h90 hr h10 hT hP hx m1 m2 m3 m 0 σ _ _ (by omega) ⟨fun _ _ _ _ => rfl, h90, fun c hc => ⟨rfl, (hP c hc).2⟩⟩ (fun ω hM => ⟨rfl, hM⟩)) (by decide)
end tw_s74
