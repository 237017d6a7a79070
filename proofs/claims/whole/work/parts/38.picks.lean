/-! picks, both -/
section tw_s38
variable {L : Nat} {xs : Nat → Int32} {σ : tw_Mem} {x y w : Int32} {n r i c k h q a b e : Nat}
def tw_tt (x : Int32) : Int32 := if x < (-99) ∨ ¬ x ≤ nI 99 then nI 1 else nI 0
def tw_ti (x : Int32) : Int32 := if x < (-99) ∨ nI 99 < x then nI 0 else nI 1
theorem tw_tti {x : Int32} : tw_ti x = nI 0 ↔ ¬ tw_tt x = nI 0 := by
  unfold tw_ti tw_tt
  by_cases h : x < (-99) ∨ nI 99 < x
  · rw [if_pos h, if_pos (h.imp id tw_not_le.mpr)]; decide
  · rw [if_neg h, if_neg (fun g => h (g.imp id tw_not_le.mp))]; decide
theorem tw_e_tt {x : Int32} : tw_E L xs 0 181 [.int x] σ (fun v σ1 => v = some (.int (tw_tt x)) ∧ σ = σ1) := tw_e_isTooTwisted
theorem tw_e_ti {x : Int32} : tw_E L xs 0 182 [.int x, .int (-99), .int (nI 99)] σ (fun v σ1 => v = some (.int (tw_ti x)) ∧ σ = σ1) := tw_e_in
/-- some card would twist too far -/
def tw_jm (σ : tw_Mem) (T : Nat → Nat) (n : Nat) : Prop := ∃ c, c < n ∧ ¬ tw_tt (σ 94 c + tw_gI (T c)) = nI 0
/-- the class's pick, as far as card c -/
def tw_wkC (σ0 σ : tw_Mem) (r : Nat) (T P q : Nat → Nat) (c : Nat) : Prop := (∀ k j, ¬ (18 ≤ k ∧ k < 2 * c + 18 ∧ k % 2 = 0 ∧ (j = 2 ∨ j = 3)) → ¬ (k = 10 ∧ r * 40 ≤ j ∧ j < (r * 10 + c) * 4) → σ k j = σ0 k j) ∧ ∀ d, d < c → σ (2 * d + 18) 3 = σ0 (2 * d + 18) 3 + tw_gI (T d) ∧ σ (2 * d + 18) 2 = nI (tw_pl (P d) (T d)) ∧ σ 10 ((r * 10 + d) * 4 + 0) = σ0 (2 * d + 19) (tw_pl (P d) (T d)) ∧ σ 10 ((r * 10 + d) * 4 + 1) = σ0 (2 * d + 19) ((tw_pl (P d) (T d) + 2) % 4) ∧ σ 10 ((r * 10 + d) * 4 + 2) = nI (tw_ln (T d) (q d)) ∧ σ 10 ((r * 10 + d) * 4 + 3) = nI (T d)
/-- the reference's -/
def tw_wkM (σ0 σ : tw_Mem) (r : Nat) (T P q : Nat → Nat) (c : Nat) : Prop := (∀ k j, ¬ (93 ≤ k ∧ k ≤ 94 ∧ j < c) → ¬ (95 ≤ k ∧ k ≤ 98 ∧ 10 * r ≤ j ∧ j < 10 * r + c) → σ k j = σ0 k j) ∧ ∀ d, d < c → σ 94 d = σ0 94 d + tw_gI (T d) ∧ σ 93 d = nI (tw_pl (P d) (T d)) ∧ σ 95 (10 * r + d) = σ0 91 (4 * d + tw_pl (P d) (T d)) ∧ σ 96 (10 * r + d) = σ0 91 (4 * d + (tw_pl (P d) (T d) + 2) % 4) ∧ σ 97 (10 * r + d) = nI (tw_ln (T d) (q d)) ∧ σ 98 (10 * r + d) = nI (T d)
set_option maxHeartbeats 4000000 in
set_option maxRecDepth 100000 in
theorem tw_l_jamC {L : Nat} {xs : Nat → Int32} {σ : tw_Mem} {n : Nat} {α : tw_Mem} {T : Nat → Nat} (hn6 : σ 6 4 = nI n) (h10 : n ≤ 10) (hT : ∀ c, c < n → T c < 4 ∧ σ 8 c = nI (T c)) (hA : ∀ c, c < n → σ (2 * c + 18) 3 = α 94 c) {Q : Option Value → tw_Mem → Prop} (hR : Q (some (.int (tw_bl (tw_jm α T n)))) σ) : ∀ (f : Nat) (c : Nat) (u : Value), c + f = n → (∀ d, d < c → tw_tt (α 94 d + tw_gI (T d)) = nI 0) → tw_P L xs 2 94 2 [.ref 6, .int (nI c), u] [] σ Q := by
  intro f
  induction f with
  | zero =>
    intro c u hf hQ
    refine tw_sgn 3 (i1 := 5) (ls0 := [.ref 6, .int (nI c), u]) (st0 := [.int (σ 6 4), .int (nI c)]) (σ0 := σ) (ls1 := [.ref 6, .int (nI c), u]) (st1 := [.int (nI n), .int (nI c)]) (σ1 := σ) rfl (rfl) (by simp only [hn6, tw_nadd, tw_nmul]) (rfl) ?_
    refine tw_biT (c := .ge) rfl (by rw [tw_cge, tw_nle (by omega) (by omega)] <;> omega) ?_
    show tw_P L xs _ 94 23 [.ref 6, .int (nI c), u] [] σ _
    refine tw_sg 1 (i1 := 24) (ls1 := [.ref 6, .int (nI c), u]) (st1 := [.int (nI 0)]) (σ1 := σ) rfl ?_
    refine tw_ri rfl (rfl) ?_
    rw [show nI 0 = tw_bl (tw_jm α T n) from (tw_blF (fun ⟨d, hd, hd2⟩ => hd2 (hQ d (by omega)))).symm]
    exact hR
  | succ f ih =>
    intro c u hf hQ
    refine tw_sgn 3 (i1 := 5) (ls0 := [.ref 6, .int (nI c), u]) (st0 := [.int (σ 6 4), .int (nI c)]) (σ0 := σ) (ls1 := [.ref 6, .int (nI c), u]) (st1 := [.int (nI n), .int (nI c)]) (σ1 := σ) rfl (rfl) (by simp only [hn6, tw_nadd, tw_nmul]) (rfl) ?_
    refine tw_biF (c := .ge) rfl (by rw [tw_cge', tw_nle (by omega) (by omega)] <;> omega) ?_
    show tw_P L xs _ 94 6 [.ref 6, .int (nI c), u] [] σ _
    refine tw_sg 2 (i1 := 8) (ls1 := [.ref 6, .int (nI c), u]) (st1 := [.int (nI c), .ref 6]) (σ1 := σ) rfl ?_
    refine tw_cl1 rfl (rfl) (by decide) (tw_e_cardAt1 hn6 h10 (by omega)) ?_
    rintro _ _ ⟨rfl, rfl⟩
    show tw_P L xs _ 94 9 [.ref 6, .int (nI c), u] [.ref (2 * c + 18)] σ _
    refine tw_sg 7 (i1 := 16) (ls1 := [.ref 6, .int (nI c), .ref (2 * c + 18)]) (st1 := [.int (nI c), .ref 8, .ref (2 * c + 18)]) (σ1 := σ) rfl ?_
    refine tw_al (k := 8) (j := c) (len := 10) rfl rfl rfl rfl (rfl) (by omega) (by decide) ?_
    rw [(hT c (by omega)).2]
    refine tw_cl0 1 rfl (tw_inv_ok (y := 9) (b := 1) (st := [.int (nI (T c)), .ref (2 * c + 18)]) (k := (2 * c + 18)) (r := []) rfl rfl (tw_cdO (by omega))) (by decide) ?_
    show tw_P L xs _ 9 0 [.ref (2 * c + 18), .int (nI (T c))] [] σ _
    refine tw_sg 1 (i1 := 1) (ls1 := [.ref (2 * c + 18), .int (nI (T c))]) (st1 := [.ref (2 * c + 18)]) (σ1 := σ) rfl ?_
    refine tw_gf rfl (tw_cdO (by omega)) (tw_cdB (by omega) (by decide)) (v := .int (σ (2 * c + 18) 3)) (tw_cdV3 (by omega)) ?_
    rw [(hA c (by omega))]
    refine tw_sg 1 (i1 := 3) (ls1 := [.ref (2 * c + 18), .int (nI (T c))]) (st1 := [.int (nI (T c)), .int (α 94 c)]) (σ1 := σ) rfl ?_
    refine tw_cl1 rfl (rfl) (by decide) (tw_e_twistOf (hT c (by omega)).1) ?_
    rintro _ _ ⟨rfl, rfl⟩
    show tw_P L xs _ 9 4 [.ref (2 * c + 18), .int (nI (T c))] [.int (tw_gI (T c)), .int (α 94 c)] σ _
    refine tw_sg 1 (i1 := 5) (ls1 := [.ref (2 * c + 18), .int (nI (T c))]) (st1 := [.int ((α 94 c) + (tw_gI (T c)))]) (σ1 := σ) rfl ?_
    refine tw_cl1 rfl (rfl) (by decide) (tw_e_tt) ?_
    rintro _ _ ⟨rfl, rfl⟩
    show tw_P L xs _ 9 6 [.ref (2 * c + 18), .int (nI (T c))] [.int (tw_tt ((α 94 c) + (tw_gI (T c))))] σ _
    refine tw_ri rfl (by unfold tw_tt; split <;> rfl) ?_
    show tw_P L xs _ 94 18 [.ref 6, .int (nI c), .ref (2 * c + 18)] [.int (tw_tt ((α 94 c) + (tw_gI (T c))))] σ _
    refine tw_bz (c := .eq) rfl (fun h1 => ?_) (fun h1 => ?_)
    · rw [tw_ceq] at h1
      refine tw_sgn 2 (i1 := 2) (ls0 := [.ref 6, .int (nI c + nI 1), .ref (2 * c + 18)]) (st0 := []) (σ0 := σ) (ls1 := [.ref 6, .int (nI (c + 1)), .ref (2 * c + 18)]) (st1 := []) (σ1 := σ) rfl (by simp only [tw_nadd, tw_nmul]) (rfl) (rfl) ?_
      refine ih (c + 1) _ (by omega) (fun d hd => ?_)
      by_cases hz : d = c
      · rw [hz]; exact h1
      · exact hQ d (by omega)
    · rw [tw_ceq'] at h1
      refine tw_sg 1 (i1 := 20) (ls1 := [.ref 6, .int (nI c), .ref (2 * c + 18)]) (st1 := [.int (nI 1)]) (σ1 := σ) rfl ?_
      refine tw_ri rfl (rfl) ?_
      rw [show nI 1 = tw_bl (tw_jm α T n) from (tw_blT ⟨c, by omega, h1⟩).symm]
      exact hR
set_option maxHeartbeats 4000000 in
set_option maxRecDepth 100000 in
theorem tw_e_jamC {n : Nat} {α : tw_Mem} {T : Nat → Nat} (hn6 : σ 6 4 = nI n) (h10 : n ≤ 10) (hT : ∀ c, c < n → T c < 4 ∧ σ 8 c = nI (T c)) (hA : ∀ c, c < n → σ (2 * c + 18) 3 = α 94 c) : tw_E L xs 2 94 [.ref 6] σ (fun v σ1 => v = some (.int (tw_bl (tw_jm α T n))) ∧ σ = σ1) := by
  show tw_P L xs _ 94 0 [.ref 6, tw_U, tw_U] [] σ _
  refine tw_sg 2 (i1 := 2) (ls1 := [.ref 6, .int (nI 0), tw_U]) (st1 := []) (σ1 := σ) rfl ?_
  exact tw_l_jamC hn6 h10 hT hA ⟨rfl, rfl⟩ n 0 _ (by omega) (fun d hd => by omega)
set_option maxHeartbeats 4000000 in
set_option maxRecDepth 100000 in
theorem tw_l_jamM {L : Nat} {xs : Nat → Int32} {σ : tw_Mem} {n : Nat} {T : Nat → Nat} (hn89 : σ 89 0 = nI n) (h10 : n ≤ 10) (hT : ∀ c, c < n → T c < 4 ∧ σ 110 c = nI (T c)) {Q : Option Value → tw_Mem → Prop} (hR : Q (some (.int (tw_bl (tw_jm σ T n)))) σ) : ∀ (f : Nat) (c : Nat), c + f = n → (∀ d, d < c → tw_tt (σ 94 d + tw_gI (T d)) = nI 0) → tw_P L xs 1 205 2 [.ref 88, .int (nI c)] [] σ Q := by
  intro f
  induction f with
  | zero =>
    intro c hf hQ
    refine tw_sg 4 (i1 := 6) (ls1 := [.ref 88, .int (nI c)]) (st1 := [.int (nI 0), .ref 89, .int (nI c)]) (σ1 := σ) rfl ?_
    refine tw_al (k := 89) (j := 0) (len := 2) rfl rfl rfl rfl (rfl) (by omega) (by decide) ?_
    rw [hn89]
    refine tw_biT (c := .ge) rfl (by rw [tw_cge, tw_nle (by omega) (by omega)] <;> omega) ?_
    show tw_P L xs _ 205 26 [.ref 88, .int (nI c)] [] σ _
    refine tw_sg 1 (i1 := 27) (ls1 := [.ref 88, .int (nI c)]) (st1 := [.int (nI 0)]) (σ1 := σ) rfl ?_
    refine tw_ri rfl (rfl) ?_
    rw [show nI 0 = tw_bl (tw_jm σ T n) from (tw_blF (fun ⟨d, hd, hd2⟩ => hd2 (hQ d (by omega)))).symm]
    exact hR
  | succ f ih =>
    intro c hf hQ
    refine tw_sg 4 (i1 := 6) (ls1 := [.ref 88, .int (nI c)]) (st1 := [.int (nI 0), .ref 89, .int (nI c)]) (σ1 := σ) rfl ?_
    refine tw_al (k := 89) (j := 0) (len := 2) rfl rfl rfl rfl (rfl) (by omega) (by decide) ?_
    rw [hn89]
    refine tw_biF (c := .ge) rfl (by rw [tw_cge', tw_nle (by omega) (by omega)] <;> omega) ?_
    show tw_P L xs _ 205 8 [.ref 88, .int (nI c)] [] σ _
    refine tw_sg 3 (i1 := 11) (ls1 := [.ref 88, .int (nI c)]) (st1 := [.int (nI c), .ref 94]) (σ1 := σ) rfl ?_
    refine tw_al (k := 94) (j := c) (len := 20) rfl rfl rfl rfl (rfl) (by omega) (by decide) ?_
    refine tw_sg 3 (i1 := 15) (ls1 := [.ref 88, .int (nI c)]) (st1 := [.int (nI c), .ref 110, .int (σ 94 c)]) (σ1 := σ) rfl ?_
    refine tw_al (k := 110) (j := c) (len := 10) rfl rfl rfl rfl (rfl) (by omega) (by decide) ?_
    rw [(hT c (by omega)).2]
    refine tw_cl1 rfl (rfl) (by decide) (tw_e_grown (hT c (by omega)).1) ?_
    rintro _ _ ⟨rfl, rfl⟩
    show tw_P L xs _ 205 17 [.ref 88, .int (nI c)] [.int (tw_gI (T c)), .int (σ 94 c)] σ _
    refine tw_sg 3 (i1 := 20) (ls1 := [.ref 88, .int (nI c)]) (st1 := [.int (nI 99), .int (-99), .int ((σ 94 c) + (tw_gI (T c)))]) (σ1 := σ) rfl ?_
    refine tw_cl1 rfl (rfl) (by decide) (tw_e_ti) ?_
    rintro _ _ ⟨rfl, rfl⟩
    show tw_P L xs _ 205 21 [.ref 88, .int (nI c)] [.int (tw_ti ((σ 94 c) + (tw_gI (T c))))] σ _
    refine tw_bz (c := .ne) rfl (fun h1 => ?_) (fun h1 => ?_)
    · rw [tw_cne] at h1
      refine tw_sgn 2 (i1 := 2) (ls0 := [.ref 88, .int (nI c + nI 1)]) (st0 := []) (σ0 := σ) (ls1 := [.ref 88, .int (nI (c + 1))]) (st1 := []) (σ1 := σ) rfl (by simp only [tw_nadd, tw_nmul]) (rfl) (rfl) ?_
      refine ih (c + 1) (by omega) (fun d hd => ?_)
      by_cases hz : d = c
      · rw [hz]; exact Classical.byContradiction (fun g => h1 (tw_tti.mpr g))
      · exact hQ d (by omega)
    · rw [tw_cne'] at h1
      refine tw_sg 1 (i1 := 23) (ls1 := [.ref 88, .int (nI c)]) (st1 := [.int (nI 1)]) (σ1 := σ) rfl ?_
      refine tw_ri rfl (rfl) ?_
      rw [show nI 1 = tw_bl (tw_jm σ T n) from (tw_blT ⟨c, by omega, tw_tti.mp h1⟩).symm]
      exact hR
set_option maxHeartbeats 4000000 in
set_option maxRecDepth 100000 in
theorem tw_e_jamM {n : Nat} {T : Nat → Nat} (hn89 : σ 89 0 = nI n) (h10 : n ≤ 10) (hT : ∀ c, c < n → T c < 4 ∧ σ 110 c = nI (T c)) : tw_E L xs 1 205 [.ref 88] σ (fun v σ1 => v = some (.int (tw_bl (tw_jm σ T n))) ∧ σ = σ1) := by
  show tw_P L xs _ 205 0 [.ref 88, tw_U] [] σ _
  refine tw_sg 2 (i1 := 2) (ls1 := [.ref 88, .int (nI 0)]) (st1 := []) (σ1 := σ) rfl ?_
  exact tw_l_jamM hn89 h10 hT ⟨rfl, rfl⟩ n 0 (by omega) (fun d hd => by omega)
theorem tw_wkC_step {σ0 σ : tw_Mem} {r c : Nat} {T P q : Nat → Nat} (hI : tw_wkC σ0 σ r T P q c) : tw_wkC σ0 (tw_upd (tw_upd (tw_upd (tw_upd (tw_upd (tw_upd σ (2 * c + 18) 3 (σ (2 * c + 18) 3 + tw_gI (T c))) (2 * c + 18) 2 (nI (tw_pl (P c) (T c)))) 10 ((r * 10 + c) * 4 + 0) (σ (2 * c + 19) (tw_pl (P c) (T c)))) 10 ((r * 10 + c) * 4 + 1) (σ (2 * c + 19) ((tw_pl (P c) (T c) + 2) % 4))) 10 ((r * 10 + c) * 4 + 2) (nI (tw_ln (T c) (q c)))) 10 ((r * 10 + c) * 4 + 3) (nI (T c))) r T P q (c + 1) := by
  refine ⟨fun k j h1 h2 => ?_, fun d hd => ?_⟩
  · rw [tw_upd_off (by omega), tw_upd_off (by omega), tw_upd_off (by omega), tw_upd_off (by omega), tw_upd_off (by omega), tw_upd_off (by omega)]
    exact hI.1 k j (by omega) (by omega)
  · by_cases hz : d = c
    · subst hz
      have e3 := hI.1 (2 * d + 18) 3 (by omega) (by omega)
      have eh : ∀ j, σ (2 * d + 19) j = σ0 (2 * d + 19) j := fun j => hI.1 _ j (by omega) (by omega)
      refine ⟨?_, ?_, ?_, ?_, ?_, ?_⟩
      · rw [← e3, tw_upd_off (by omega), tw_upd_off (by omega), tw_upd_off (by omega), tw_upd_off (by omega), tw_upd_off (by omega), tw_upd_at]
      · rw [tw_upd_off (by omega), tw_upd_off (by omega), tw_upd_off (by omega), tw_upd_off (by omega), tw_upd_at]
      · rw [tw_upd_off (by omega), tw_upd_off (by omega), tw_upd_off (by omega), tw_upd_at, eh]
      · rw [tw_upd_off (by omega), tw_upd_off (by omega), tw_upd_at, eh]
      · rw [tw_upd_off (by omega), tw_upd_at]
      · rw [tw_upd_at]
    · obtain ⟨g1, g2, g3, g4, g5, g6⟩ := hI.2 d (by omega)
      refine ⟨?_, ?_, ?_, ?_, ?_, ?_⟩
      all_goals rw [tw_upd_off (by omega), tw_upd_off (by omega), tw_upd_off (by omega), tw_upd_off (by omega), tw_upd_off (by omega), tw_upd_off (by omega)]
      · exact g1
      · exact g2
      · exact g3
      · exact g4
      · exact g5
      · exact g6
set_option maxHeartbeats 4000000 in
set_option maxRecDepth 100000 in
theorem tw_l_pickC {L : Nat} {xs : Nat → Int32} {Q : Option Value → tw_Mem → Prop} {σ0 : tw_Mem} {n r : Nat} {T P q : Nat → Nat} (h6 : σ0 6 4 = nI n) (h9 : σ0 9 3 = nI r) (hr : r < 50) (h10 : n ≤ 10) (hT : ∀ c, c < n → T c < 4 ∧ σ0 8 c = nI (T c)) (hP : ∀ c, c < n → P c < 4 ∧ σ0 (2 * c + 18) 2 = nI (P c)) (hq : ∀ c, c < n → q c < 2 ∧ σ0 (2 * c + 18) 1 = nI (q c)) : ∀ (f : Nat) (c : Nat) (σ : tw_Mem) (u : Value), c + f = n → tw_wkC σ0 σ r T P q c → (∀ (τ : tw_Mem) (u : Value), tw_wkC σ0 τ r T P q n → tw_P L xs 5 93 32 [.ref 6, .int (nI n), u] [] τ Q) → tw_P L xs 5 93 12 [.ref 6, .int (nI c), u] [] σ Q := by
  intro f
  induction f with
  | zero =>
    intro c σ u hf hI hQ
    have e6 : σ 6 4 = nI n := by rw [hI.1 _ _ (by omega) (by omega)]; exact h6
    have e9 : σ 9 3 = nI r := by rw [hI.1 _ _ (by omega) (by omega)]; exact h9
    refine tw_sgn 3 (i1 := 15) (ls0 := [.ref 6, .int (nI c), u]) (st0 := [.int (σ 6 4), .int (nI c)]) (σ0 := σ) (ls1 := [.ref 6, .int (nI c), u]) (st1 := [.int (nI n), .int (nI c)]) (σ1 := σ) rfl (rfl) (by simp only [e6, tw_nadd, tw_nmul]) (rfl) ?_
    refine tw_biT (c := .ge) rfl (by rw [tw_cge, tw_nle (by omega) (by omega)] <;> omega) ?_
    show tw_P L xs _ 93 32 [.ref 6, .int (nI c), u] [] σ _
    have hz : c = n := hf
    subst hz
    exact hQ _ _ hI
  | succ f ih =>
    intro c σ u hf hI hQ
    have e6 : σ 6 4 = nI n := by rw [hI.1 _ _ (by omega) (by omega)]; exact h6
    have e9 : σ 9 3 = nI r := by rw [hI.1 _ _ (by omega) (by omega)]; exact h9
    have hcn : c < n := by omega
    have e8 : σ 8 c = nI (T c) := by rw [hI.1 _ _ (by omega) (by omega)]; exact (hT c hcn).2
    have eP : σ (2 * c + 18) 2 = nI (P c) := by rw [hI.1 _ _ (by omega) (by omega)]; exact (hP c hcn).2
    have eq : σ (2 * c + 18) 1 = nI (q c) := by rw [hI.1 _ _ (by omega) (by omega)]; exact (hq c hcn).2
    refine tw_sgn 3 (i1 := 15) (ls0 := [.ref 6, .int (nI c), u]) (st0 := [.int (σ 6 4), .int (nI c)]) (σ0 := σ) (ls1 := [.ref 6, .int (nI c), u]) (st1 := [.int (nI n), .int (nI c)]) (σ1 := σ) rfl (rfl) (by simp only [e6, tw_nadd, tw_nmul]) (rfl) ?_
    refine tw_biF (c := .ge) rfl (by rw [tw_cge', tw_nle (by omega) (by omega)] <;> omega) ?_
    show tw_P L xs _ 93 16 [.ref 6, .int (nI c), u] [] σ _
    refine tw_sg 2 (i1 := 18) (ls1 := [.ref 6, .int (nI c), u]) (st1 := [.int (nI c), .ref 6]) (σ1 := σ) rfl ?_
    refine tw_cl1 rfl (rfl) (by decide) (tw_e_cardAt1 e6 h10 (by omega)) ?_
    rintro _ _ ⟨rfl, rfl⟩
    show tw_P L xs _ 93 19 [.ref 6, .int (nI c), u] [.ref (2 * c + 18)] σ _
    refine tw_sg 9 (i1 := 28) (ls1 := [.ref 6, .int (nI c), .ref (2 * c + 18)]) (st1 := [.int (nI c), .ref 8, .ref (2 * c + 18), .int (nI c), .ref 6]) (σ1 := σ) rfl ?_
    refine tw_al (k := 8) (j := c) (len := 10) rfl rfl rfl rfl (rfl) (by omega) (by decide) ?_
    rw [e8]
    refine tw_cl1 rfl (rfl) (by decide) (tw_e_weaveCard (r := r) (c := c) (p := P c) (e := tw_pl (P c) (T c)) (e2 := (tw_pl (P c) (T c) + 2) % 4) (t := T c) (q := q c) e9 hr (by omega) (hT c hcn).1 tw_pl_lt (Nat.mod_lt _ (by decide)) (hq c hcn).1 eP eq (tw_fm_pl _ (hP c hcn).1 _ (hT c hcn).1) (tw_fm_2 _ tw_pl_lt)) ?_
    rintro _ _ ⟨rfl, rfl⟩
    show tw_P L xs _ 93 30 [.ref 6, .int (nI c), .ref (2 * c + 18)] [] (tw_upd (tw_upd (tw_upd (tw_upd (tw_upd (tw_upd σ (2 * c + 18) 3 (σ (2 * c + 18) 3 + tw_gI (T c))) (2 * c + 18) 2 (nI (tw_pl (P c) (T c)))) 10 ((r * 10 + c) * 4 + 0) (σ (2 * c + 19) (tw_pl (P c) (T c)))) 10 ((r * 10 + c) * 4 + 1) (σ (2 * c + 19) ((tw_pl (P c) (T c) + 2) % 4))) 10 ((r * 10 + c) * 4 + 2) (nI (tw_ln (T c) (q c)))) 10 ((r * 10 + c) * 4 + 3) (nI (T c))) _
    refine tw_sgn 2 (i1 := 12) (ls0 := [.ref 6, .int (nI c + nI 1), .ref (2 * c + 18)]) (st0 := []) (σ0 := (tw_upd (tw_upd (tw_upd (tw_upd (tw_upd (tw_upd σ (2 * c + 18) 3 (σ (2 * c + 18) 3 + tw_gI (T c))) (2 * c + 18) 2 (nI (tw_pl (P c) (T c)))) 10 ((r * 10 + c) * 4 + 0) (σ (2 * c + 19) (tw_pl (P c) (T c)))) 10 ((r * 10 + c) * 4 + 1) (σ (2 * c + 19) ((tw_pl (P c) (T c) + 2) % 4))) 10 ((r * 10 + c) * 4 + 2) (nI (tw_ln (T c) (q c)))) 10 ((r * 10 + c) * 4 + 3) (nI (T c)))) (ls1 := [.ref 6, .int (nI (c + 1)), .ref (2 * c + 18)]) (st1 := []) (σ1 := (tw_upd (tw_upd (tw_upd (tw_upd (tw_upd (tw_upd σ (2 * c + 18) 3 (σ (2 * c + 18) 3 + tw_gI (T c))) (2 * c + 18) 2 (nI (tw_pl (P c) (T c)))) 10 ((r * 10 + c) * 4 + 0) (σ (2 * c + 19) (tw_pl (P c) (T c)))) 10 ((r * 10 + c) * 4 + 1) (σ (2 * c + 19) ((tw_pl (P c) (T c) + 2) % 4))) 10 ((r * 10 + c) * 4 + 2) (nI (tw_ln (T c) (q c)))) 10 ((r * 10 + c) * 4 + 3) (nI (T c)))) rfl (by simp only [tw_nadd, tw_nmul]) (rfl) (rfl) ?_
    exact ih (c + 1) _ _ (by omega) (tw_wkC_step hI) hQ
theorem tw_wkM_step {σ0 σ : tw_Mem} {r c : Nat} {T P q : Nat → Nat} (hI : tw_wkM σ0 σ r T P q c) : tw_wkM σ0 (tw_upd (tw_upd (tw_upd (tw_upd (tw_upd (tw_upd σ 93 c (nI (tw_pl (P c) (T c)))) 94 c (σ 94 c + tw_gI (T c))) 98 (10 * r + c) (nI (T c))) 95 (10 * r + c) (σ 91 (4 * c + tw_pl (P c) (T c)))) 96 (10 * r + c) (σ 91 (4 * c + (tw_pl (P c) (T c) + 2) % 4))) 97 (10 * r + c) (nI (tw_ln (T c) (q c)))) r T P q (c + 1) := by
  refine ⟨fun k j h1 h2 => ?_, fun d hd => ?_⟩
  · rw [tw_upd_off (by omega), tw_upd_off (by omega), tw_upd_off (by omega), tw_upd_off (by omega), tw_upd_off (by omega), tw_upd_off (by omega)]
    exact hI.1 k j (by omega) (by omega)
  · by_cases hz : d = c
    · subst hz
      have e3 := hI.1 94 d (by omega) (by omega)
      have eh : ∀ j, σ 91 j = σ0 91 j := fun j => hI.1 _ j (by omega) (by omega)
      refine ⟨?_, ?_, ?_, ?_, ?_, ?_⟩
      · rw [← e3, tw_upd_off (by omega), tw_upd_off (by omega), tw_upd_off (by omega), tw_upd_off (by omega), tw_upd_at]
      · rw [tw_upd_off (by omega), tw_upd_off (by omega), tw_upd_off (by omega), tw_upd_off (by omega), tw_upd_off (by omega), tw_upd_at]
      · rw [tw_upd_off (by omega), tw_upd_off (by omega), tw_upd_at, eh]
      · rw [tw_upd_off (by omega), tw_upd_at, eh]
      · rw [tw_upd_at]
      · rw [tw_upd_off (by omega), tw_upd_off (by omega), tw_upd_off (by omega), tw_upd_at]
    · obtain ⟨g1, g2, g3, g4, g5, g6⟩ := hI.2 d (by omega)
      refine ⟨?_, ?_, ?_, ?_, ?_, ?_⟩
      all_goals rw [tw_upd_off (by omega), tw_upd_off (by omega), tw_upd_off (by omega), tw_upd_off (by omega), tw_upd_off (by omega), tw_upd_off (by omega)]
      · exact g1
      · exact g2
      · exact g3
      · exact g4
      · exact g5
      · exact g6
theorem tw_mI_le {t : Nat} : tw_mI t ≤ 3 := by unfold tw_mI; split <;> (try split) <;> (try split) <;> omega
set_option maxHeartbeats 4000000 in
set_option maxRecDepth 100000 in
theorem tw_l_pickM {L : Nat} {xs : Nat → Int32} {Q : Option Value → tw_Mem → Prop} {σ0 : tw_Mem} {n r : Nat} {T P q : Nat → Nat} (h89 : σ0 89 0 = nI n) (hr : r < 50) (h10 : n ≤ 10) (hT : ∀ c, c < n → T c < 4 ∧ σ0 110 c = nI (T c)) (hP : ∀ c, c < n → P c < 4 ∧ σ0 93 c = nI (P c)) (hq : ∀ c, c < n → q c < 2 ∧ σ0 92 c = nI (q c)) : ∀ (f : Nat) (c : Nat) (σ : tw_Mem) (u : Value), c + f = n → tw_wkM σ0 σ r T P q c → (∀ (τ : tw_Mem) (u : Value), tw_wkM σ0 τ r T P q n → tw_P L xs 1 206 128 [.ref 88, .int (nI r), .int (nI n), u] [] τ Q) → tw_P L xs 1 206 7 [.ref 88, .int (nI r), .int (nI c), u] [] σ Q := by
  intro f
  induction f with
  | zero =>
    intro c σ u hf hI hQ
    have e89 : σ 89 0 = nI n := by rw [hI.1 _ _ (by omega) (by omega)]; exact h89
    refine tw_sg 4 (i1 := 11) (ls1 := [.ref 88, .int (nI r), .int (nI c), u]) (st1 := [.int (nI 0), .ref 89, .int (nI c)]) (σ1 := σ) rfl ?_
    refine tw_al (k := 89) (j := 0) (len := 2) rfl rfl rfl rfl (rfl) (by omega) (by decide) ?_
    rw [e89]
    refine tw_biT (c := .ge) rfl (by rw [tw_cge, tw_nle (by omega) (by omega)] <;> omega) ?_
    show tw_P L xs _ 206 128 [.ref 88, .int (nI r), .int (nI c), u] [] σ _
    have hz : c = n := hf
    subst hz
    exact hQ _ _ hI
  | succ f ih =>
    intro c σ u hf hI hQ
    have e89 : σ 89 0 = nI n := by rw [hI.1 _ _ (by omega) (by omega)]; exact h89
    have hcn : c < n := by omega
    have e110 : σ 110 c = nI (T c) := by rw [hI.1 _ _ (by omega) (by omega)]; exact (hT c hcn).2
    have eP : σ 93 c = nI (P c) := by rw [hI.1 _ _ (by omega) (by omega)]; exact (hP c hcn).2
    have eq : σ 92 c = nI (q c) := by rw [hI.1 _ _ (by omega) (by omega)]; exact (hq c hcn).2
    have hPc := (hP c hcn).1
    have hTc := (hT c hcn).1
    have hqc := (hq c hcn).1
    have hpl := @tw_pl_lt (P c) (T c)
    have hmI : tw_mI (T c) ≤ 3 := tw_mI_le
    refine tw_sg 4 (i1 := 11) (ls1 := [.ref 88, .int (nI r), .int (nI c), u]) (st1 := [.int (nI 0), .ref 89, .int (nI c)]) (σ1 := σ) rfl ?_
    refine tw_al (k := 89) (j := 0) (len := 2) rfl rfl rfl rfl (rfl) (by omega) (by decide) ?_
    rw [e89]
    refine tw_biF (c := .ge) rfl (by rw [tw_cge', tw_nle (by omega) (by omega)] <;> omega) ?_
    show tw_P L xs _ 206 13 [.ref 88, .int (nI r), .int (nI c), u] [] σ _
    refine tw_sg 3 (i1 := 16) (ls1 := [.ref 88, .int (nI r), .int (nI c), u]) (st1 := [.int (nI c), .ref 110]) (σ1 := σ) rfl ?_
    refine tw_al (k := 110) (j := c) (len := 10) rfl rfl rfl rfl (rfl) (by omega) (by decide) ?_
    rw [e110]
    refine tw_sg 7 (i1 := 24) (ls1 := [.ref 88, .int (nI r), .int (nI c), .int (nI (T c))]) (st1 := [.int (nI c), .ref 93, .int (nI c), .ref 93]) (σ1 := σ) rfl ?_
    refine tw_al (k := 93) (j := c) (len := 20) rfl rfl rfl rfl (rfl) (by omega) (by decide) ?_
    rw [eP]
    refine tw_sg 1 (i1 := 26) (ls1 := [.ref 88, .int (nI r), .int (nI c), .int (nI (T c))]) (st1 := [.int (nI (T c)), .int (nI (P c)), .int (nI c), .ref 93]) (σ1 := σ) rfl ?_
    refine tw_cl1 rfl (rfl) (by decide) (tw_e_moved hTc) ?_
    rintro _ _ ⟨rfl, rfl⟩
    show tw_P L xs _ 206 27 [.ref 88, .int (nI r), .int (nI c), .int (nI (T c))] [.int (nI (tw_mI (T c))), .int (nI (P c)), .int (nI c), .ref 93] σ _
    refine tw_sgn 2 (i1 := 29) (ls0 := [.ref 88, .int (nI r), .int (nI c), .int (nI (T c))]) (st0 := [.int (nI 4), .int (nI (P c) + nI (tw_mI (T c))), .int (nI c), .ref 93]) (σ0 := σ) (ls1 := [.ref 88, .int (nI r), .int (nI c), .int (nI (T c))]) (st1 := [.int (nI 4), .int (nI ((P c) + (tw_mI (T c)))), .int (nI c), .ref 93]) (σ1 := σ) rfl (rfl) (by simp only [tw_nadd, tw_nmul]) (rfl) ?_
    refine tw_rm rfl (by decide) ?_
    rw [show nI (P c + tw_mI (T c)) - nI (P c + tw_mI (T c)) / nI 4 * nI 4 = nI (tw_pl (P c) (T c)) from tw_nrem (by omega) (by decide)]
    refine tw_as (k := 93) (j := c) (len := 20) rfl rfl rfl (rfl) (by omega) (by decide) ?_
    refine tw_sg 4 (i1 := 35) (ls1 := [.ref 88, .int (nI r), .int (nI c), .int (nI (T c))]) (st1 := [.int (nI c), .ref 94, .int (nI c), .ref 94]) (σ1 := (tw_upd σ 93 c (nI (tw_pl (P c) (T c))))) rfl ?_
    refine tw_al (k := 94) (j := c) (len := 20) rfl rfl rfl rfl (rfl) (by omega) (by decide) ?_
    rw [show (tw_upd σ 93 c (nI (tw_pl (P c) (T c)))) 94 c = σ 94 c from by repeat (first | exact rfl | exact tw_upd_at | rw [tw_upd_off (by omega)])]
    refine tw_sg 1 (i1 := 37) (ls1 := [.ref 88, .int (nI r), .int (nI c), .int (nI (T c))]) (st1 := [.int (nI (T c)), .int (σ 94 c), .int (nI c), .ref 94]) (σ1 := (tw_upd σ 93 c (nI (tw_pl (P c) (T c))))) rfl ?_
    refine tw_cl1 rfl (rfl) (by decide) (tw_e_grown hTc) ?_
    rintro _ _ ⟨rfl, rfl⟩
    show tw_P L xs _ 206 38 [.ref 88, .int (nI r), .int (nI c), .int (nI (T c))] [.int (tw_gI (T c)), .int (σ 94 c), .int (nI c), .ref 94] (tw_upd σ 93 c (nI (tw_pl (P c) (T c)))) _
    refine tw_sg 1 (i1 := 39) (ls1 := [.ref 88, .int (nI r), .int (nI c), .int (nI (T c))]) (st1 := [.int ((σ 94 c) + (tw_gI (T c))), .int (nI c), .ref 94]) (σ1 := (tw_upd σ 93 c (nI (tw_pl (P c) (T c))))) rfl ?_
    refine tw_as (k := 94) (j := c) (len := 20) rfl rfl rfl (rfl) (by omega) (by decide) ?_
    refine tw_sgn 8 (i1 := 48) (ls0 := [.ref 88, .int (nI r), .int (nI c), .int (nI (T c))]) (st0 := [.int (nI (T c)), .int ((nI 10 * nI r) + nI c), .ref 98]) (σ0 := (tw_upd (tw_upd σ 93 c (nI (tw_pl (P c) (T c)))) 94 c ((σ 94 c) + (tw_gI (T c))))) (ls1 := [.ref 88, .int (nI r), .int (nI c), .int (nI (T c))]) (st1 := [.int (nI (T c)), .int (nI ((10 * r) + c)), .ref 98]) (σ1 := (tw_upd (tw_upd σ 93 c (nI (tw_pl (P c) (T c)))) 94 c ((σ 94 c) + (tw_gI (T c))))) rfl (rfl) (by simp only [tw_nadd, tw_nmul]) (rfl) ?_
    refine tw_as (k := 98) (j := ((10 * r) + c)) (len := 1000) rfl rfl rfl (rfl) (by omega) (by decide) ?_
    refine tw_sgn 15 (i1 := 64) (ls0 := [.ref 88, .int (nI r), .int (nI c), .int (nI (T c))]) (st0 := [.int (nI c), .ref 93, .int (nI 4 * nI c), .ref 91, .int ((nI 10 * nI r) + nI c), .ref 95]) (σ0 := (tw_upd (tw_upd (tw_upd σ 93 c (nI (tw_pl (P c) (T c)))) 94 c ((σ 94 c) + (tw_gI (T c)))) 98 ((10 * r) + c) (nI (T c)))) (ls1 := [.ref 88, .int (nI r), .int (nI c), .int (nI (T c))]) (st1 := [.int (nI c), .ref 93, .int (nI (4 * c)), .ref 91, .int (nI ((10 * r) + c)), .ref 95]) (σ1 := (tw_upd (tw_upd (tw_upd σ 93 c (nI (tw_pl (P c) (T c)))) 94 c ((σ 94 c) + (tw_gI (T c)))) 98 ((10 * r) + c) (nI (T c)))) rfl (rfl) (by simp only [tw_nadd, tw_nmul]) (rfl) ?_
    refine tw_al (k := 93) (j := c) (len := 20) rfl rfl rfl rfl (rfl) (by omega) (by decide) ?_
    rw [show (tw_upd (tw_upd (tw_upd σ 93 c (nI (tw_pl (P c) (T c)))) 94 c ((σ 94 c) + (tw_gI (T c)))) 98 ((10 * r) + c) (nI (T c))) 93 c = nI (tw_pl (P c) (T c)) from by repeat (first | exact rfl | exact tw_upd_at | rw [tw_upd_off (by omega)])]
    refine tw_sgn 1 (i1 := 66) (ls0 := [.ref 88, .int (nI r), .int (nI c), .int (nI (T c))]) (st0 := [.int (nI (4 * c) + nI (tw_pl (P c) (T c))), .ref 91, .int (nI ((10 * r) + c)), .ref 95]) (σ0 := (tw_upd (tw_upd (tw_upd σ 93 c (nI (tw_pl (P c) (T c)))) 94 c ((σ 94 c) + (tw_gI (T c)))) 98 ((10 * r) + c) (nI (T c)))) (ls1 := [.ref 88, .int (nI r), .int (nI c), .int (nI (T c))]) (st1 := [.int (nI ((4 * c) + (tw_pl (P c) (T c)))), .ref 91, .int (nI ((10 * r) + c)), .ref 95]) (σ1 := (tw_upd (tw_upd (tw_upd σ 93 c (nI (tw_pl (P c) (T c)))) 94 c ((σ 94 c) + (tw_gI (T c)))) 98 ((10 * r) + c) (nI (T c)))) rfl (rfl) (by simp only [tw_nadd, tw_nmul]) (rfl) ?_
    refine tw_al (k := 91) (j := ((4 * c) + (tw_pl (P c) (T c)))) (len := 80) rfl rfl rfl rfl (rfl) (by omega) (by decide) ?_
    rw [show (tw_upd (tw_upd (tw_upd σ 93 c (nI (tw_pl (P c) (T c)))) 94 c ((σ 94 c) + (tw_gI (T c)))) 98 ((10 * r) + c) (nI (T c))) 91 ((4 * c) + (tw_pl (P c) (T c))) = σ 91 ((4 * c) + (tw_pl (P c) (T c))) from by repeat (first | exact rfl | exact tw_upd_at | rw [tw_upd_off (by omega)])]
    refine tw_as (k := 95) (j := ((10 * r) + c)) (len := 1000) rfl rfl rfl (rfl) (by omega) (by decide) ?_
    refine tw_sgn 15 (i1 := 83) (ls0 := [.ref 88, .int (nI r), .int (nI c), .int (nI (T c))]) (st0 := [.int (nI c), .ref 93, .int (nI 4 * nI c), .ref 91, .int ((nI 10 * nI r) + nI c), .ref 96]) (σ0 := (tw_upd (tw_upd (tw_upd (tw_upd σ 93 c (nI (tw_pl (P c) (T c)))) 94 c ((σ 94 c) + (tw_gI (T c)))) 98 ((10 * r) + c) (nI (T c))) 95 ((10 * r) + c) (σ 91 ((4 * c) + (tw_pl (P c) (T c)))))) (ls1 := [.ref 88, .int (nI r), .int (nI c), .int (nI (T c))]) (st1 := [.int (nI c), .ref 93, .int (nI (4 * c)), .ref 91, .int (nI ((10 * r) + c)), .ref 96]) (σ1 := (tw_upd (tw_upd (tw_upd (tw_upd σ 93 c (nI (tw_pl (P c) (T c)))) 94 c ((σ 94 c) + (tw_gI (T c)))) 98 ((10 * r) + c) (nI (T c))) 95 ((10 * r) + c) (σ 91 ((4 * c) + (tw_pl (P c) (T c)))))) rfl (rfl) (by simp only [tw_nadd, tw_nmul]) (rfl) ?_
    refine tw_al (k := 93) (j := c) (len := 20) rfl rfl rfl rfl (rfl) (by omega) (by decide) ?_
    rw [show (tw_upd (tw_upd (tw_upd (tw_upd σ 93 c (nI (tw_pl (P c) (T c)))) 94 c ((σ 94 c) + (tw_gI (T c)))) 98 ((10 * r) + c) (nI (T c))) 95 ((10 * r) + c) (σ 91 ((4 * c) + (tw_pl (P c) (T c))))) 93 c = nI (tw_pl (P c) (T c)) from by repeat (first | exact rfl | exact tw_upd_at | rw [tw_upd_off (by omega)])]
    refine tw_sgn 3 (i1 := 87) (ls0 := [.ref 88, .int (nI r), .int (nI c), .int (nI (T c))]) (st0 := [.int (nI 4), .int (nI (tw_pl (P c) (T c)) + nI 2), .int (nI (4 * c)), .ref 91, .int (nI ((10 * r) + c)), .ref 96]) (σ0 := (tw_upd (tw_upd (tw_upd (tw_upd σ 93 c (nI (tw_pl (P c) (T c)))) 94 c ((σ 94 c) + (tw_gI (T c)))) 98 ((10 * r) + c) (nI (T c))) 95 ((10 * r) + c) (σ 91 ((4 * c) + (tw_pl (P c) (T c)))))) (ls1 := [.ref 88, .int (nI r), .int (nI c), .int (nI (T c))]) (st1 := [.int (nI 4), .int (nI ((tw_pl (P c) (T c)) + 2)), .int (nI (4 * c)), .ref 91, .int (nI ((10 * r) + c)), .ref 96]) (σ1 := (tw_upd (tw_upd (tw_upd (tw_upd σ 93 c (nI (tw_pl (P c) (T c)))) 94 c ((σ 94 c) + (tw_gI (T c)))) 98 ((10 * r) + c) (nI (T c))) 95 ((10 * r) + c) (σ 91 ((4 * c) + (tw_pl (P c) (T c)))))) rfl (rfl) (by simp only [tw_nadd, tw_nmul]) (rfl) ?_
    refine tw_rm rfl (by decide) ?_
    rw [show nI (tw_pl (P c) (T c) + 2) - nI (tw_pl (P c) (T c) + 2) / nI 4 * nI 4 = nI ((tw_pl (P c) (T c) + 2) % 4) from tw_nrem (by omega) (by decide)]
    refine tw_sgn 1 (i1 := 89) (ls0 := [.ref 88, .int (nI r), .int (nI c), .int (nI (T c))]) (st0 := [.int (nI (4 * c) + nI ((tw_pl (P c) (T c) + 2) % 4)), .ref 91, .int (nI ((10 * r) + c)), .ref 96]) (σ0 := (tw_upd (tw_upd (tw_upd (tw_upd σ 93 c (nI (tw_pl (P c) (T c)))) 94 c ((σ 94 c) + (tw_gI (T c)))) 98 ((10 * r) + c) (nI (T c))) 95 ((10 * r) + c) (σ 91 ((4 * c) + (tw_pl (P c) (T c)))))) (ls1 := [.ref 88, .int (nI r), .int (nI c), .int (nI (T c))]) (st1 := [.int (nI ((4 * c) + ((tw_pl (P c) (T c) + 2) % 4))), .ref 91, .int (nI ((10 * r) + c)), .ref 96]) (σ1 := (tw_upd (tw_upd (tw_upd (tw_upd σ 93 c (nI (tw_pl (P c) (T c)))) 94 c ((σ 94 c) + (tw_gI (T c)))) 98 ((10 * r) + c) (nI (T c))) 95 ((10 * r) + c) (σ 91 ((4 * c) + (tw_pl (P c) (T c)))))) rfl (rfl) (by simp only [tw_nadd, tw_nmul]) (rfl) ?_
    refine tw_al (k := 91) (j := ((4 * c) + ((tw_pl (P c) (T c) + 2) % 4))) (len := 80) rfl rfl rfl rfl (rfl) (by omega) (by decide) ?_
    rw [show (tw_upd (tw_upd (tw_upd (tw_upd σ 93 c (nI (tw_pl (P c) (T c)))) 94 c ((σ 94 c) + (tw_gI (T c)))) 98 ((10 * r) + c) (nI (T c))) 95 ((10 * r) + c) (σ 91 ((4 * c) + (tw_pl (P c) (T c))))) 91 ((4 * c) + ((tw_pl (P c) (T c) + 2) % 4)) = σ 91 ((4 * c) + ((tw_pl (P c) (T c) + 2) % 4)) from by repeat (first | exact rfl | exact tw_upd_at | rw [tw_upd_off (by omega)])]
    refine tw_as (k := 96) (j := ((10 * r) + c)) (len := 1000) rfl rfl rfl (rfl) (by omega) (by decide) ?_
    refine tw_sgn 7 (i1 := 98) (ls0 := [.ref 88, .int (nI r), .int (nI c), .int (nI (T c))]) (st0 := [.int ((nI 10 * nI r) + nI c), .ref 97]) (σ0 := (tw_upd (tw_upd (tw_upd (tw_upd (tw_upd σ 93 c (nI (tw_pl (P c) (T c)))) 94 c ((σ 94 c) + (tw_gI (T c)))) 98 ((10 * r) + c) (nI (T c))) 95 ((10 * r) + c) (σ 91 ((4 * c) + (tw_pl (P c) (T c))))) 96 ((10 * r) + c) (σ 91 ((4 * c) + ((tw_pl (P c) (T c) + 2) % 4))))) (ls1 := [.ref 88, .int (nI r), .int (nI c), .int (nI (T c))]) (st1 := [.int (nI ((10 * r) + c)), .ref 97]) (σ1 := (tw_upd (tw_upd (tw_upd (tw_upd (tw_upd σ 93 c (nI (tw_pl (P c) (T c)))) 94 c ((σ 94 c) + (tw_gI (T c)))) 98 ((10 * r) + c) (nI (T c))) 95 ((10 * r) + c) (σ 91 ((4 * c) + (tw_pl (P c) (T c))))) 96 ((10 * r) + c) (σ 91 ((4 * c) + ((tw_pl (P c) (T c) + 2) % 4))))) rfl (rfl) (by simp only [tw_nadd, tw_nmul]) (rfl) ?_
    have hK : tw_P L xs 1 206 125 [.ref 88, .int (nI r), .int (nI c), .int (nI (T c))] [.int (nI (tw_ln (T c) (q c))), .int (nI ((10 * r) + c)), .ref 97] (tw_upd (tw_upd (tw_upd (tw_upd (tw_upd σ 93 c (nI (tw_pl (P c) (T c)))) 94 c ((σ 94 c) + (tw_gI (T c)))) 98 ((10 * r) + c) (nI (T c))) 95 ((10 * r) + c) (σ 91 ((4 * c) + (tw_pl (P c) (T c))))) 96 ((10 * r) + c) (σ 91 ((4 * c) + ((tw_pl (P c) (T c) + 2) % 4)))) Q := by
      refine tw_as (k := 97) (j := ((10 * r) + c)) (len := 1000) rfl rfl rfl (rfl) (by omega) (by decide) ?_
      refine tw_sgn 2 (i1 := 7) (ls0 := [.ref 88, .int (nI r), .int (nI c + nI 1), .int (nI (T c))]) (st0 := []) (σ0 := (tw_upd (tw_upd (tw_upd (tw_upd (tw_upd (tw_upd σ 93 c (nI (tw_pl (P c) (T c)))) 94 c ((σ 94 c) + (tw_gI (T c)))) 98 ((10 * r) + c) (nI (T c))) 95 ((10 * r) + c) (σ 91 ((4 * c) + (tw_pl (P c) (T c))))) 96 ((10 * r) + c) (σ 91 ((4 * c) + ((tw_pl (P c) (T c) + 2) % 4)))) 97 ((10 * r) + c) (nI (tw_ln (T c) (q c))))) (ls1 := [.ref 88, .int (nI r), .int (nI (c + 1)), .int (nI (T c))]) (st1 := []) (σ1 := (tw_upd (tw_upd (tw_upd (tw_upd (tw_upd (tw_upd σ 93 c (nI (tw_pl (P c) (T c)))) 94 c ((σ 94 c) + (tw_gI (T c)))) 98 ((10 * r) + c) (nI (T c))) 95 ((10 * r) + c) (σ 91 ((4 * c) + (tw_pl (P c) (T c))))) 96 ((10 * r) + c) (σ 91 ((4 * c) + ((tw_pl (P c) (T c) + 2) % 4)))) 97 ((10 * r) + c) (nI (tw_ln (T c) (q c))))) rfl (by simp only [tw_nadd, tw_nmul]) (rfl) (rfl) ?_
      exact ih (c + 1) _ _ (by omega) (tw_wkM_step hI) hQ
    refine tw_sg 1 (i1 := 99) (ls1 := [.ref 88, .int (nI r), .int (nI c), .int (nI (T c))]) (st1 := [.int (nI (T c)), .int (nI ((10 * r) + c)), .ref 97]) (σ1 := (tw_upd (tw_upd (tw_upd (tw_upd (tw_upd σ 93 c (nI (tw_pl (P c) (T c)))) 94 c ((σ 94 c) + (tw_gI (T c)))) 98 ((10 * r) + c) (nI (T c))) 95 ((10 * r) + c) (σ 91 ((4 * c) + (tw_pl (P c) (T c))))) 96 ((10 * r) + c) (σ 91 ((4 * c) + ((tw_pl (P c) (T c) + 2) % 4))))) rfl ?_
    refine tw_bz (c := .ne) rfl (fun h61 => ?_) (fun h61 => ?_)
    · rw [tw_cne] at h61; have h61n := h61; rw [tw_neq (by omega) (by omega)] at h61n
      refine tw_sg 2 (i1 := 104) (ls1 := [.ref 88, .int (nI r), .int (nI c), .int (nI (T c))]) (st1 := [.int (nI 3), .int (nI (T c)), .int (nI ((10 * r) + c)), .ref 97]) (σ1 := (tw_upd (tw_upd (tw_upd (tw_upd (tw_upd σ 93 c (nI (tw_pl (P c) (T c)))) 94 c ((σ 94 c) + (tw_gI (T c)))) 98 ((10 * r) + c) (nI (T c))) 95 ((10 * r) + c) (σ 91 ((4 * c) + (tw_pl (P c) (T c))))) 96 ((10 * r) + c) (σ 91 ((4 * c) + ((tw_pl (P c) (T c) + 2) % 4))))) rfl ?_
      refine tw_bi (c := .ne) rfl (fun h62 => ?_) (fun h62 => ?_)
      · rw [tw_cne] at h62; have h62n := h62; rw [tw_neq (by omega) (by omega)] at h62n
        refine tw_sg 2 (i1 := 109) (ls1 := [.ref 88, .int (nI r), .int (nI c), .int (nI (T c))]) (st1 := [.int (nI 1), .int (nI (T c)), .int (nI ((10 * r) + c)), .ref 97]) (σ1 := (tw_upd (tw_upd (tw_upd (tw_upd (tw_upd σ 93 c (nI (tw_pl (P c) (T c)))) 94 c ((σ 94 c) + (tw_gI (T c)))) 98 ((10 * r) + c) (nI (T c))) 95 ((10 * r) + c) (σ 91 ((4 * c) + (tw_pl (P c) (T c))))) 96 ((10 * r) + c) (σ 91 ((4 * c) + ((tw_pl (P c) (T c) + 2) % 4))))) rfl ?_
        refine tw_bi (c := .ne) rfl (fun h63 => ?_) (fun h63 => ?_)
        · rw [tw_cne] at h63; have h63n := h63; rw [tw_neq (by omega) (by omega)] at h63n
          refine tw_sg 4 (i1 := 116) (ls1 := [.ref 88, .int (nI r), .int (nI c), .int (nI (T c))]) (st1 := [.int (nI c), .ref 92, .int (nI 0), .int (nI ((10 * r) + c)), .ref 97]) (σ1 := (tw_upd (tw_upd (tw_upd (tw_upd (tw_upd σ 93 c (nI (tw_pl (P c) (T c)))) 94 c ((σ 94 c) + (tw_gI (T c)))) 98 ((10 * r) + c) (nI (T c))) 95 ((10 * r) + c) (σ 91 ((4 * c) + (tw_pl (P c) (T c))))) 96 ((10 * r) + c) (σ 91 ((4 * c) + ((tw_pl (P c) (T c) + 2) % 4))))) rfl ?_
          refine tw_al (k := 92) (j := c) (len := 20) rfl rfl rfl rfl (rfl) (by omega) (by decide) ?_
          rw [show (tw_upd (tw_upd (tw_upd (tw_upd (tw_upd σ 93 c (nI (tw_pl (P c) (T c)))) 94 c ((σ 94 c) + (tw_gI (T c)))) 98 ((10 * r) + c) (nI (T c))) 95 ((10 * r) + c) (σ 91 ((4 * c) + (tw_pl (P c) (T c))))) 96 ((10 * r) + c) (σ 91 ((4 * c) + ((tw_pl (P c) (T c) + 2) % 4)))) 92 c = σ 92 c from by repeat (first | exact rfl | exact tw_upd_at | rw [tw_upd_off (by omega)]), eq]
          refine tw_bz (c := .ne) rfl (fun h64 => ?_) (fun h64 => ?_)
          · rw [tw_cne] at h64; have h64n := h64; rw [tw_neq (by omega) (by omega)] at h64n
            refine tw_sg 1 (i1 := 121) (ls1 := [.ref 88, .int (nI r), .int (nI c), .int (nI (T c))]) (st1 := [.int (nI 0), .int (nI 0), .int (nI ((10 * r) + c)), .ref 97]) (σ1 := (tw_upd (tw_upd (tw_upd (tw_upd (tw_upd σ 93 c (nI (tw_pl (P c) (T c)))) 94 c ((σ 94 c) + (tw_gI (T c)))) 98 ((10 * r) + c) (nI (T c))) 95 ((10 * r) + c) (σ 91 ((4 * c) + (tw_pl (P c) (T c))))) 96 ((10 * r) + c) (σ 91 ((4 * c) + ((tw_pl (P c) (T c) + 2) % 4))))) rfl ?_
            refine tw_biF (c := .ne) rfl (by rw [tw_cne', tw_neq (by omega) (by omega)] <;> omega) ?_
            show tw_P L xs _ 206 122 [.ref 88, .int (nI r), .int (nI c), .int (nI (T c))] [.int (nI ((10 * r) + c)), .ref 97] (tw_upd (tw_upd (tw_upd (tw_upd (tw_upd σ 93 c (nI (tw_pl (P c) (T c)))) 94 c ((σ 94 c) + (tw_gI (T c)))) 98 ((10 * r) + c) (nI (T c))) 95 ((10 * r) + c) (σ 91 ((4 * c) + (tw_pl (P c) (T c))))) 96 ((10 * r) + c) (σ 91 ((4 * c) + ((tw_pl (P c) (T c) + 2) % 4)))) _
            refine tw_sg 2 (i1 := 125) (ls1 := [.ref 88, .int (nI r), .int (nI c), .int (nI (T c))]) (st1 := [.int (nI 1), .int (nI ((10 * r) + c)), .ref 97]) (σ1 := (tw_upd (tw_upd (tw_upd (tw_upd (tw_upd σ 93 c (nI (tw_pl (P c) (T c)))) 94 c ((σ 94 c) + (tw_gI (T c)))) 98 ((10 * r) + c) (nI (T c))) 95 ((10 * r) + c) (σ 91 ((4 * c) + (tw_pl (P c) (T c))))) 96 ((10 * r) + c) (σ 91 ((4 * c) + ((tw_pl (P c) (T c) + 2) % 4))))) rfl ?_
            first | exact hK | (rw [show nI 1 = nI (tw_ln (T c) (q c)) from (by unfold tw_ln; first | simp [*] | (simp [*]; omega))]; exact hK)
          · rw [tw_cne'] at h64; have h64n := h64; rw [tw_neq (by omega) (by omega)] at h64n
            refine tw_sg 2 (i1 := 121) (ls1 := [.ref 88, .int (nI r), .int (nI c), .int (nI (T c))]) (st1 := [.int (nI 1), .int (nI 0), .int (nI ((10 * r) + c)), .ref 97]) (σ1 := (tw_upd (tw_upd (tw_upd (tw_upd (tw_upd σ 93 c (nI (tw_pl (P c) (T c)))) 94 c ((σ 94 c) + (tw_gI (T c)))) 98 ((10 * r) + c) (nI (T c))) 95 ((10 * r) + c) (σ 91 ((4 * c) + (tw_pl (P c) (T c))))) 96 ((10 * r) + c) (σ 91 ((4 * c) + ((tw_pl (P c) (T c) + 2) % 4))))) rfl ?_
            refine tw_biT (c := .ne) rfl (by rw [tw_cne, tw_neq (by omega) (by omega)] <;> omega) ?_
            show tw_P L xs _ 206 124 [.ref 88, .int (nI r), .int (nI c), .int (nI (T c))] [.int (nI ((10 * r) + c)), .ref 97] (tw_upd (tw_upd (tw_upd (tw_upd (tw_upd σ 93 c (nI (tw_pl (P c) (T c)))) 94 c ((σ 94 c) + (tw_gI (T c)))) 98 ((10 * r) + c) (nI (T c))) 95 ((10 * r) + c) (σ 91 ((4 * c) + (tw_pl (P c) (T c))))) 96 ((10 * r) + c) (σ 91 ((4 * c) + ((tw_pl (P c) (T c) + 2) % 4)))) _
            refine tw_sg 1 (i1 := 125) (ls1 := [.ref 88, .int (nI r), .int (nI c), .int (nI (T c))]) (st1 := [.int (nI 2), .int (nI ((10 * r) + c)), .ref 97]) (σ1 := (tw_upd (tw_upd (tw_upd (tw_upd (tw_upd σ 93 c (nI (tw_pl (P c) (T c)))) 94 c ((σ 94 c) + (tw_gI (T c)))) 98 ((10 * r) + c) (nI (T c))) 95 ((10 * r) + c) (σ 91 ((4 * c) + (tw_pl (P c) (T c))))) 96 ((10 * r) + c) (σ 91 ((4 * c) + ((tw_pl (P c) (T c) + 2) % 4))))) rfl ?_
            first | exact hK | (rw [show nI 2 = nI (tw_ln (T c) (q c)) from (by unfold tw_ln; first | simp [*] | (simp [*]; omega))]; exact hK)
        · rw [tw_cne'] at h63; have h63n := h63; rw [tw_neq (by omega) (by omega)] at h63n
          refine tw_sg 5 (i1 := 116) (ls1 := [.ref 88, .int (nI r), .int (nI c), .int (nI (T c))]) (st1 := [.int (nI c), .ref 92, .int (nI 1), .int (nI ((10 * r) + c)), .ref 97]) (σ1 := (tw_upd (tw_upd (tw_upd (tw_upd (tw_upd σ 93 c (nI (tw_pl (P c) (T c)))) 94 c ((σ 94 c) + (tw_gI (T c)))) 98 ((10 * r) + c) (nI (T c))) 95 ((10 * r) + c) (σ 91 ((4 * c) + (tw_pl (P c) (T c))))) 96 ((10 * r) + c) (σ 91 ((4 * c) + ((tw_pl (P c) (T c) + 2) % 4))))) rfl ?_
          refine tw_al (k := 92) (j := c) (len := 20) rfl rfl rfl rfl (rfl) (by omega) (by decide) ?_
          rw [show (tw_upd (tw_upd (tw_upd (tw_upd (tw_upd σ 93 c (nI (tw_pl (P c) (T c)))) 94 c ((σ 94 c) + (tw_gI (T c)))) 98 ((10 * r) + c) (nI (T c))) 95 ((10 * r) + c) (σ 91 ((4 * c) + (tw_pl (P c) (T c))))) 96 ((10 * r) + c) (σ 91 ((4 * c) + ((tw_pl (P c) (T c) + 2) % 4)))) 92 c = σ 92 c from by repeat (first | exact rfl | exact tw_upd_at | rw [tw_upd_off (by omega)]), eq]
          refine tw_bz (c := .ne) rfl (fun h65 => ?_) (fun h65 => ?_)
          · rw [tw_cne] at h65; have h65n := h65; rw [tw_neq (by omega) (by omega)] at h65n
            refine tw_sg 1 (i1 := 121) (ls1 := [.ref 88, .int (nI r), .int (nI c), .int (nI (T c))]) (st1 := [.int (nI 0), .int (nI 1), .int (nI ((10 * r) + c)), .ref 97]) (σ1 := (tw_upd (tw_upd (tw_upd (tw_upd (tw_upd σ 93 c (nI (tw_pl (P c) (T c)))) 94 c ((σ 94 c) + (tw_gI (T c)))) 98 ((10 * r) + c) (nI (T c))) 95 ((10 * r) + c) (σ 91 ((4 * c) + (tw_pl (P c) (T c))))) 96 ((10 * r) + c) (σ 91 ((4 * c) + ((tw_pl (P c) (T c) + 2) % 4))))) rfl ?_
            refine tw_biT (c := .ne) rfl (by rw [tw_cne, tw_neq (by omega) (by omega)] <;> omega) ?_
            show tw_P L xs _ 206 124 [.ref 88, .int (nI r), .int (nI c), .int (nI (T c))] [.int (nI ((10 * r) + c)), .ref 97] (tw_upd (tw_upd (tw_upd (tw_upd (tw_upd σ 93 c (nI (tw_pl (P c) (T c)))) 94 c ((σ 94 c) + (tw_gI (T c)))) 98 ((10 * r) + c) (nI (T c))) 95 ((10 * r) + c) (σ 91 ((4 * c) + (tw_pl (P c) (T c))))) 96 ((10 * r) + c) (σ 91 ((4 * c) + ((tw_pl (P c) (T c) + 2) % 4)))) _
            refine tw_sg 1 (i1 := 125) (ls1 := [.ref 88, .int (nI r), .int (nI c), .int (nI (T c))]) (st1 := [.int (nI 2), .int (nI ((10 * r) + c)), .ref 97]) (σ1 := (tw_upd (tw_upd (tw_upd (tw_upd (tw_upd σ 93 c (nI (tw_pl (P c) (T c)))) 94 c ((σ 94 c) + (tw_gI (T c)))) 98 ((10 * r) + c) (nI (T c))) 95 ((10 * r) + c) (σ 91 ((4 * c) + (tw_pl (P c) (T c))))) 96 ((10 * r) + c) (σ 91 ((4 * c) + ((tw_pl (P c) (T c) + 2) % 4))))) rfl ?_
            first | exact hK | (rw [show nI 2 = nI (tw_ln (T c) (q c)) from (by unfold tw_ln; first | simp [*] | (simp [*]; omega))]; exact hK)
          · rw [tw_cne'] at h65; have h65n := h65; rw [tw_neq (by omega) (by omega)] at h65n
            refine tw_sg 2 (i1 := 121) (ls1 := [.ref 88, .int (nI r), .int (nI c), .int (nI (T c))]) (st1 := [.int (nI 1), .int (nI 1), .int (nI ((10 * r) + c)), .ref 97]) (σ1 := (tw_upd (tw_upd (tw_upd (tw_upd (tw_upd σ 93 c (nI (tw_pl (P c) (T c)))) 94 c ((σ 94 c) + (tw_gI (T c)))) 98 ((10 * r) + c) (nI (T c))) 95 ((10 * r) + c) (σ 91 ((4 * c) + (tw_pl (P c) (T c))))) 96 ((10 * r) + c) (σ 91 ((4 * c) + ((tw_pl (P c) (T c) + 2) % 4))))) rfl ?_
            refine tw_biF (c := .ne) rfl (by rw [tw_cne', tw_neq (by omega) (by omega)] <;> omega) ?_
            show tw_P L xs _ 206 122 [.ref 88, .int (nI r), .int (nI c), .int (nI (T c))] [.int (nI ((10 * r) + c)), .ref 97] (tw_upd (tw_upd (tw_upd (tw_upd (tw_upd σ 93 c (nI (tw_pl (P c) (T c)))) 94 c ((σ 94 c) + (tw_gI (T c)))) 98 ((10 * r) + c) (nI (T c))) 95 ((10 * r) + c) (σ 91 ((4 * c) + (tw_pl (P c) (T c))))) 96 ((10 * r) + c) (σ 91 ((4 * c) + ((tw_pl (P c) (T c) + 2) % 4)))) _
            refine tw_sg 2 (i1 := 125) (ls1 := [.ref 88, .int (nI r), .int (nI c), .int (nI (T c))]) (st1 := [.int (nI 1), .int (nI ((10 * r) + c)), .ref 97]) (σ1 := (tw_upd (tw_upd (tw_upd (tw_upd (tw_upd σ 93 c (nI (tw_pl (P c) (T c)))) 94 c ((σ 94 c) + (tw_gI (T c)))) 98 ((10 * r) + c) (nI (T c))) 95 ((10 * r) + c) (σ 91 ((4 * c) + (tw_pl (P c) (T c))))) 96 ((10 * r) + c) (σ 91 ((4 * c) + ((tw_pl (P c) (T c) + 2) % 4))))) rfl ?_
            first | exact hK | (rw [show nI 1 = nI (tw_ln (T c) (q c)) from (by unfold tw_ln; first | simp [*] | (simp [*]; omega))]; exact hK)
      · rw [tw_cne'] at h62; have h62n := h62; rw [tw_neq (by omega) (by omega)] at h62n
        refine tw_sg 2 (i1 := 125) (ls1 := [.ref 88, .int (nI r), .int (nI c), .int (nI (T c))]) (st1 := [.int (nI 3), .int (nI ((10 * r) + c)), .ref 97]) (σ1 := (tw_upd (tw_upd (tw_upd (tw_upd (tw_upd σ 93 c (nI (tw_pl (P c) (T c)))) 94 c ((σ 94 c) + (tw_gI (T c)))) 98 ((10 * r) + c) (nI (T c))) 95 ((10 * r) + c) (σ 91 ((4 * c) + (tw_pl (P c) (T c))))) 96 ((10 * r) + c) (σ 91 ((4 * c) + ((tw_pl (P c) (T c) + 2) % 4))))) rfl ?_
        first | exact hK | (rw [show nI 3 = nI (tw_ln (T c) (q c)) from (by unfold tw_ln; first | simp [*] | (simp [*]; omega))]; exact hK)
    · rw [tw_cne'] at h61; have h61n := h61; rw [tw_neq (by omega) (by omega)] at h61n
      refine tw_sg 2 (i1 := 125) (ls1 := [.ref 88, .int (nI r), .int (nI c), .int (nI (T c))]) (st1 := [.int (nI 0), .int (nI ((10 * r) + c)), .ref 97]) (σ1 := (tw_upd (tw_upd (tw_upd (tw_upd (tw_upd σ 93 c (nI (tw_pl (P c) (T c)))) 94 c ((σ 94 c) + (tw_gI (T c)))) 98 ((10 * r) + c) (nI (T c))) 95 ((10 * r) + c) (σ 91 ((4 * c) + (tw_pl (P c) (T c))))) 96 ((10 * r) + c) (σ 91 ((4 * c) + ((tw_pl (P c) (T c) + 2) % 4))))) rfl ?_
      first | exact hK | (rw [show nI 0 = nI (tw_ln (T c) (q c)) from (by unfold tw_ln; first | simp [*] | (simp [*]; omega))]; exact hK)
end tw_s38
