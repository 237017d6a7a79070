/-! weave -/
section tw_s47
variable {L : Nat} {xs : Nat → Int32} {σ : tw_Mem} {x y w : Int32} {n r i c k h q a b e : Nat}
def tw_wvPost (L : Nat) (xs : Nat → Int32) (x i : Nat) (σ α : tw_Mem) (v : Option Value) (τ : tw_Mem) : Prop := ∃ (u : Nat) (α' : tw_Mem), v = some (.int (nI u)) ∧ tw_Inv α' ∧ tw_agC τ α' ∧ (∀ k j, 88 ≤ k → τ k j = σ k j) ∧ ∀ υ, tw_agM υ α → tw_P L xs 10 212 16 [.ref 88, .int (nI x), .int (nI i)] [] υ (fun v2 ω => v2 = some (.int (nI u)) ∧ tw_agM ω α' ∧ ∀ k j, k < 88 → ω k j = υ k j)
set_option maxHeartbeats 4000000 in
set_option maxRecDepth 100000 in
theorem tw_l_weave {L : Nat} {xs : Nat → Int32} {x : Nat} (hx : x ≤ 50) : ∀ (f i : Nat) (σ α : tw_Mem), i + f = x → tw_Inv α → tw_agC σ α → tw_P L xs 12 143 16 [.ref 1, .int (nI x), .int (nI i)] [] σ (tw_wvPost L xs x i σ α) := by
  intro f
  induction f with
  | zero =>
    intro i σ α hf hI hs
    have hz : i = x := hf
    subst hz
    refine tw_sg 2 (i1 := 18) (ls1 := [.ref 1, .int (nI i), .int (nI i)]) (st1 := [.int (nI i), .int (nI i)]) (σ1 := σ) rfl ?_
    refine tw_biT (c := .ge) rfl (by rw [tw_cge, tw_nle (by omega) (by omega)] <;> omega) ?_
    show tw_P L xs _ 143 25 [.ref 1, .int (nI i), .int (nI i)] [] σ _
    refine tw_sg 1 (i1 := 26) (ls1 := [.ref 1, .int (nI i), .int (nI i)]) (st1 := [.int (nI i)]) (σ1 := σ) rfl ?_
    refine tw_ri rfl (rfl) ?_
    refine ⟨i, α, rfl, hI, hs, fun _ _ _ => rfl, fun υ hυ => ?_⟩
    refine tw_sg 2 (i1 := 18) (ls1 := [.ref 88, .int (nI i), .int (nI i)]) (st1 := [.int (nI i), .int (nI i)]) (σ1 := υ) rfl ?_
    refine tw_biT (c := .ge) rfl (by rw [tw_cge, tw_nle (by omega) (by omega)] <;> omega) ?_
    show tw_P L xs _ 212 32 [.ref 88, .int (nI i), .int (nI i)] [] υ _
    refine tw_sg 1 (i1 := 33) (ls1 := [.ref 88, .int (nI i), .int (nI i)]) (st1 := [.int (nI i)]) (σ1 := υ) rfl ?_
    refine tw_ri rfl (rfl) ?_
    exact ⟨rfl, hυ, fun _ _ _ => rfl⟩
  | succ f ih =>
    intro i σ α hf hI hs
    obtain ⟨⟨n, r, hLo⟩, -⟩ := id hI
    obtain ⟨⟨hn10, hr50⟩, ⟨hn6, hn89⟩, ⟨hr9, hw9, hr90⟩, hCa, hRo, hLa⟩ := id hLo
    have hn89 : α 89 0 = nI n := hn89
    have hr90 : α 90 0 = nI r := hr90
    obtain ⟨P, q, hPq⟩ := tw_cardsP hCa
    rcases (show r = 50 ∨ r < 50 by omega) with h50 | h50
    · skip
      refine tw_sg 2 (i1 := 18) (ls1 := [.ref 1, .int (nI x), .int (nI i)]) (st1 := [.int (nI x), .int (nI i)]) (σ1 := σ) rfl ?_
      refine tw_biF (c := .ge) rfl (by rw [tw_cge', tw_nle (by omega) (by omega)] <;> omega) ?_
      show tw_P L xs _ 143 19 [.ref 1, .int (nI x), .int (nI i)] [] σ _
      refine tw_sg 2 (i1 := 21) (ls1 := [.ref 1, .int (nI x), .int (nI i)]) (st1 := [.ref 6]) (σ1 := σ) rfl ?_
      refine tw_cl1 rfl (rfl) (by decide) (tw_e_byLaw50 hI hLo hs h50) ?_
      rintro _ τ ⟨rfl, h⟩
      show tw_P L xs _ 143 22 [.ref 1, .int (nI x), .int (nI i)] [.int (nI 0)] τ _
      refine tw_bzT (c := .eq) rfl (by rw [tw_ceq, tw_neq (by omega) (by omega)] <;> omega) ?_
      show tw_P L xs _ 143 25 [.ref 1, .int (nI x), .int (nI i)] [] τ _
      refine tw_sg 1 (i1 := 26) (ls1 := [.ref 1, .int (nI x), .int (nI i)]) (st1 := [.int (nI i)]) (σ1 := τ) rfl ?_
      refine tw_ri rfl (rfl) ?_
      refine ⟨i, α, rfl, hI, fun k j g1 g2 => by rw [h.1 k j g2]; exact hs k j g1 g2, fun k j g => h.1 k j (by omega), fun υ hυ => ?_⟩
      refine tw_sg 2 (i1 := 18) (ls1 := [.ref 88, .int (nI x), .int (nI i)]) (st1 := [.int (nI x), .int (nI i)]) (σ1 := υ) rfl ?_
      refine tw_biF (c := .ge) rfl (by rw [tw_cge', tw_nle (by omega) (by omega)] <;> omega) ?_
      show tw_P L xs _ 212 19 [.ref 88, .int (nI x), .int (nI i)] [] υ _
      refine tw_sg 4 (i1 := 23) (ls1 := [.ref 88, .int (nI x), .int (nI i)]) (st1 := [.int (nI 0), .ref 90, .ref 88]) (σ1 := υ) rfl ?_
      refine tw_al (k := 90) (j := 0) (len := 2) rfl rfl rfl rfl (rfl) (by omega) (by decide) ?_
      rw [(show υ 90 0 = nI r from (hυ 90 0 (by omega) (by omega)).trans hr90)]
      refine tw_cl1 rfl (rfl) (by decide) (tw_e_layLaw (σ := υ) (μ := α) (p := r) (n := n) ((hυ 89 0 (by omega) (by omega)).trans hn89) (fun k j g1 g2 => hυ k j (by omega) (by omega)) hLa hn10 (by omega)) ?_
      rintro _ υ1 ⟨rfl, g⟩
      show tw_P L xs _ 212 25 [.ref 88, .int (nI x), .int (nI i)] [] υ1 _
      refine tw_sg 1 (i1 := 26) (ls1 := [.ref 88, .int (nI x), .int (nI i)]) (st1 := [.ref 88]) (σ1 := υ1) rfl ?_
      refine tw_cl1 rfl (rfl) (by decide) (tw_e_pickM50 (σ := υ1) (by rw [g.1 _ _ (by omega)]; exact (hυ 90 0 (by omega) (by omega)).trans hr90) h50) ?_
      rintro _ _ ⟨rfl, rfl⟩
      show tw_P L xs _ 212 27 [.ref 88, .int (nI x), .int (nI i)] [.int (-4)] υ1 _
      refine tw_bzF (c := .ge) rfl (by rw [tw_cge'] <;> (exact tw_not_le.mpr (by decide))) ?_
      show tw_P L xs _ 212 28 [.ref 88, .int (nI x), .int (nI i)] [] υ1 _
      refine tw_sg 1 (i1 := 29) (ls1 := [.ref 88, .int (nI x), .int (nI i)]) (st1 := [.int (nI i)]) (σ1 := υ1) rfl ?_
      refine tw_ri rfl (rfl) ?_
      exact ⟨rfl, fun k j a b => by rw [g.1 k j b]; exact hυ k j a b, fun k j a => g.1 k j (by omega)⟩
    · by_cases hj : tw_jm α (tw_lT α n r) n
      · skip
        refine tw_sg 2 (i1 := 18) (ls1 := [.ref 1, .int (nI x), .int (nI i)]) (st1 := [.int (nI x), .int (nI i)]) (σ1 := σ) rfl ?_
        refine tw_biF (c := .ge) rfl (by rw [tw_cge', tw_nle (by omega) (by omega)] <;> omega) ?_
        show tw_P L xs _ 143 19 [.ref 1, .int (nI x), .int (nI i)] [] σ _
        refine tw_sg 2 (i1 := 21) (ls1 := [.ref 1, .int (nI x), .int (nI i)]) (st1 := [.ref 6]) (σ1 := σ) rfl ?_
        refine tw_cl1 rfl (rfl) (by decide) (tw_e_byLaw0 hI hLo hs h50 hj) ?_
        rintro _ τ ⟨rfl, h⟩
        show tw_P L xs _ 143 22 [.ref 1, .int (nI x), .int (nI i)] [.int (nI 0)] τ _
        refine tw_bzT (c := .eq) rfl (by rw [tw_ceq, tw_neq (by omega) (by omega)] <;> omega) ?_
        show tw_P L xs _ 143 25 [.ref 1, .int (nI x), .int (nI i)] [] τ _
        refine tw_sg 1 (i1 := 26) (ls1 := [.ref 1, .int (nI x), .int (nI i)]) (st1 := [.int (nI i)]) (σ1 := τ) rfl ?_
        refine tw_ri rfl (rfl) ?_
        refine ⟨i, α, rfl, hI, fun k j g1 g2 => by rw [h.1 k j g2]; exact hs k j g1 g2, fun k j g => h.1 k j (by omega), fun υ hυ => ?_⟩
        refine tw_sg 2 (i1 := 18) (ls1 := [.ref 88, .int (nI x), .int (nI i)]) (st1 := [.int (nI x), .int (nI i)]) (σ1 := υ) rfl ?_
        refine tw_biF (c := .ge) rfl (by rw [tw_cge', tw_nle (by omega) (by omega)] <;> omega) ?_
        show tw_P L xs _ 212 19 [.ref 88, .int (nI x), .int (nI i)] [] υ _
        refine tw_sg 4 (i1 := 23) (ls1 := [.ref 88, .int (nI x), .int (nI i)]) (st1 := [.int (nI 0), .ref 90, .ref 88]) (σ1 := υ) rfl ?_
        refine tw_al (k := 90) (j := 0) (len := 2) rfl rfl rfl rfl (rfl) (by omega) (by decide) ?_
        rw [(show υ 90 0 = nI r from (hυ 90 0 (by omega) (by omega)).trans hr90)]
        refine tw_cl1 rfl (rfl) (by decide) (tw_e_layLaw (σ := υ) (μ := α) (p := r) (n := n) ((hυ 89 0 (by omega) (by omega)).trans hn89) (fun k j g1 g2 => hυ k j (by omega) (by omega)) hLa hn10 (by omega)) ?_
        rintro _ υ1 ⟨rfl, g⟩
        show tw_P L xs _ 212 25 [.ref 88, .int (nI x), .int (nI i)] [] υ1 _
        refine tw_sg 1 (i1 := 26) (ls1 := [.ref 88, .int (nI x), .int (nI i)]) (st1 := [.ref 88]) (σ1 := υ1) rfl ?_
        refine tw_cl1 rfl (rfl) (by decide) (tw_e_pickM0 (P := id) (q := id) (σ := υ1) (n := n) (r := r) (T := tw_lT α n r) (by rw [g.1 _ _ (by omega)]; exact (hυ 89 0 (by omega) (by omega)).trans hn89) (by rw [g.1 _ _ (by omega)]; exact (hυ 90 0 (by omega) (by omega)).trans hr90) hr50 hn10 (fun c hc => ⟨tw_lT_lt, g.2 c hc hc⟩) h50 ((tw_jm_cg (fun c => by rw [g.1 _ _ (by omega)]; exact hυ 94 c (by omega) (by omega))).mpr hj)) ?_
        rintro _ _ ⟨rfl, rfl⟩
        show tw_P L xs _ 212 27 [.ref 88, .int (nI x), .int (nI i)] [.int (-6)] υ1 _
        refine tw_bzF (c := .ge) rfl (by rw [tw_cge'] <;> (exact tw_not_le.mpr (by decide))) ?_
        show tw_P L xs _ 212 28 [.ref 88, .int (nI x), .int (nI i)] [] υ1 _
        refine tw_sg 1 (i1 := 29) (ls1 := [.ref 88, .int (nI x), .int (nI i)]) (st1 := [.int (nI i)]) (σ1 := υ1) rfl ?_
        refine tw_ri rfl (rfl) ?_
        exact ⟨rfl, fun k j a b => by rw [g.1 k j b]; exact hυ k j a b, fun k j a => g.1 k j (by omega)⟩
      · skip
        refine tw_sg 2 (i1 := 18) (ls1 := [.ref 1, .int (nI x), .int (nI i)]) (st1 := [.int (nI x), .int (nI i)]) (σ1 := σ) rfl ?_
        refine tw_biF (c := .ge) rfl (by rw [tw_cge', tw_nle (by omega) (by omega)] <;> omega) ?_
        show tw_P L xs _ 143 19 [.ref 1, .int (nI x), .int (nI i)] [] σ _
        refine tw_sg 2 (i1 := 21) (ls1 := [.ref 1, .int (nI x), .int (nI i)]) (st1 := [.ref 6]) (σ1 := σ) rfl ?_
        refine tw_cl1 rfl (rfl) (by decide) (tw_e_byLaw1 hI hLo hs h50 hj hPq) ?_
        rintro _ τ ⟨rfl, τl, τ0, h, hw, hτ⟩
        show tw_P L xs _ 143 22 [.ref 1, .int (nI x), .int (nI i)] [.int (nI 1)] τ _
        refine tw_bzF (c := .eq) rfl (by rw [tw_ceq', tw_neq (by omega) (by omega)] <;> omega) ?_
        show tw_P L xs _ 143 23 [.ref 1, .int (nI x), .int (nI i)] [] τ _
        refine tw_sgn 2 (i1 := 16) (ls0 := [.ref 1, .int (nI x), .int (nI i + nI 1)]) (st0 := []) (σ0 := τ) (ls1 := [.ref 1, .int (nI x), .int (nI (i + 1))]) (st1 := []) (σ1 := τ) rfl (by simp only [tw_nadd, tw_nmul]) (rfl) (rfl) ?_
        obtain ⟨τa, υ0, ha, wM, hI1, hC1⟩ := tw_pick_mg hI hLo h50 (fun c hc => tw_lT_lt) (fun k j g1 g2 => by rw [h.1 k j g2]; exact hs k j g1 g2) hw
        rw [← hτ] at hC1
        refine tw_P_mono (ih (i + 1) τ _ (by omega) hI1 hC1) ?_
        rintro v τ2 ⟨u, α', rfl, hI2, hC2, hk2, hM2⟩
        have hτk : ∀ k j, 88 ≤ k → τ k j = σ k j := fun k j g => by rw [hτ, tw_upd_off (by omega), hw.1 k j (by omega) (by omega), h.1 k j (by omega)]
        refine ⟨u, α', rfl, hI2, hC2, fun k j g => (hk2 k j g).trans (hτk k j g), fun υ hυ => ?_⟩
        refine tw_sg 2 (i1 := 18) (ls1 := [.ref 88, .int (nI x), .int (nI i)]) (st1 := [.int (nI x), .int (nI i)]) (σ1 := υ) rfl ?_
        refine tw_biF (c := .ge) rfl (by rw [tw_cge', tw_nle (by omega) (by omega)] <;> omega) ?_
        show tw_P L xs _ 212 19 [.ref 88, .int (nI x), .int (nI i)] [] υ _
        refine tw_sg 4 (i1 := 23) (ls1 := [.ref 88, .int (nI x), .int (nI i)]) (st1 := [.int (nI 0), .ref 90, .ref 88]) (σ1 := υ) rfl ?_
        refine tw_al (k := 90) (j := 0) (len := 2) rfl rfl rfl rfl (rfl) (by omega) (by decide) ?_
        rw [(show υ 90 0 = nI r from (hυ 90 0 (by omega) (by omega)).trans hr90)]
        refine tw_cl1 rfl (rfl) (by decide) (tw_e_layLaw (σ := υ) (μ := α) (p := r) (n := n) ((hυ 89 0 (by omega) (by omega)).trans hn89) (fun k j g1 g2 => hυ k j (by omega) (by omega)) hLa hn10 (by omega)) ?_
        rintro _ υ1 ⟨rfl, g⟩
        show tw_P L xs _ 212 25 [.ref 88, .int (nI x), .int (nI i)] [] υ1 _
        refine tw_sg 1 (i1 := 26) (ls1 := [.ref 88, .int (nI x), .int (nI i)]) (st1 := [.ref 88]) (σ1 := υ1) rfl ?_
        refine tw_cl1 rfl (rfl) (by decide) (tw_e_pickM1 (P := P) (q := q) (σ := υ1) (n := n) (r := r) (T := tw_lT α n r) (by rw [g.1 _ _ (by omega)]; exact (hυ 89 0 (by omega) (by omega)).trans hn89) (by rw [g.1 _ _ (by omega)]; exact (hυ 90 0 (by omega) (by omega)).trans hr90) hr50 hn10 (fun c hc => ⟨tw_lT_lt, g.2 c hc hc⟩) h50 (fun z => hj ((tw_jm_cg (fun c => by rw [g.1 _ _ (by omega)]; exact hυ 94 c (by omega) (by omega))).mp z)) (fun c hc => ⟨(hPq c hc).1.1, by rw [g.1 _ _ (by omega), hυ _ _ (by omega) (by omega)]; exact (hPq c hc).1.2.2⟩) (fun c hc => ⟨(hPq c hc).2.1, by rw [g.1 _ _ (by omega), hυ _ _ (by omega) (by omega)]; exact (hPq c hc).2.2.2⟩)) ?_
        rintro _ ω ⟨rfl, υ2, gw, hω⟩
        show tw_P L xs _ 212 27 [.ref 88, .int (nI x), .int (nI i)] [.int (nI (r + 1))] ω _
        refine tw_bzT (c := .ge) rfl (by rw [tw_cge, tw_nle (by omega) (by omega)] <;> omega) ?_
        show tw_P L xs _ 212 30 [.ref 88, .int (nI x), .int (nI i)] [] ω _
        refine tw_sgn 2 (i1 := 16) (ls0 := [.ref 88, .int (nI x), .int (nI i + nI 1)]) (st0 := []) (σ0 := ω) (ls1 := [.ref 88, .int (nI x), .int (nI (i + 1))]) (st1 := []) (σ1 := ω) rfl (by simp only [tw_nadd, tw_nmul]) (rfl) (rfl) ?_
        refine tw_P_mono (hM2 ω (fun k j a b => ?_)) ?_
        · have e := tw_wkM_uq (σ := υ1) (α := τa) (fun k j a b => by rw [g.1 k j b, hυ k j a b, ha k j a b]) gw wM k j a b
          rw [hω]
          by_cases z : k = 90 ∧ j = 0
          · obtain ⟨rfl, rfl⟩ := z; rw [tw_upd_at, tw_upd_at]
          · rw [tw_upd_off z, tw_upd_off z]; exact e
        · rintro v2 ω2 ⟨rfl, b1, b2⟩
          exact ⟨rfl, b1, fun k j a => by rw [b2 k j a, hω, tw_upd_off (by omega), gw.1 k j (by omega) (by omega), g.1 k j (by omega)]⟩
set_option maxHeartbeats 4000000 in
set_option maxRecDepth 100000 in
theorem tw_o_weave {L : Nat} {xs : Nat → Int32} (x : Int32) : tw_op L xs 143 212 [.int x] := by
  intro σ hI
  obtain ⟨⟨n, r, hL⟩, hT, hPp, hPc, hLs, hIm, hC14, hC46, hC72⟩ := id hI
  obtain ⟨⟨hn10, hr50⟩, ⟨hn6, hn89⟩, ⟨hr9, hw9, hr90⟩, hCa, hRo, hLa⟩ := hL
  have hn6 : σ 6 4 = nI n := hn6
  have hn89 : σ 89 0 = nI n := hn89
  have hr9 : σ 9 3 = nI r := hr9
  have hw9 : σ 9 4 = nI n := hw9
  have hr90 : σ 90 0 = nI r := hr90
  rcases tw_nany x with hx | ⟨a, ha, rfl⟩
  · skip
    show tw_P L xs _ 143 0 [.ref 1, .int x, tw_U] [] σ _
    refine tw_sg 2 (i1 := 2) (ls1 := [.ref 1, .int x, tw_U]) (st1 := [.int (nI 1), .int x]) (σ1 := σ) rfl ?_
    refine tw_biT (c := .lt) rfl (by rw [tw_clt] <;> (exact (tw_neg_lt hx (by decide)))) ?_
    show tw_P L xs _ 143 6 [.ref 1, .int x, tw_U] [] σ _
    refine tw_sg 1 (i1 := 7) (ls1 := [.ref 1, .int x, tw_U]) (st1 := [.int (-2)]) (σ1 := σ) rfl ?_
    refine tw_ri rfl (rfl) ?_
    refine ⟨_, rfl, ?_⟩
    show tw_P L xs _ 212 0 [.ref 88, .int x, tw_U] [] σ _
    refine tw_sg 3 (i1 := 3) (ls1 := [.ref 88, .int x, tw_U]) (st1 := [.int (nI 50), .int (nI 1), .int x]) (σ1 := σ) rfl ?_
    refine tw_cl0 59 rfl (rfl) (by decide) ?_
    show tw_P L xs _ 182 0 [.int x, .int (nI 1), .int (nI 50)] [] σ _
    refine tw_sg 2 (i1 := 2) (ls1 := [.int x, .int (nI 1), .int (nI 50)]) (st1 := [.int (nI 1), .int x]) (σ1 := σ) rfl ?_
    refine tw_biT (c := .lt) rfl (by rw [tw_clt] <;> (exact (tw_neg_lt hx (by decide)))) ?_
    show tw_P L xs _ 182 8 [.int x, .int (nI 1), .int (nI 50)] [] σ _
    refine tw_sg 1 (i1 := 9) (ls1 := [.int x, .int (nI 1), .int (nI 50)]) (st1 := [.int (nI 0)]) (σ1 := σ) rfl ?_
    refine tw_ri rfl (rfl) ?_
    show tw_P L xs _ 212 4 [.ref 88, .int x, tw_U] [.int (nI 0)] σ _
    refine tw_bzF (c := .ne) rfl (by rw [tw_cne', tw_neq (by omega) (by omega)] <;> omega) ?_
    show tw_P L xs _ 212 5 [.ref 88, .int x, tw_U] [] σ _
    refine tw_sg 1 (i1 := 6) (ls1 := [.ref 88, .int x, tw_U]) (st1 := [.int (-2)]) (σ1 := σ) rfl ?_
    refine tw_ri rfl (rfl) ?_
    exact ⟨rfl, hI⟩
  · rcases (show a = 0 ∨ 50 < a ∨ (1 ≤ a ∧ a ≤ 50) by omega) with hz | hz | hz
    · subst hz
      show tw_P L xs _ 143 0 [.ref 1, .int (nI 0), tw_U] [] σ _
      refine tw_sg 2 (i1 := 2) (ls1 := [.ref 1, .int (nI 0), tw_U]) (st1 := [.int (nI 1), .int (nI 0)]) (σ1 := σ) rfl ?_
      refine tw_biT (c := .lt) rfl (by rw [tw_clt, tw_nlt (by omega) (by omega)] <;> omega) ?_
      show tw_P L xs _ 143 6 [.ref 1, .int (nI 0), tw_U] [] σ _
      refine tw_sg 1 (i1 := 7) (ls1 := [.ref 1, .int (nI 0), tw_U]) (st1 := [.int (-2)]) (σ1 := σ) rfl ?_
      refine tw_ri rfl (rfl) ?_
      refine ⟨_, rfl, ?_⟩
      show tw_P L xs _ 212 0 [.ref 88, .int (nI 0), tw_U] [] σ _
      refine tw_sg 3 (i1 := 3) (ls1 := [.ref 88, .int (nI 0), tw_U]) (st1 := [.int (nI 50), .int (nI 1), .int (nI 0)]) (σ1 := σ) rfl ?_
      refine tw_cl0 59 rfl (rfl) (by decide) ?_
      show tw_P L xs _ 182 0 [.int (nI 0), .int (nI 1), .int (nI 50)] [] σ _
      refine tw_sg 2 (i1 := 2) (ls1 := [.int (nI 0), .int (nI 1), .int (nI 50)]) (st1 := [.int (nI 1), .int (nI 0)]) (σ1 := σ) rfl ?_
      refine tw_biT (c := .lt) rfl (by rw [tw_clt, tw_nlt (by omega) (by omega)] <;> omega) ?_
      show tw_P L xs _ 182 8 [.int (nI 0), .int (nI 1), .int (nI 50)] [] σ _
      refine tw_sg 1 (i1 := 9) (ls1 := [.int (nI 0), .int (nI 1), .int (nI 50)]) (st1 := [.int (nI 0)]) (σ1 := σ) rfl ?_
      refine tw_ri rfl (rfl) ?_
      show tw_P L xs _ 212 4 [.ref 88, .int (nI 0), tw_U] [.int (nI 0)] σ _
      refine tw_bzF (c := .ne) rfl (by rw [tw_cne', tw_neq (by omega) (by omega)] <;> omega) ?_
      show tw_P L xs _ 212 5 [.ref 88, .int (nI 0), tw_U] [] σ _
      refine tw_sg 1 (i1 := 6) (ls1 := [.ref 88, .int (nI 0), tw_U]) (st1 := [.int (-2)]) (σ1 := σ) rfl ?_
      refine tw_ri rfl (rfl) ?_
      exact ⟨rfl, hI⟩
    · skip
      show tw_P L xs _ 143 0 [.ref 1, .int (nI a), tw_U] [] σ _
      refine tw_sg 2 (i1 := 2) (ls1 := [.ref 1, .int (nI a), tw_U]) (st1 := [.int (nI 1), .int (nI a)]) (σ1 := σ) rfl ?_
      refine tw_biF (c := .lt) rfl (by rw [tw_clt', tw_nlt (by omega) (by omega)] <;> omega) ?_
      show tw_P L xs _ 143 3 [.ref 1, .int (nI a), tw_U] [] σ _
      refine tw_sg 2 (i1 := 5) (ls1 := [.ref 1, .int (nI a), tw_U]) (st1 := [.int (nI 50), .int (nI a)]) (σ1 := σ) rfl ?_
      refine tw_biF (c := .le) rfl (by rw [tw_cle', tw_nle (by omega) (by omega)] <;> omega) ?_
      show tw_P L xs _ 143 6 [.ref 1, .int (nI a), tw_U] [] σ _
      refine tw_sg 1 (i1 := 7) (ls1 := [.ref 1, .int (nI a), tw_U]) (st1 := [.int (-2)]) (σ1 := σ) rfl ?_
      refine tw_ri rfl (rfl) ?_
      refine ⟨_, rfl, ?_⟩
      show tw_P L xs _ 212 0 [.ref 88, .int (nI a), tw_U] [] σ _
      refine tw_sg 3 (i1 := 3) (ls1 := [.ref 88, .int (nI a), tw_U]) (st1 := [.int (nI 50), .int (nI 1), .int (nI a)]) (σ1 := σ) rfl ?_
      refine tw_cl0 59 rfl (rfl) (by decide) ?_
      show tw_P L xs _ 182 0 [.int (nI a), .int (nI 1), .int (nI 50)] [] σ _
      refine tw_sg 2 (i1 := 2) (ls1 := [.int (nI a), .int (nI 1), .int (nI 50)]) (st1 := [.int (nI 1), .int (nI a)]) (σ1 := σ) rfl ?_
      refine tw_biF (c := .lt) rfl (by rw [tw_clt', tw_nlt (by omega) (by omega)] <;> omega) ?_
      show tw_P L xs _ 182 3 [.int (nI a), .int (nI 1), .int (nI 50)] [] σ _
      refine tw_sg 2 (i1 := 5) (ls1 := [.int (nI a), .int (nI 1), .int (nI 50)]) (st1 := [.int (nI 50), .int (nI a)]) (σ1 := σ) rfl ?_
      refine tw_biT (c := .gt) rfl (by rw [tw_cgt, tw_nlt (by omega) (by omega)] <;> omega) ?_
      show tw_P L xs _ 182 8 [.int (nI a), .int (nI 1), .int (nI 50)] [] σ _
      refine tw_sg 1 (i1 := 9) (ls1 := [.int (nI a), .int (nI 1), .int (nI 50)]) (st1 := [.int (nI 0)]) (σ1 := σ) rfl ?_
      refine tw_ri rfl (rfl) ?_
      show tw_P L xs _ 212 4 [.ref 88, .int (nI a), tw_U] [.int (nI 0)] σ _
      refine tw_bzF (c := .ne) rfl (by rw [tw_cne', tw_neq (by omega) (by omega)] <;> omega) ?_
      show tw_P L xs _ 212 5 [.ref 88, .int (nI a), tw_U] [] σ _
      refine tw_sg 1 (i1 := 6) (ls1 := [.ref 88, .int (nI a), tw_U]) (st1 := [.int (-2)]) (σ1 := σ) rfl ?_
      refine tw_ri rfl (rfl) ?_
      exact ⟨rfl, hI⟩
    · rcases Nat.eq_zero_or_pos n with hn0 | hpos
      · subst hn0
        show tw_P L xs _ 143 0 [.ref 1, .int (nI a), tw_U] [] σ _
        refine tw_sg 2 (i1 := 2) (ls1 := [.ref 1, .int (nI a), tw_U]) (st1 := [.int (nI 1), .int (nI a)]) (σ1 := σ) rfl ?_
        refine tw_biF (c := .lt) rfl (by rw [tw_clt', tw_nlt (by omega) (by omega)] <;> omega) ?_
        show tw_P L xs _ 143 3 [.ref 1, .int (nI a), tw_U] [] σ _
        refine tw_sg 2 (i1 := 5) (ls1 := [.ref 1, .int (nI a), tw_U]) (st1 := [.int (nI 50), .int (nI a)]) (σ1 := σ) rfl ?_
        refine tw_biT (c := .le) rfl (by rw [tw_cle, tw_nle (by omega) (by omega)] <;> omega) ?_
        show tw_P L xs _ 143 8 [.ref 1, .int (nI a), tw_U] [] σ _
        refine tw_sg 2 (i1 := 10) (ls1 := [.ref 1, .int (nI a), tw_U]) (st1 := [.ref 6]) (σ1 := σ) rfl ?_
        refine tw_cl0 59 rfl (rfl) (by decide) ?_
        show tw_P L xs _ 82 0 [.ref 6] [] σ _
        refine tw_sgn 2 (i1 := 2) (ls0 := [.ref 6]) (st0 := [.int (σ 6 4)]) (σ0 := σ) (ls1 := [.ref 6]) (st1 := [.int (nI 0)]) (σ1 := σ) rfl (rfl) (by simp only [hn6, tw_nadd, tw_nmul]) (rfl) ?_
        refine tw_ri rfl (rfl) ?_
        show tw_P L xs _ 143 11 [.ref 1, .int (nI a), tw_U] [.int (nI 0)] σ _
        refine tw_bzF (c := .ne) rfl (by rw [tw_cne', tw_neq (by omega) (by omega)] <;> omega) ?_
        show tw_P L xs _ 143 12 [.ref 1, .int (nI a), tw_U] [] σ _
        refine tw_sg 1 (i1 := 13) (ls1 := [.ref 1, .int (nI a), tw_U]) (st1 := [.int (-3)]) (σ1 := σ) rfl ?_
        refine tw_ri rfl (rfl) ?_
        refine ⟨_, rfl, ?_⟩
        show tw_P L xs _ 212 0 [.ref 88, .int (nI a), tw_U] [] σ _
        refine tw_sg 3 (i1 := 3) (ls1 := [.ref 88, .int (nI a), tw_U]) (st1 := [.int (nI 50), .int (nI 1), .int (nI a)]) (σ1 := σ) rfl ?_
        refine tw_cl0 59 rfl (rfl) (by decide) ?_
        show tw_P L xs _ 182 0 [.int (nI a), .int (nI 1), .int (nI 50)] [] σ _
        refine tw_sg 2 (i1 := 2) (ls1 := [.int (nI a), .int (nI 1), .int (nI 50)]) (st1 := [.int (nI 1), .int (nI a)]) (σ1 := σ) rfl ?_
        refine tw_biF (c := .lt) rfl (by rw [tw_clt', tw_nlt (by omega) (by omega)] <;> omega) ?_
        show tw_P L xs _ 182 3 [.int (nI a), .int (nI 1), .int (nI 50)] [] σ _
        refine tw_sg 2 (i1 := 5) (ls1 := [.int (nI a), .int (nI 1), .int (nI 50)]) (st1 := [.int (nI 50), .int (nI a)]) (σ1 := σ) rfl ?_
        refine tw_biF (c := .gt) rfl (by rw [tw_cgt', tw_nlt (by omega) (by omega)] <;> omega) ?_
        show tw_P L xs _ 182 6 [.int (nI a), .int (nI 1), .int (nI 50)] [] σ _
        refine tw_sg 2 (i1 := 9) (ls1 := [.int (nI a), .int (nI 1), .int (nI 50)]) (st1 := [.int (nI 1)]) (σ1 := σ) rfl ?_
        refine tw_ri rfl (rfl) ?_
        show tw_P L xs _ 212 4 [.ref 88, .int (nI a), tw_U] [.int (nI 1)] σ _
        refine tw_bzT (c := .ne) rfl (by rw [tw_cne, tw_neq (by omega) (by omega)] <;> omega) ?_
        show tw_P L xs _ 212 7 [.ref 88, .int (nI a), tw_U] [] σ _
        refine tw_sg 3 (i1 := 10) (ls1 := [.ref 88, .int (nI a), tw_U]) (st1 := [.int (nI 0), .ref 89]) (σ1 := σ) rfl ?_
        refine tw_al (k := 89) (j := 0) (len := 2) rfl rfl rfl rfl (rfl) (by omega) (by decide) ?_
        rw [hn89]
        refine tw_bzF (c := .ne) rfl (by rw [tw_cne', tw_neq (by omega) (by omega)] <;> omega) ?_
        show tw_P L xs _ 212 12 [.ref 88, .int (nI a), tw_U] [] σ _
        refine tw_sg 1 (i1 := 13) (ls1 := [.ref 88, .int (nI a), tw_U]) (st1 := [.int (-3)]) (σ1 := σ) rfl ?_
        refine tw_ri rfl (rfl) ?_
        exact ⟨rfl, hI⟩
      · skip
        show tw_P L xs _ 143 0 [.ref 1, .int (nI a), tw_U] [] σ _
        refine tw_sg 2 (i1 := 2) (ls1 := [.ref 1, .int (nI a), tw_U]) (st1 := [.int (nI 1), .int (nI a)]) (σ1 := σ) rfl ?_
        refine tw_biF (c := .lt) rfl (by rw [tw_clt', tw_nlt (by omega) (by omega)] <;> omega) ?_
        show tw_P L xs _ 143 3 [.ref 1, .int (nI a), tw_U] [] σ _
        refine tw_sg 2 (i1 := 5) (ls1 := [.ref 1, .int (nI a), tw_U]) (st1 := [.int (nI 50), .int (nI a)]) (σ1 := σ) rfl ?_
        refine tw_biT (c := .le) rfl (by rw [tw_cle, tw_nle (by omega) (by omega)] <;> omega) ?_
        show tw_P L xs _ 143 8 [.ref 1, .int (nI a), tw_U] [] σ _
        refine tw_sg 2 (i1 := 10) (ls1 := [.ref 1, .int (nI a), tw_U]) (st1 := [.ref 6]) (σ1 := σ) rfl ?_
        refine tw_cl0 59 rfl (rfl) (by decide) ?_
        show tw_P L xs _ 82 0 [.ref 6] [] σ _
        refine tw_sgn 2 (i1 := 2) (ls0 := [.ref 6]) (st0 := [.int (σ 6 4)]) (σ0 := σ) (ls1 := [.ref 6]) (st1 := [.int (nI n)]) (σ1 := σ) rfl (rfl) (by simp only [hn6, tw_nadd, tw_nmul]) (rfl) ?_
        refine tw_ri rfl (rfl) ?_
        show tw_P L xs _ 143 11 [.ref 1, .int (nI a), tw_U] [.int (nI n)] σ _
        refine tw_bzT (c := .ne) rfl (by rw [tw_cne, tw_neq (by omega) (by omega)] <;> omega) ?_
        show tw_P L xs _ 143 14 [.ref 1, .int (nI a), tw_U] [] σ _
        refine tw_sg 2 (i1 := 16) (ls1 := [.ref 1, .int (nI a), .int (nI 0)]) (st1 := []) (σ1 := σ) rfl ?_
        refine tw_P_mono (tw_P_le (d := 12) (tw_l_weave hz.2 a 0 σ σ (by omega) hI (fun _ _ _ _ => rfl)) (by decide)) ?_
        rintro _ τ ⟨u, α', rfl, hI2, hC, hk, hM⟩
        refine ⟨_, rfl, ?_⟩
        show tw_P L xs _ 212 0 [.ref 88, .int (nI a), tw_U] [] τ _
        refine tw_sg 3 (i1 := 3) (ls1 := [.ref 88, .int (nI a), tw_U]) (st1 := [.int (nI 50), .int (nI 1), .int (nI a)]) (σ1 := τ) rfl ?_
        refine tw_cl0 59 rfl (rfl) (by decide) ?_
        show tw_P L xs _ 182 0 [.int (nI a), .int (nI 1), .int (nI 50)] [] τ _
        refine tw_sg 2 (i1 := 2) (ls1 := [.int (nI a), .int (nI 1), .int (nI 50)]) (st1 := [.int (nI 1), .int (nI a)]) (σ1 := τ) rfl ?_
        refine tw_biF (c := .lt) rfl (by rw [tw_clt', tw_nlt (by omega) (by omega)] <;> omega) ?_
        show tw_P L xs _ 182 3 [.int (nI a), .int (nI 1), .int (nI 50)] [] τ _
        refine tw_sg 2 (i1 := 5) (ls1 := [.int (nI a), .int (nI 1), .int (nI 50)]) (st1 := [.int (nI 50), .int (nI a)]) (σ1 := τ) rfl ?_
        refine tw_biF (c := .gt) rfl (by rw [tw_cgt', tw_nlt (by omega) (by omega)] <;> omega) ?_
        show tw_P L xs _ 182 6 [.int (nI a), .int (nI 1), .int (nI 50)] [] τ _
        refine tw_sg 2 (i1 := 9) (ls1 := [.int (nI a), .int (nI 1), .int (nI 50)]) (st1 := [.int (nI 1)]) (σ1 := τ) rfl ?_
        refine tw_ri rfl (rfl) ?_
        show tw_P L xs _ 212 4 [.ref 88, .int (nI a), tw_U] [.int (nI 1)] τ _
        refine tw_bzT (c := .ne) rfl (by rw [tw_cne, tw_neq (by omega) (by omega)] <;> omega) ?_
        show tw_P L xs _ 212 7 [.ref 88, .int (nI a), tw_U] [] τ _
        refine tw_sg 3 (i1 := 10) (ls1 := [.ref 88, .int (nI a), tw_U]) (st1 := [.int (nI 0), .ref 89]) (σ1 := τ) rfl ?_
        refine tw_al (k := 89) (j := 0) (len := 2) rfl rfl rfl rfl (rfl) (by omega) (by decide) ?_
        rw [(show τ 89 0 = nI n from by rw [hk _ _ (by omega)]; exact hn89)]
        refine tw_bzT (c := .ne) rfl (by rw [tw_cne, tw_neq (by omega) (by omega)] <;> omega) ?_
        show tw_P L xs _ 212 14 [.ref 88, .int (nI a), tw_U] [] τ _
        refine tw_sg 2 (i1 := 16) (ls1 := [.ref 88, .int (nI a), .int (nI 0)]) (st1 := []) (σ1 := τ) rfl ?_
        refine tw_P_mono (tw_P_le (hM τ (fun k j g1 g2 => hk k j g1)) (by decide)) ?_
        rintro _ ω ⟨rfl, b1, b2⟩
        refine ⟨rfl, hI2.keep (fun k j g => ?_)⟩
        by_cases hk88 : k < 88
        · rw [b2 k j hk88]; exact hC k j hk88 (fun e => g (by unfold tw_scr; omega))
        · exact b1 k j (by omega) (fun e => g (by unfold tw_scr; omega))
end tw_s47
