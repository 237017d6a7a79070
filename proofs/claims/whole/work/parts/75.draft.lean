/-! weaveDraft -/
section tw_s75
variable {L : Nat} {xs : Nat → Int32} {σ : tw_Mem} {x y w : Int32} {n r i c k h q a b e : Nat}
/-- alike in the reference's cells but for what is only thought of -/
def tw_agN (σ α : tw_Mem) : Prop := ∀ k j, 88 ≤ k → ¬ k = 110 → ¬ k = 114 → ¬ k = 115 → σ k j = α k j
theorem tw_wkN_uq {σ α υ ω : tw_Mem} {n r : Nat} {T P q : Nat → Nat} (h : tw_agN σ α) (h1 : tw_wkM σ υ r T P q n) (h2 : tw_wkM α ω r T P q n) : tw_agN υ ω := by
  intro k j hk hk2 hk3 hk4
  by_cases g1 : 93 ≤ k ∧ k ≤ 94 ∧ j < n
  · obtain ⟨a1, a2, -⟩ := h1.2 j g1.2.2
    obtain ⟨b1, b2, -⟩ := h2.2 j g1.2.2
    rcases (show k = 93 ∨ k = 94 by omega) with rfl | rfl
    · rw [a2, b2]
    · rw [a1, b1, h 94 j (by omega) (by omega) (by omega) (by omega)]
  · by_cases g2 : 95 ≤ k ∧ k ≤ 98 ∧ 10 * r ≤ j ∧ j < 10 * r + n
    · obtain ⟨d, hd⟩ : ∃ d, j = 10 * r + d := ⟨j - 10 * r, by omega⟩
      subst hd
      obtain ⟨-, -, a1, a2, a3, a4⟩ := h1.2 d (by omega)
      obtain ⟨-, -, b1, b2, b3, b4⟩ := h2.2 d (by omega)
      rcases (show k = 95 ∨ k = 96 ∨ k = 97 ∨ k = 98 by omega) with rfl | rfl | rfl | rfl
      · rw [a1, b1, h 91 _ (by omega) (by omega) (by omega) (by omega)]
      · rw [a2, b2, h 91 _ (by omega) (by omega) (by omega) (by omega)]
      · rw [a3, b3]
      · rw [a4, b4]
    · rw [h1.1 k j g1 g2, h2.1 k j g1 g2, h k j hk hk2 hk3 hk4]
/-- rows taken back, said outright -/
def tw_uwX (β : tw_Mem) (n r : Nat) (T : Nat → Nat → Nat) (P : Nat → Nat) (m : Nat) : tw_Mem := fun k j => if 93 ≤ k ∧ k ≤ 94 ∧ j < n then (if k = 94 then tw_tq (β 94 j) (fun i => T i j) r m else nI (tw_pq (P j) (fun i => T i j) r m)) else if k = 90 ∧ j = 0 then nI (r - m) else β k j
theorem tw_uwX_uw {β : tw_Mem} {n r m : Nat} {T : Nat → Nat → Nat} {P : Nat → Nat} : tw_uwM β (tw_uwX β n r T P m) n r T P m := by
  refine ⟨fun k j g1 g2 => ?_, ?_, fun c hc => ⟨?_, ?_⟩⟩
  · unfold tw_uwX; rw [if_neg g1, if_neg g2]
  · unfold tw_uwX; rw [if_neg (by omega), if_pos ⟨rfl, rfl⟩]
  · unfold tw_uwX; rw [if_pos ⟨by omega, by omega, hc⟩, if_pos rfl]
  · unfold tw_uwX; rw [if_pos ⟨by omega, by omega, hc⟩, if_neg (by omega)]
theorem tw_uwN_uq {σ α υ ω : tw_Mem} {n r m : Nat} {T : Nat → Nat → Nat} {P : Nat → Nat} (h : tw_agN σ α) (h1 : tw_uwM σ υ n r T P m) (h2 : tw_uwM α ω n r T P m) : tw_agN υ ω := by
  intro k j hk hk2 hk3 hk4
  by_cases g1 : 93 ≤ k ∧ k ≤ 94 ∧ j < n
  · obtain ⟨a1, a2⟩ := h1.2.2 j g1.2.2
    obtain ⟨b1, b2⟩ := h2.2.2 j g1.2.2
    rcases (show k = 93 ∨ k = 94 by omega) with rfl | rfl
    · rw [a2, b2]
    · rw [a1, b1, h 94 j (by omega) (by omega) (by omega) (by omega)]
  · by_cases g2 : k = 90 ∧ j = 0
    · rw [g2.1, g2.2, h1.2.1, h2.2.1]
    · rw [h1.1 k j g1 g2, h2.1 k j g1 g2, h k j hk hk2 hk3 hk4]
/-- the loop's end: the class's, and the reference's whole run from any memory that is alike -/
def tw_wdPost (L : Nat) (xs : Nat → Int32) (T : Nat → Nat → Nat) (H n l : Nat) (σ α : tw_Mem) (v : Option Value) (τ : tw_Mem) : Prop := ∃ (u : Int32) (α' : tw_Mem), v = some (.int u) ∧ tw_Inv α' ∧ tw_agC τ α' ∧ (∀ k j, 88 ≤ k → τ k j = σ k j) ∧ ∀ υ u2, tw_agN υ α → (∀ i c, i < H → c < n → υ 115 (10 * i + c) = nI (T i c)) → tw_P L xs 10 235 57 [.ref 88, .int (nI l), u2] [] υ (fun v2 ω => v2 = some (.int u) ∧ tw_agN ω α' ∧ ∀ k j, k < 88 → ω k j = υ k j)
set_option maxHeartbeats 4000000 in
set_option maxRecDepth 100000 in
theorem tw_l_wd {L : Nat} {xs : Nat → Int32} {T : Nat → Nat → Nat} {H n : Nat} (hH : H ≤ 8) (hT4 : ∀ l c, T l c < 4) : ∀ (f l : Nat) (σ α : tw_Mem) (r : Nat), l + f = H → tw_Inv α → tw_iLoom α 6 0 n r → l ≤ r → r + f ≤ 50 → tw_agC σ α → α 88 32 = nI H → (∀ i c, i < H → c < n → σ 84 (i * 10 + c) = nI (T i c)) → tw_P L xs 9 158 33 [.ref 1, .int (nI H), .int (nI l)] [] σ (tw_wdPost L xs T H n l σ α) := by
  intro f
  induction f with
  | zero =>
    intro l σ α r hf hI hLo hlr hr5 hs h32 h84
    have hf : l = H := hf
    rw [hf]
    obtain ⟨⟨hn10, hr50⟩, ⟨hn6, hn89⟩, ⟨hr9, hw9, hr90⟩, hCa, hRo, hLa⟩ := id hLo
    have hr90 : α 90 0 = nI r := hr90
    have hr9 : α 9 3 = nI r := hr9
    refine tw_sg 2 (i1 := 35) (ls1 := [.ref 1, .int (nI H), .int (nI H)]) (st1 := [.int (nI H), .int (nI H)]) (σ1 := σ) rfl ?_
    refine tw_biT (c := .ge) rfl (by rw [tw_cge, tw_nle (by omega) (by omega)] <;> omega) ?_
    show tw_P L xs _ 158 52 [.ref 1, .int (nI H), .int (nI H)] [] σ _
    refine tw_sg 2 (i1 := 54) (ls1 := [.ref 1, .int (nI H), .int (nI H)]) (st1 := [.ref 6]) (σ1 := σ) rfl ?_
    refine tw_cl0 8 rfl (rfl) (by decide) ?_
    show tw_P L xs _ 83 0 [.ref 6] [] σ _
    refine tw_sg 2 (i1 := 2) (ls1 := [.ref 6]) (st1 := [.ref 9]) (σ1 := σ) rfl ?_
    refine tw_ra rfl ?_
    show tw_P L xs _ 158 55 [.ref 1, .int (nI H), .int (nI H)] [.ref 9] σ _
    refine tw_cl0 8 rfl (rfl) (by decide) ?_
    show tw_P L xs _ 17 0 [.ref 9] [] σ _
    refine tw_sgn 2 (i1 := 2) (ls0 := [.ref 9]) (st0 := [.int (σ 9 3)]) (σ0 := σ) (ls1 := [.ref 9]) (st1 := [.int (nI r)]) (σ1 := σ) rfl (rfl) (by simp only [((hs 9 3 (by omega) (by omega)).trans hr9), tw_nadd, tw_nmul]) (rfl) ?_
    refine tw_ri rfl (rfl) ?_
    show tw_P L xs _ 158 56 [.ref 1, .int (nI H), .int (nI H)] [.int (nI r)] σ _
    refine tw_ri rfl (rfl) ?_
    refine ⟨nI r, α, rfl, hI, hs, fun _ _ _ => rfl, fun υ u2 hυ hTB => ?_⟩
    refine tw_sgn 3 (i1 := 60) (ls0 := [.ref 88, .int (nI H), u2]) (st0 := [.int (υ 88 32), .int (nI H)]) (σ0 := υ) (ls1 := [.ref 88, .int (nI H), u2]) (st1 := [.int (nI H), .int (nI H)]) (σ1 := υ) rfl (rfl) (by simp only [((hυ 88 32 (by omega) (by omega) (by omega) (by omega)).trans h32), tw_nadd, tw_nmul]) (rfl) ?_
    refine tw_biT (c := .ge) rfl (by rw [tw_cge, tw_nle (by omega) (by omega)] <;> omega) ?_
    show tw_P L xs _ 235 97 [.ref 88, .int (nI H), u2] [] υ _
    refine tw_sg 3 (i1 := 100) (ls1 := [.ref 88, .int (nI H), u2]) (st1 := [.int (nI 0), .ref 90]) (σ1 := υ) rfl ?_
    refine tw_al (k := 90) (j := 0) (len := 2) rfl rfl rfl rfl (rfl) (by omega) (by decide) ?_
    rw [((hυ 90 0 (by omega) (by omega) (by omega) (by omega)).trans hr90)]
    refine tw_ri rfl (rfl) ?_
    exact ⟨rfl, hυ, fun _ _ _ => rfl⟩
  | succ f ih =>
    intro l σ α r hf hI hLo hlr hr5 hs h32 h84
    obtain ⟨⟨hn10, hr50⟩, ⟨hn6, hn89⟩, ⟨hr9, hw9, hr90⟩, hCa, hRo, hLa⟩ := id hLo
    have hn89 : α 89 0 = nI n := hn89
    have hr90 : α 90 0 = nI r := hr90
    obtain ⟨P, q, hPq⟩ := tw_cardsP hCa
    obtain ⟨R, hR⟩ := tw_rowsT hRo
    have hlH : l < H := by omega
    have h50 : r < 50 := by omega
    by_cases hj : tw_jm α (T l) n
    · skip
      refine tw_sg 2 (i1 := 35) (ls1 := [.ref 1, .int (nI H), .int (nI l)]) (st1 := [.int (nI H), .int (nI l)]) (σ1 := σ) rfl ?_
      refine tw_biF (c := .ge) rfl (by rw [tw_cge', tw_nle (by omega) (by omega)] <;> omega) ?_
      show tw_P L xs _ 158 36 [.ref 1, .int (nI H), .int (nI l)] [] σ _
      refine tw_sg 5 (i1 := 41) (ls1 := [.ref 1, .int (nI H), .int (nI l)]) (st1 := [.int (nI l), .ref 81, .ref 6]) (σ1 := σ) rfl ?_
      refine tw_cl1 rfl (rfl) (by decide) (tw_e_pd0 (T := T) hI hLo hs h50 hlH hH (hT4 l) (fun c hc => h84 l c hlH hc) hj) ?_
      rintro _ τ ⟨rfl, h⟩
      show tw_P L xs _ 158 42 [.ref 1, .int (nI H), .int (nI l)] [.int (nI 0)] τ _
      refine tw_bzF (c := .ne) rfl (by rw [tw_cne', tw_neq (by omega) (by omega)] <;> omega) ?_
      show tw_P L xs _ 158 43 [.ref 1, .int (nI H), .int (nI l)] [] τ _
      refine tw_sg 3 (i1 := 46) (ls1 := [.ref 1, .int (nI H), .int (nI l)]) (st1 := [.int (nI l), .ref 6]) (σ1 := τ) rfl ?_
      refine tw_cl1 rfl (rfl) (by decide) (tw_e_take (r := r) (m := l) (x := l) (T := R) (P := P) (by rw [h.1 _ _ (by omega)]; exact (hs 6 4 (by omega) (by omega)).trans hn6) (by rw [h.1 _ _ (by omega)]; exact (hs 9 3 (by omega) (by omega)).trans hr9) (by rw [h.1 _ _ (by omega)]; exact (hs 9 4 (by omega) (by omega)).trans hw9) hr50 hn10 (fun i hi c hc => ⟨(hR i hi c hc).1, by rw [h.1 _ _ (by omega)]; exact (hs 10 _ (by omega) (by omega)).trans (hR i hi c hc).2.2⟩) (fun c hc => ⟨(hPq c hc).1.1, by rw [h.1 _ _ (by omega)]; exact (hs _ _ (by omega) (by omega)).trans (hPq c hc).1.2.1⟩) (by omega) (Nat.le_refl _) hlr (Or.inl rfl)) ?_
      rintro _ γ ⟨rfl, hC⟩
      show tw_P L xs _ 158 47 [.ref 1, .int (nI H), .int (nI l)] [.int (nI l)] γ _
      refine tw_sg 2 (i1 := 49) (ls1 := [.ref 1, .int (nI H), .int (nI l)]) (st1 := [.int (-6)]) (σ1 := γ) rfl ?_
      refine tw_ri rfl (rfl) ?_
      have hU := @tw_uwX_uw (tw_mg γ α) n r l R P
      have hCα : ∀ k j, k < 88 → ¬ k = 8 → τ k j = α k j := fun k j a b => by rw [h.1 k j b]; exact hs k j a b
      have hZ : tw_Inv (tw_uwX (tw_mg γ α) n r R P l) := (tw_Inv_unw hI hLo hlr (fun i hi c hc => ⟨(hR i hi c hc).1, (hR i hi c hc).2.1⟩) (fun c hc => (hPq c hc).1.1) (fun k j g1 g2 g3 g4 g5 g6 => by
          rw [hU.1 k j g6 g4]
          by_cases z : k < 88
          · rw [tw_mg_lo z, hC.1 k j g5 g3]; exact hCα k j z g1
          · rw [tw_mg_hi (by omega)]) (by rw [hU.1 9 3 (by omega) (by omega), tw_mg_lo (by omega)]; exact hC.2.1) hU.2.1 (fun c hc => by
          obtain ⟨c1, c2⟩ := hC.2.2 c hc
          rw [hU.1 _ _ (by omega) (by omega), hU.1 _ _ (by omega) (by omega), tw_mg_lo (by omega), tw_mg_lo (by omega), c1, c2, hCα _ _ (by omega) (by omega)]
          exact ⟨rfl, rfl⟩) (fun c hc => by
          obtain ⟨c1, c2⟩ := hU.2.2 c hc
          rw [c1, c2, tw_mg_hi (by omega)]
          exact ⟨rfl, rfl⟩)).1
      refine ⟨(-6), tw_uwX (tw_mg γ α) n r R P l, rfl, hZ, fun k j a b => by rw [hU.1 k j (by omega) (by omega), tw_mg_lo a], fun k j a => by rw [hC.1 k j (by omega) (by omega), h.1 k j (by omega)], fun υ u2 hυ hTB => ?_⟩
      refine tw_sgn 3 (i1 := 60) (ls0 := [.ref 88, .int (nI l), u2]) (st0 := [.int (υ 88 32), .int (nI l)]) (σ0 := υ) (ls1 := [.ref 88, .int (nI l), u2]) (st1 := [.int (nI H), .int (nI l)]) (σ1 := υ) rfl (rfl) (by simp only [((hυ 88 32 (by omega) (by omega) (by omega) (by omega)).trans h32), tw_nadd, tw_nmul]) (rfl) ?_
      refine tw_biF (c := .ge) rfl (by rw [tw_cge', tw_nle (by omega) (by omega)] <;> omega) ?_
      show tw_P L xs _ 235 61 [.ref 88, .int (nI l), u2] [] υ _
      refine tw_sg 2 (i1 := 63) (ls1 := [.ref 88, .int (nI l), .int (nI 0)]) (st1 := []) (σ1 := υ) rfl ?_
      refine tw_l_dlay (T := T) (n := n) (l := l) ((hυ 89 0 (by omega) (by omega) (by omega) (by omega)).trans hn89) hn10 (by omega) (fun c hc => hTB l c hlH hc) (fun υ1 g => ?_) n 0 υ (by omega) ⟨fun _ _ _ => rfl, fun d hd => by omega⟩
      have hN1 : tw_agN υ1 (tw_mg γ α) := fun k j a b c e => by rw [g.1 k j b, hυ k j a b c e, tw_mg_hi a]
      rcases Nat.eq_zero_or_pos l with hl0 | hl0
      · skip
        have hW : tw_uwM υ1 υ1 n r R P l := by
          rw [hl0]
          exact ⟨fun _ _ _ _ => rfl, (by rw [g.1 _ _ (by omega)]; exact (hυ 90 0 (by omega) (by omega) (by omega) (by omega)).trans hr90), fun c hc => ⟨rfl, by rw [g.1 _ _ (by omega), (hυ 93 _ (by omega) (by omega) (by omega) (by omega))]; exact (hPq c hc).1.2.2⟩⟩
        refine tw_sg 1 (i1 := 84) (ls1 := [.ref 88, .int (nI l), .int (nI n)]) (st1 := [.ref 88]) (σ1 := υ1) rfl ?_
        refine tw_cl1 rfl (rfl) (by decide) (tw_e_pickM0 (P := id) (q := id) (σ := υ1) (n := n) (r := r) (T := T l) (by rw [g.1 _ _ (by omega)]; exact (hυ 89 0 (by omega) (by omega) (by omega) (by omega)).trans hn89) (by rw [g.1 _ _ (by omega)]; exact (hυ 90 0 (by omega) (by omega) (by omega) (by omega)).trans hr90) hr50 hn10 (fun c hc => ⟨hT4 l c, g.2 c hc hc⟩) h50 ((tw_jm_cg (fun c => by rw [g.1 _ _ (by omega)]; exact (hυ 94 c (by omega) (by omega) (by omega) (by omega)))).mpr hj)) ?_
        rintro _ _ ⟨rfl, rfl⟩
        show tw_P L xs _ 235 85 [.ref 88, .int (nI l), .int (nI n)] [.int (-6)] υ1 _
        refine tw_bzT (c := .lt) rfl (by rw [tw_clt] <;> (exact (by decide))) ?_
        show tw_P L xs _ 235 87 [.ref 88, .int (nI l), .int (nI n)] [] υ1 _
        refine tw_sg 1 (i1 := 88) (ls1 := [.ref 88, .int (nI l), .int (nI n)]) (st1 := [.int (nI l)]) (σ1 := υ1) rfl ?_
        refine tw_bzT (c := .le) rfl (by rw [tw_cle] <;> (rw [tw_nle (by omega) (by omega)]; omega)) ?_
        show tw_P L xs _ 235 93 [.ref 88, .int (nI l), .int (nI n)] [] υ1 _
        refine tw_sg 1 (i1 := 94) (ls1 := [.ref 88, .int (nI l), .int (nI n)]) (st1 := [.int (-6)]) (σ1 := υ1) rfl ?_
        refine tw_ri rfl (rfl) ?_
        exact ⟨rfl, tw_uwN_uq hN1 hW tw_uwX_uw, fun k j a => g.1 k j (by omega)⟩
      · skip
        refine tw_sg 1 (i1 := 84) (ls1 := [.ref 88, .int (nI l), .int (nI n)]) (st1 := [.ref 88]) (σ1 := υ1) rfl ?_
        refine tw_cl1 rfl (rfl) (by decide) (tw_e_pickM0 (P := id) (q := id) (σ := υ1) (n := n) (r := r) (T := T l) (by rw [g.1 _ _ (by omega)]; exact (hυ 89 0 (by omega) (by omega) (by omega) (by omega)).trans hn89) (by rw [g.1 _ _ (by omega)]; exact (hυ 90 0 (by omega) (by omega) (by omega) (by omega)).trans hr90) hr50 hn10 (fun c hc => ⟨hT4 l c, g.2 c hc hc⟩) h50 ((tw_jm_cg (fun c => by rw [g.1 _ _ (by omega)]; exact (hυ 94 c (by omega) (by omega) (by omega) (by omega)))).mpr hj)) ?_
        rintro _ _ ⟨rfl, rfl⟩
        show tw_P L xs _ 235 85 [.ref 88, .int (nI l), .int (nI n)] [.int (-6)] υ1 _
        refine tw_bzT (c := .lt) rfl (by rw [tw_clt] <;> (exact (by decide))) ?_
        show tw_P L xs _ 235 87 [.ref 88, .int (nI l), .int (nI n)] [] υ1 _
        refine tw_sg 1 (i1 := 88) (ls1 := [.ref 88, .int (nI l), .int (nI n)]) (st1 := [.int (nI l)]) (σ1 := υ1) rfl ?_
        refine tw_bzF (c := .le) rfl (by rw [tw_cle'] <;> (rw [tw_nle (by omega) (by omega)]; omega)) ?_
        show tw_P L xs _ 235 89 [.ref 88, .int (nI l), .int (nI n)] [] υ1 _
        refine tw_sg 2 (i1 := 91) (ls1 := [.ref 88, .int (nI l), .int (nI n)]) (st1 := [.int (nI l), .ref 88]) (σ1 := υ1) rfl ?_
        refine tw_cl1 rfl (rfl) (by decide) (tw_e_munw (σ := υ1) (n := n) (r := r) (m := l) (x := l) (T := R) (P := P) (by rw [g.1 _ _ (by omega)]; exact (hυ 89 0 (by omega) (by omega) (by omega) (by omega)).trans hn89) (by rw [g.1 _ _ (by omega)]; exact (hυ 90 0 (by omega) (by omega) (by omega) (by omega)).trans hr90) hr50 hn10 (fun i hi c hc => ⟨(hR i hi c hc).1, by rw [g.1 _ _ (by omega), (hυ 98 _ (by omega) (by omega) (by omega) (by omega))]; exact (hR i hi c hc).2.1⟩) (fun c hc => ⟨(hPq c hc).1.1, by rw [g.1 _ _ (by omega), (hυ 93 _ (by omega) (by omega) (by omega) (by omega))]; exact (hPq c hc).1.2.2⟩) (by omega) hl0 (Nat.le_refl _) hlr (Or.inl rfl)) ?_
        rintro _ ω ⟨rfl, hW⟩
        show tw_P L xs _ 235 92 [.ref 88, .int (nI l), .int (nI n)] [.int (nI l)] ω _
        refine tw_sg 2 (i1 := 94) (ls1 := [.ref 88, .int (nI l), .int (nI n)]) (st1 := [.int (-6)]) (σ1 := ω) rfl ?_
        refine tw_ri rfl (rfl) ?_
        exact ⟨rfl, tw_uwN_uq hN1 hW tw_uwX_uw, fun k j a => by rw [hW.1 k j (by omega) (by omega), g.1 k j (by omega)]⟩
    · skip
      refine tw_sg 2 (i1 := 35) (ls1 := [.ref 1, .int (nI H), .int (nI l)]) (st1 := [.int (nI H), .int (nI l)]) (σ1 := σ) rfl ?_
      refine tw_biF (c := .ge) rfl (by rw [tw_cge', tw_nle (by omega) (by omega)] <;> omega) ?_
      show tw_P L xs _ 158 36 [.ref 1, .int (nI H), .int (nI l)] [] σ _
      refine tw_sg 5 (i1 := 41) (ls1 := [.ref 1, .int (nI H), .int (nI l)]) (st1 := [.int (nI l), .ref 81, .ref 6]) (σ1 := σ) rfl ?_
      refine tw_cl1 rfl (rfl) (by decide) (tw_e_pd1 (T := T) hI hLo hs h50 hlH hH (hT4 l) (fun c hc => h84 l c hlH hc) hj hPq) ?_
      rintro _ τ ⟨rfl, τl, τ0, h, hw, hτ⟩
      show tw_P L xs _ 158 42 [.ref 1, .int (nI H), .int (nI l)] [.int (nI 1)] τ _
      refine tw_bzT (c := .ne) rfl (by rw [tw_cne, tw_neq (by omega) (by omega)] <;> omega) ?_
      show tw_P L xs _ 158 50 [.ref 1, .int (nI H), .int (nI l)] [] τ _
      refine tw_sgn 2 (i1 := 33) (ls0 := [.ref 1, .int (nI H), .int (nI l + nI 1)]) (st0 := []) (σ0 := τ) (ls1 := [.ref 1, .int (nI H), .int (nI (l + 1))]) (st1 := []) (σ1 := τ) rfl (by simp only [tw_nadd, tw_nmul]) (rfl) (rfl) ?_
      obtain ⟨τa, υ0, ha, wM, hI1, hC1⟩ := tw_pick_mg hI hLo h50 (fun c hc => hT4 l c) (fun k j g1 g2 => by rw [h.1 k j g2]; exact hs k j g1 g2) hw
      rw [← hτ] at hC1
      have e90 : tw_upd υ0 90 0 (nI (r + 1)) 90 0 = nI (r + 1) := tw_upd_at
      have e89 : tw_upd υ0 90 0 (nI (r + 1)) 89 0 = nI n := by rw [tw_upd_off (by omega), wM.1 89 0 (by omega) (by omega), ha 89 0 (by omega) (by omega)]; exact hn89
      have hL1 : tw_iLoom (tw_upd υ0 90 0 (nI (r + 1))) 6 0 n (r + 1) := by
        obtain ⟨n1, r1, hL1⟩ := hI1.1
        have en : n1 = n := tw_ninj (by have := hL1.1.1; omega) (by omega) (hL1.2.1.2.symm.trans e89)
        have er : r1 = r + 1 := tw_ninj (by have := hL1.1.2; omega) (by omega) (hL1.2.2.1.2.2.symm.trans e90)
        rw [en, er] at hL1; exact hL1
      have e32 : tw_upd υ0 90 0 (nI (r + 1)) 88 32 = nI H := by rw [tw_upd_off (by omega), wM.1 88 32 (by omega) (by omega), ha 88 32 (by omega) (by omega)]; exact h32
      have e84 : ∀ i c, i < H → c < n → τ 84 (i * 10 + c) = nI (T i c) := fun i c hi hc => by rw [hτ, tw_upd_off (by omega), hw.1 84 _ (by omega) (by omega), h.1 84 _ (by omega)]; exact h84 i c hi hc
      refine tw_P_mono (ih (l + 1) τ _ (r + 1) (by omega) hI1 hL1 (by omega) (by omega) hC1 e32 e84) ?_
      rintro v τ2 ⟨u, α', rfl, hI2, hC2, hk2, hM2⟩
      have hτk : ∀ k j, 88 ≤ k → τ k j = σ k j := fun k j g => by rw [hτ, tw_upd_off (by omega), hw.1 k j (by omega) (by omega), h.1 k j (by omega)]
      refine ⟨u, α', rfl, hI2, hC2, fun k j g => (hk2 k j g).trans (hτk k j g), fun υ u2 hυ hTB => ?_⟩
      refine tw_sgn 3 (i1 := 60) (ls0 := [.ref 88, .int (nI l), u2]) (st0 := [.int (υ 88 32), .int (nI l)]) (σ0 := υ) (ls1 := [.ref 88, .int (nI l), u2]) (st1 := [.int (nI H), .int (nI l)]) (σ1 := υ) rfl (rfl) (by simp only [((hυ 88 32 (by omega) (by omega) (by omega) (by omega)).trans h32), tw_nadd, tw_nmul]) (rfl) ?_
      refine tw_biF (c := .ge) rfl (by rw [tw_cge', tw_nle (by omega) (by omega)] <;> omega) ?_
      show tw_P L xs _ 235 61 [.ref 88, .int (nI l), u2] [] υ _
      refine tw_sg 2 (i1 := 63) (ls1 := [.ref 88, .int (nI l), .int (nI 0)]) (st1 := []) (σ1 := υ) rfl ?_
      refine tw_l_dlay (T := T) (n := n) (l := l) ((hυ 89 0 (by omega) (by omega) (by omega) (by omega)).trans hn89) hn10 (by omega) (fun c hc => hTB l c hlH hc) (fun υ1 g => ?_) n 0 υ (by omega) ⟨fun _ _ _ => rfl, fun d hd => by omega⟩
      refine tw_sg 1 (i1 := 84) (ls1 := [.ref 88, .int (nI l), .int (nI n)]) (st1 := [.ref 88]) (σ1 := υ1) rfl ?_
      refine tw_cl1 rfl (rfl) (by decide) (tw_e_pickM1 (P := P) (q := q) (σ := υ1) (n := n) (r := r) (T := T l) (by rw [g.1 _ _ (by omega)]; exact (hυ 89 0 (by omega) (by omega) (by omega) (by omega)).trans hn89) (by rw [g.1 _ _ (by omega)]; exact (hυ 90 0 (by omega) (by omega) (by omega) (by omega)).trans hr90) hr50 hn10 (fun c hc => ⟨hT4 l c, g.2 c hc hc⟩) h50 (fun z => hj ((tw_jm_cg (fun c => by rw [g.1 _ _ (by omega)]; exact (hυ 94 c (by omega) (by omega) (by omega) (by omega)))).mp z)) (fun c hc => ⟨(hPq c hc).1.1, by rw [g.1 _ _ (by omega), (hυ _ _ (by omega) (by omega) (by omega) (by omega))]; exact (hPq c hc).1.2.2⟩) (fun c hc => ⟨(hPq c hc).2.1, by rw [g.1 _ _ (by omega), (hυ _ _ (by omega) (by omega) (by omega) (by omega))]; exact (hPq c hc).2.2.2⟩)) ?_
      rintro _ ω ⟨rfl, υ2, gw, hω⟩
      show tw_P L xs _ 235 85 [.ref 88, .int (nI l), .int (nI n)] [.int (nI (r + 1))] ω _
      refine tw_bzF (c := .lt) rfl (by rw [tw_clt', tw_nlt (by omega) (by omega)] <;> omega) ?_
      show tw_P L xs _ 235 86 [.ref 88, .int (nI l), .int (nI n)] [] ω _
      refine tw_sgn 3 (i1 := 57) (ls0 := [.ref 88, .int (nI l + nI 1), .int (nI n)]) (st0 := []) (σ0 := ω) (ls1 := [.ref 88, .int (nI (l + 1)), .int (nI n)]) (st1 := []) (σ1 := ω) rfl (by simp only [tw_nadd, tw_nmul]) (rfl) (rfl) ?_
      refine tw_P_mono (hM2 ω _ (fun k j a b c e => ?_) (fun i c hi hc => ?_)) ?_
      · have z0 := tw_wkN_uq (σ := υ1) (α := τa) (fun k j a b c e => by rw [g.1 k j b, hυ k j a b c e, ha k j a b]) gw wM k j a b c e
        rw [hω]
        by_cases z : k = 90 ∧ j = 0
        · obtain ⟨rfl, rfl⟩ := z; rw [tw_upd_at, tw_upd_at]
        · rw [tw_upd_off z, tw_upd_off z]; exact z0
      · rw [hω, tw_upd_off (by omega), gw.1 115 _ (by omega) (by omega), g.1 115 _ (by omega)]; exact hTB i c hi hc
      · rintro v2 ω2 ⟨rfl, b1, b2⟩
        exact ⟨rfl, b1, fun k j a => by rw [b2 k j a, hω, tw_upd_off (by omega), gw.1 k j (by omega) (by omega), g.1 k j (by omega)]⟩
set_option maxHeartbeats 4000000 in
set_option maxRecDepth 100000 in
theorem tw_o_weaveDraft {L : Nat} {xs : Nat → Int32} : tw_op L xs 158 235 [] := by
  intro σ hI
  obtain ⟨⟨n, r, hL⟩, hT, hPp, hPc, hLs, hIm, hC14, hC46, hC72⟩ := id hI
  have hLo := hL
  obtain ⟨⟨hn10, hr50⟩, ⟨hn6, hn89⟩, ⟨hr9, hw9, hr90⟩, hCa, hRo, hLa⟩ := hL
  have hn6 : σ 6 4 = nI n := hn6
  have hn89 : σ 89 0 = nI n := hn89
  have hr9 : σ 9 3 = nI r := hr9
  have hw9 : σ 9 4 = nI n := hw9
  have hr90 : σ 90 0 = nI r := hr90
  obtain ⟨P, q, hPq⟩ := tw_cardsP hCa
  obtain ⟨H, hH8, h79, h32, hpic, -⟩ := id hPc
  obtain ⟨w, hw⟩ : ∃ w : Nat → Nat → Int32, ∀ c h, w c h = σ 91 (4 * c + h) := ⟨_, fun _ _ => rfl⟩
  obtain ⟨pc, hpc⟩ : ∃ pc : Nat → Nat → Int32, ∀ c l, pc c l = σ 113 (10 * l + c) := ⟨_, fun _ _ => rfl⟩
  have hDC : tw_dC σ w pc P H n := ⟨⟨hn10, hH8, h79, hn6⟩, fun c hc => ⟨fun h hh => ((tw_iCards0.mp hCa c hc).1 h hh).1.trans (hw c h).symm, fun l hl => (hpic _ (by omega)).trans (hpc c l).symm, (hPq c hc).1.1, (hPq c hc).1.2.1⟩⟩
  have hDM : tw_dM σ w pc P H n := ⟨⟨hn10, hH8, h32, hn89⟩, fun c hc => ⟨fun h hh => (hw c h).symm, fun l hl => (hpc c l).symm, (hPq c hc).1.1, (hPq c hc).1.2.2⟩⟩
  have hKM : ∀ {τ : tw_Mem}, tw_dF σ τ → tw_dM τ w pc P H n := fun h => hDM.to (fun k j g => h k j (by omega) (by omega))
  have hKI : ∀ {τ ω : tw_Mem}, tw_dF σ τ → tw_dG τ ω → tw_Inv ω := fun h g => hI.keep (fun k j e => by unfold tw_scr at e; exact (g k j (by omega)).trans (h k j (by omega) (by omega)))
  rcases Nat.eq_zero_or_pos n with hn0 | hpos
  · subst hn0
    show tw_P L xs _ 158 0 [.ref 1, tw_U, tw_U] [] σ _
    refine tw_sg 2 (i1 := 2) (ls1 := [.ref 1, tw_U, tw_U]) (st1 := [.ref 79]) (σ1 := σ) rfl ?_
    refine tw_cl0 59 rfl (rfl) (by decide) ?_
    show tw_P L xs _ 114 0 [.ref 79] [] σ _
    refine tw_sgn 2 (i1 := 2) (ls0 := [.ref 79]) (st0 := [.int (σ 79 1)]) (σ0 := σ) (ls1 := [.ref 79]) (st1 := [.int (nI H)]) (σ1 := σ) rfl (rfl) (by simp only [h79, tw_nadd, tw_nmul]) (rfl) ?_
    refine tw_ri rfl (rfl) ?_
    show tw_P L xs _ 158 3 [.ref 1, tw_U, tw_U] [.int (nI H)] σ _
    refine tw_sg 3 (i1 := 6) (ls1 := [.ref 1, .int (nI H), tw_U]) (st1 := [.ref 6]) (σ1 := σ) rfl ?_
    refine tw_cl0 59 rfl (rfl) (by decide) ?_
    show tw_P L xs _ 82 0 [.ref 6] [] σ _
    refine tw_sgn 2 (i1 := 2) (ls0 := [.ref 6]) (st0 := [.int (σ 6 4)]) (σ0 := σ) (ls1 := [.ref 6]) (st1 := [.int (nI 0)]) (σ1 := σ) rfl (rfl) (by simp only [hn6, tw_nadd, tw_nmul]) (rfl) ?_
    refine tw_ri rfl (rfl) ?_
    show tw_P L xs _ 158 7 [.ref 1, .int (nI H), tw_U] [.int (nI 0)] σ _
    refine tw_bzT (c := .eq) rfl (by rw [tw_ceq, tw_neq (by omega) (by omega)] <;> omega) ?_
    show tw_P L xs _ 158 14 [.ref 1, .int (nI H), tw_U] [] σ _
    refine tw_sg 1 (i1 := 15) (ls1 := [.ref 1, .int (nI H), tw_U]) (st1 := [.int (-3)]) (σ1 := σ) rfl ?_
    refine tw_ri rfl (rfl) ?_
    refine ⟨_, rfl, ?_⟩
    show tw_P L xs _ 235 0 [.ref 88, tw_U, tw_U] [] σ _
    refine tw_sg 3 (i1 := 3) (ls1 := [.ref 88, tw_U, tw_U]) (st1 := [.int (nI 0), .ref 89]) (σ1 := σ) rfl ?_
    refine tw_al (k := 89) (j := 0) (len := 2) rfl rfl rfl rfl (rfl) (by omega) (by decide) ?_
    rw [hn89]
    refine tw_bzT (c := .eq) rfl (by rw [tw_ceq, tw_neq (by omega) (by omega)] <;> omega) ?_
    show tw_P L xs _ 235 12 [.ref 88, tw_U, tw_U] [] σ _
    refine tw_sg 1 (i1 := 13) (ls1 := [.ref 88, tw_U, tw_U]) (st1 := [.int (-3)]) (σ1 := σ) rfl ?_
    refine tw_ri rfl (rfl) ?_
    exact ⟨rfl, hI⟩
  · rcases Nat.eq_zero_or_pos H with hH0 | hHpos
    · subst hH0
      show tw_P L xs _ 158 0 [.ref 1, tw_U, tw_U] [] σ _
      refine tw_sg 2 (i1 := 2) (ls1 := [.ref 1, tw_U, tw_U]) (st1 := [.ref 79]) (σ1 := σ) rfl ?_
      refine tw_cl0 59 rfl (rfl) (by decide) ?_
      show tw_P L xs _ 114 0 [.ref 79] [] σ _
      refine tw_sgn 2 (i1 := 2) (ls0 := [.ref 79]) (st0 := [.int (σ 79 1)]) (σ0 := σ) (ls1 := [.ref 79]) (st1 := [.int (nI 0)]) (σ1 := σ) rfl (rfl) (by simp only [h79, tw_nadd, tw_nmul]) (rfl) ?_
      refine tw_ri rfl (rfl) ?_
      show tw_P L xs _ 158 3 [.ref 1, tw_U, tw_U] [.int (nI 0)] σ _
      refine tw_sg 3 (i1 := 6) (ls1 := [.ref 1, .int (nI 0), tw_U]) (st1 := [.ref 6]) (σ1 := σ) rfl ?_
      refine tw_cl0 59 rfl (rfl) (by decide) ?_
      show tw_P L xs _ 82 0 [.ref 6] [] σ _
      refine tw_sgn 2 (i1 := 2) (ls0 := [.ref 6]) (st0 := [.int (σ 6 4)]) (σ0 := σ) (ls1 := [.ref 6]) (st1 := [.int (nI n)]) (σ1 := σ) rfl (rfl) (by simp only [hn6, tw_nadd, tw_nmul]) (rfl) ?_
      refine tw_ri rfl (rfl) ?_
      show tw_P L xs _ 158 7 [.ref 1, .int (nI 0), tw_U] [.int (nI n)] σ _
      refine tw_bzF (c := .eq) rfl (by rw [tw_ceq', tw_neq (by omega) (by omega)] <;> omega) ?_
      show tw_P L xs _ 158 8 [.ref 1, .int (nI 0), tw_U] [] σ _
      refine tw_sg 1 (i1 := 9) (ls1 := [.ref 1, .int (nI 0), tw_U]) (st1 := [.int (nI 0)]) (σ1 := σ) rfl ?_
      refine tw_bzT (c := .eq) rfl (by rw [tw_ceq, tw_neq (by omega) (by omega)] <;> omega) ?_
      show tw_P L xs _ 158 14 [.ref 1, .int (nI 0), tw_U] [] σ _
      refine tw_sg 1 (i1 := 15) (ls1 := [.ref 1, .int (nI 0), tw_U]) (st1 := [.int (-3)]) (σ1 := σ) rfl ?_
      refine tw_ri rfl (rfl) ?_
      refine ⟨_, rfl, ?_⟩
      show tw_P L xs _ 235 0 [.ref 88, tw_U, tw_U] [] σ _
      refine tw_sg 3 (i1 := 3) (ls1 := [.ref 88, tw_U, tw_U]) (st1 := [.int (nI 0), .ref 89]) (σ1 := σ) rfl ?_
      refine tw_al (k := 89) (j := 0) (len := 2) rfl rfl rfl rfl (rfl) (by omega) (by decide) ?_
      rw [hn89]
      refine tw_bzF (c := .eq) rfl (by rw [tw_ceq', tw_neq (by omega) (by omega)] <;> omega) ?_
      show tw_P L xs _ 235 5 [.ref 88, tw_U, tw_U] [] σ _
      refine tw_sgn 2 (i1 := 7) (ls0 := [.ref 88, tw_U, tw_U]) (st0 := [.int (σ 88 32)]) (σ0 := σ) (ls1 := [.ref 88, tw_U, tw_U]) (st1 := [.int (nI 0)]) (σ1 := σ) rfl (rfl) (by simp only [h32, tw_nadd, tw_nmul]) (rfl) ?_
      refine tw_bzT (c := .eq) rfl (by rw [tw_ceq, tw_neq (by omega) (by omega)] <;> omega) ?_
      show tw_P L xs _ 235 12 [.ref 88, tw_U, tw_U] [] σ _
      refine tw_sg 1 (i1 := 13) (ls1 := [.ref 88, tw_U, tw_U]) (st1 := [.int (-3)]) (σ1 := σ) rfl ?_
      refine tw_ri rfl (rfl) ?_
      exact ⟨rfl, hI⟩
    · by_cases hlo : ∃ d, d < n ∧ tw_ct (w d) (pc d) H H (P d) = 1000
      · have hz : tw_fwZ w pc P H n (-5) := ⟨fun _ _ _ => rfl, fun g => by
          obtain ⟨d, d1, d2⟩ := hlo
          exact absurd d2 (g d d1)⟩
        show tw_P L xs _ 158 0 [.ref 1, tw_U, tw_U] [] σ _
        refine tw_sg 2 (i1 := 2) (ls1 := [.ref 1, tw_U, tw_U]) (st1 := [.ref 79]) (σ1 := σ) rfl ?_
        refine tw_cl0 59 rfl (rfl) (by decide) ?_
        show tw_P L xs _ 114 0 [.ref 79] [] σ _
        refine tw_sgn 2 (i1 := 2) (ls0 := [.ref 79]) (st0 := [.int (σ 79 1)]) (σ0 := σ) (ls1 := [.ref 79]) (st1 := [.int (nI H)]) (σ1 := σ) rfl (rfl) (by simp only [h79, tw_nadd, tw_nmul]) (rfl) ?_
        refine tw_ri rfl (rfl) ?_
        show tw_P L xs _ 158 3 [.ref 1, tw_U, tw_U] [.int (nI H)] σ _
        refine tw_sg 3 (i1 := 6) (ls1 := [.ref 1, .int (nI H), tw_U]) (st1 := [.ref 6]) (σ1 := σ) rfl ?_
        refine tw_cl0 59 rfl (rfl) (by decide) ?_
        show tw_P L xs _ 82 0 [.ref 6] [] σ _
        refine tw_sgn 2 (i1 := 2) (ls0 := [.ref 6]) (st0 := [.int (σ 6 4)]) (σ0 := σ) (ls1 := [.ref 6]) (st1 := [.int (nI n)]) (σ1 := σ) rfl (rfl) (by simp only [hn6, tw_nadd, tw_nmul]) (rfl) ?_
        refine tw_ri rfl (rfl) ?_
        show tw_P L xs _ 158 7 [.ref 1, .int (nI H), tw_U] [.int (nI n)] σ _
        refine tw_bzF (c := .eq) rfl (by rw [tw_ceq', tw_neq (by omega) (by omega)] <;> omega) ?_
        show tw_P L xs _ 158 8 [.ref 1, .int (nI H), tw_U] [] σ _
        refine tw_sg 1 (i1 := 9) (ls1 := [.ref 1, .int (nI H), tw_U]) (st1 := [.int (nI H)]) (σ1 := σ) rfl ?_
        refine tw_bzF (c := .eq) rfl (by rw [tw_ceq', tw_neq (by omega) (by omega)] <;> omega) ?_
        show tw_P L xs _ 158 10 [.ref 1, .int (nI H), tw_U] [] σ _
        refine tw_sg 1 (i1 := 11) (ls1 := [.ref 1, .int (nI H), tw_U]) (st1 := [.ref 1]) (σ1 := σ) rfl ?_
        refine tw_cl1 rfl (rfl) (by decide) (tw_e_fAll hDC hz) ?_
        rintro _ τ ⟨rfl, hP⟩
        show tw_P L xs _ 158 12 [.ref 1, .int (nI H), tw_U] [.int (-5)] τ _
        refine tw_sg 1 (i1 := 13) (ls1 := [.ref 1, .int (nI H), tw_U]) (st1 := [.int (-5), .int (-5)]) (σ1 := τ) rfl ?_
        refine tw_biF (c := .ne) rfl (by rw [tw_cne'] <;> (exact rfl)) ?_
        show tw_P L xs _ 158 14 [.ref 1, .int (nI H), tw_U] [] τ _
        refine tw_sg 1 (i1 := 15) (ls1 := [.ref 1, .int (nI H), tw_U]) (st1 := [.int (-3)]) (σ1 := τ) rfl ?_
        refine tw_ri rfl (rfl) ?_
        refine ⟨_, rfl, ?_⟩
        show tw_P L xs _ 235 0 [.ref 88, tw_U, tw_U] [] τ _
        refine tw_sg 3 (i1 := 3) (ls1 := [.ref 88, tw_U, tw_U]) (st1 := [.int (nI 0), .ref 89]) (σ1 := τ) rfl ?_
        refine tw_al (k := 89) (j := 0) (len := 2) rfl rfl rfl rfl (rfl) (by omega) (by decide) ?_
        rw [((hP 89 0 (by omega) (by omega)).trans hn89)]
        refine tw_bzF (c := .eq) rfl (by rw [tw_ceq', tw_neq (by omega) (by omega)] <;> omega) ?_
        show tw_P L xs _ 235 5 [.ref 88, tw_U, tw_U] [] τ _
        refine tw_sgn 2 (i1 := 7) (ls0 := [.ref 88, tw_U, tw_U]) (st0 := [.int (τ 88 32)]) (σ0 := τ) (ls1 := [.ref 88, tw_U, tw_U]) (st1 := [.int (nI H)]) (σ1 := τ) rfl (rfl) (by simp only [((hP 88 32 (by omega) (by omega)).trans h32), tw_nadd, tw_nmul]) (rfl) ?_
        refine tw_bzF (c := .eq) rfl (by rw [tw_ceq', tw_neq (by omega) (by omega)] <;> omega) ?_
        show tw_P L xs _ 235 8 [.ref 88, tw_U, tw_U] [] τ _
        refine tw_sg 2 (i1 := 10) (ls1 := [.ref 88, tw_U, tw_U]) (st1 := [.int (-1), .ref 88]) (σ1 := τ) rfl ?_
        refine tw_cl1 rfl (rfl) (by decide) (tw_e_fAllM (hKM hP) hz) ?_
        rintro _ ω ⟨rfl, hG⟩
        show tw_P L xs _ 235 11 [.ref 88, tw_U, tw_U] [.int (-5)] ω _
        refine tw_bzF (c := .ge) rfl (by rw [tw_cge'] <;> (exact tw_not_le.mpr (by decide))) ?_
        show tw_P L xs _ 235 12 [.ref 88, tw_U, tw_U] [] ω _
        refine tw_sg 1 (i1 := 13) (ls1 := [.ref 88, tw_U, tw_U]) (st1 := [.int (-3)]) (σ1 := ω) rfl ?_
        refine tw_ri rfl (rfl) ?_
        exact ⟨rfl, hKI hP hG⟩
      · have hlo : ∀ d, d < n → ¬ tw_ct (w d) (pc d) H H (P d) = 1000 := fun d d1 d2 => hlo ⟨d, d1, d2⟩
        have hz : tw_fwZ w pc P H n (nI (tw_sS w pc P H n)) := ⟨fun d d1 d2 => absurd d2 (hlo d d1), fun _ => rfl⟩
        have hsl := @tw_sS_le w pc P H n
        by_cases hro : r + H ≤ 50
        · skip
          show tw_P L xs _ 158 0 [.ref 1, tw_U, tw_U] [] σ _
          refine tw_sg 2 (i1 := 2) (ls1 := [.ref 1, tw_U, tw_U]) (st1 := [.ref 79]) (σ1 := σ) rfl ?_
          refine tw_cl0 59 rfl (rfl) (by decide) ?_
          show tw_P L xs _ 114 0 [.ref 79] [] σ _
          refine tw_sgn 2 (i1 := 2) (ls0 := [.ref 79]) (st0 := [.int (σ 79 1)]) (σ0 := σ) (ls1 := [.ref 79]) (st1 := [.int (nI H)]) (σ1 := σ) rfl (rfl) (by simp only [h79, tw_nadd, tw_nmul]) (rfl) ?_
          refine tw_ri rfl (rfl) ?_
          show tw_P L xs _ 158 3 [.ref 1, tw_U, tw_U] [.int (nI H)] σ _
          refine tw_sg 3 (i1 := 6) (ls1 := [.ref 1, .int (nI H), tw_U]) (st1 := [.ref 6]) (σ1 := σ) rfl ?_
          refine tw_cl0 59 rfl (rfl) (by decide) ?_
          show tw_P L xs _ 82 0 [.ref 6] [] σ _
          refine tw_sgn 2 (i1 := 2) (ls0 := [.ref 6]) (st0 := [.int (σ 6 4)]) (σ0 := σ) (ls1 := [.ref 6]) (st1 := [.int (nI n)]) (σ1 := σ) rfl (rfl) (by simp only [hn6, tw_nadd, tw_nmul]) (rfl) ?_
          refine tw_ri rfl (rfl) ?_
          show tw_P L xs _ 158 7 [.ref 1, .int (nI H), tw_U] [.int (nI n)] σ _
          refine tw_bzF (c := .eq) rfl (by rw [tw_ceq', tw_neq (by omega) (by omega)] <;> omega) ?_
          show tw_P L xs _ 158 8 [.ref 1, .int (nI H), tw_U] [] σ _
          refine tw_sg 1 (i1 := 9) (ls1 := [.ref 1, .int (nI H), tw_U]) (st1 := [.int (nI H)]) (σ1 := σ) rfl ?_
          refine tw_bzF (c := .eq) rfl (by rw [tw_ceq', tw_neq (by omega) (by omega)] <;> omega) ?_
          show tw_P L xs _ 158 10 [.ref 1, .int (nI H), tw_U] [] σ _
          refine tw_sg 1 (i1 := 11) (ls1 := [.ref 1, .int (nI H), tw_U]) (st1 := [.ref 1]) (σ1 := σ) rfl ?_
          refine tw_cl1 rfl (rfl) (by decide) (tw_e_fAll hDC hz) ?_
          rintro _ τ ⟨rfl, hP⟩
          show tw_P L xs _ 158 12 [.ref 1, .int (nI H), tw_U] [.int (nI (tw_sS w pc P H n))] τ _
          refine tw_sg 1 (i1 := 13) (ls1 := [.ref 1, .int (nI H), tw_U]) (st1 := [.int (-5), .int (nI (tw_sS w pc P H n))]) (σ1 := τ) rfl ?_
          refine tw_biT (c := .ne) rfl (by rw [tw_cne] <;> (exact (tw_nne5 (by omega)))) ?_
          show tw_P L xs _ 158 16 [.ref 1, .int (nI H), tw_U] [] τ _
          refine tw_sg 2 (i1 := 18) (ls1 := [.ref 1, .int (nI H), tw_U]) (st1 := [.ref 6]) (σ1 := τ) rfl ?_
          refine tw_cl0 59 rfl (rfl) (by decide) ?_
          show tw_P L xs _ 83 0 [.ref 6] [] τ _
          refine tw_sg 2 (i1 := 2) (ls1 := [.ref 6]) (st1 := [.ref 9]) (σ1 := τ) rfl ?_
          refine tw_ra rfl ?_
          show tw_P L xs _ 158 19 [.ref 1, .int (nI H), tw_U] [.ref 9] τ _
          refine tw_cl0 59 rfl (rfl) (by decide) ?_
          show tw_P L xs _ 19 0 [.ref 9] [] τ _
          refine tw_sgn 4 (i1 := 4) (ls0 := [.ref 9]) (st0 := [.int (nI 50 - (τ 9 3))]) (σ0 := τ) (ls1 := [.ref 9]) (st1 := [.int (nI (50 - r))]) (σ1 := τ) rfl (rfl) (by simp only [((hP 9 3 (by omega) (by omega)).trans hr9), tw_nsub (show r ≤ 50 by omega), tw_nadd, tw_nmul]) (rfl) ?_
          refine tw_ri rfl (rfl) ?_
          show tw_P L xs _ 158 20 [.ref 1, .int (nI H), tw_U] [.int (nI (50 - r))] τ _
          refine tw_sg 1 (i1 := 21) (ls1 := [.ref 1, .int (nI H), tw_U]) (st1 := [.int (nI H), .int (nI (50 - r))]) (σ1 := τ) rfl ?_
          refine tw_biT (c := .ge) rfl (by rw [tw_cge, tw_nle (by omega) (by omega)] <;> omega) ?_
          show tw_P L xs _ 158 24 [.ref 1, .int (nI H), tw_U] [] τ _
          refine tw_sg 6 (i1 := 30) (ls1 := [.ref 1, .int (nI H), tw_U]) (st1 := [.ref 79, .ref 6, .ref 81]) (σ1 := τ) rfl ?_
          refine tw_cl1 rfl (rfl) (by decide) (tw_e_plA (hDC.f hP) hlo) ?_
          rintro _ τ2 ⟨rfl, hA⟩
          show tw_P L xs _ 158 31 [.ref 1, .int (nI H), tw_U] [] τ2 _
          refine tw_sg 2 (i1 := 33) (ls1 := [.ref 1, .int (nI H), .int (nI 0)]) (st1 := []) (σ1 := τ2) rfl ?_
          have hσ2 : ∀ k j, ¬ k = 82 → ¬ k = 83 → ¬ k = 84 → τ2 k j = σ k j := fun k j a b c => (hA.1 k j a b c).trans (hP k j a b)
          have hKp : tw_keep σ τ2 := fun k j e => hσ2 k j (fun z => e (by unfold tw_scr; omega)) (fun z => e (by unfold tw_scr; omega)) (fun z => e (by unfold tw_scr; omega))
          refine tw_P_mono (tw_P_le (d := 9) (tw_l_wd (T := (tw_dT w pc P H)) (n := n) hH8 (fun l c => tw_dT_lt) H 0 τ2 τ2 r (by omega) (hI.keep hKp) (hLo.keep (Or.inl rfl) hKp) (Nat.zero_le _) hro (fun _ _ _ _ => rfl) ((hσ2 88 32 (by omega) (by omega) (by omega)).trans h32) (fun i c hi hc => hA.2 c (by omega) hc i hi)) (by decide)) ?_
          rintro _ τ3 ⟨u, α', rfl, hI2, hC, hk, hM⟩
          refine ⟨_, rfl, ?_⟩
          have hDτ : tw_dM τ3 w pc P H n := hDM.to (fun k j g => (hk k j (by omega)).trans (hσ2 k j (by omega) (by omega) (by omega)))
          show tw_P L xs _ 235 0 [.ref 88, tw_U, tw_U] [] τ3 _
          refine tw_sg 3 (i1 := 3) (ls1 := [.ref 88, tw_U, tw_U]) (st1 := [.int (nI 0), .ref 89]) (σ1 := τ3) rfl ?_
          refine tw_al (k := 89) (j := 0) (len := 2) rfl rfl rfl rfl (rfl) (by omega) (by decide) ?_
          rw [(((hk 89 0 (by omega)).trans (hσ2 89 0 (by omega) (by omega) (by omega))).trans hn89)]
          refine tw_bzF (c := .eq) rfl (by rw [tw_ceq', tw_neq (by omega) (by omega)] <;> omega) ?_
          show tw_P L xs _ 235 5 [.ref 88, tw_U, tw_U] [] τ3 _
          refine tw_sgn 2 (i1 := 7) (ls0 := [.ref 88, tw_U, tw_U]) (st0 := [.int (τ3 88 32)]) (σ0 := τ3) (ls1 := [.ref 88, tw_U, tw_U]) (st1 := [.int (nI H)]) (σ1 := τ3) rfl (rfl) (by simp only [(((hk 88 32 (by omega)).trans (hσ2 88 32 (by omega) (by omega) (by omega))).trans h32), tw_nadd, tw_nmul]) (rfl) ?_
          refine tw_bzF (c := .eq) rfl (by rw [tw_ceq', tw_neq (by omega) (by omega)] <;> omega) ?_
          show tw_P L xs _ 235 8 [.ref 88, tw_U, tw_U] [] τ3 _
          refine tw_sg 2 (i1 := 10) (ls1 := [.ref 88, tw_U, tw_U]) (st1 := [.int (-1), .ref 88]) (σ1 := τ3) rfl ?_
          refine tw_cl1 rfl (rfl) (by decide) (tw_e_fAllM hDτ hz) ?_
          rintro _ ω ⟨rfl, hG⟩
          show tw_P L xs _ 235 11 [.ref 88, tw_U, tw_U] [.int (nI (tw_sS w pc P H n))] ω _
          refine tw_bzT (c := .ge) rfl (by rw [tw_cge, tw_nle (by omega) (by omega)] <;> omega) ?_
          show tw_P L xs _ 235 14 [.ref 88, tw_U, tw_U] [] ω _
          refine tw_sg 3 (i1 := 17) (ls1 := [.ref 88, tw_U, tw_U]) (st1 := [.int (nI 0), .ref 90]) (σ1 := ω) rfl ?_
          refine tw_al (k := 90) (j := 0) (len := 2) rfl rfl rfl rfl (rfl) (by omega) (by decide) ?_
          rw [((hG 90 0 (by omega)).trans (((hk 90 0 (by omega)).trans (hσ2 90 0 (by omega) (by omega) (by omega))).trans hr90))]
          refine tw_sgn 4 (i1 := 22) (ls0 := [.ref 88, tw_U, tw_U]) (st0 := [.int (nI 50), .int (nI r + (ω 88 32))]) (σ0 := ω) (ls1 := [.ref 88, tw_U, tw_U]) (st1 := [.int (nI 50), .int (nI (r + H))]) (σ1 := ω) rfl (rfl) (by simp only [((hG 88 32 (by omega)).trans (((hk 88 32 (by omega)).trans (hσ2 88 32 (by omega) (by omega) (by omega))).trans h32)), tw_nadd, tw_nmul]) (rfl) ?_
          refine tw_biT (c := .le) rfl (by rw [tw_cle, tw_nle (by omega) (by omega)] <;> omega) ?_
          show tw_P L xs _ 235 25 [.ref 88, tw_U, tw_U] [] ω _
          refine tw_sg 2 (i1 := 27) (ls1 := [.ref 88, .int (nI 0), tw_U]) (st1 := []) (σ1 := ω) rfl ?_
          refine tw_P_le (d := 10) (tw_l_tbo (σ0 := ω) (hDτ.g hG) hlo (fun τ4 v hB => ?_) H 0 ω _ (by omega) ⟨fun _ _ _ _ => rfl, fun i d hd => by omega⟩) (by decide)
          refine tw_sg 2 (i1 := 57) (ls1 := [.ref 88, .int (nI 0), v]) (st1 := []) (σ1 := τ4) rfl ?_
          refine tw_P_mono (hM τ4 _ (fun k j a b c e => (hB.1 k j c e).trans ((hG k j c).trans (hk k j a))) (fun i c hi hc => hB.2 i c (by omega))) ?_
          rintro _ ζ ⟨rfl, b1, b2⟩
          refine ⟨rfl, hI2.keep (fun k j g => ?_)⟩
          by_cases z : k < 88
          · rw [b2 k j z, hB.1 k j (by omega) (by omega), hG k j (by omega)]; exact hC k j z (fun e => g (by unfold tw_scr; omega))
          · exact b1 k j (by omega) (fun e => g (by unfold tw_scr; omega)) (fun e => g (by unfold tw_scr; omega)) (fun e => g (by unfold tw_scr; omega))
        · skip
          show tw_P L xs _ 158 0 [.ref 1, tw_U, tw_U] [] σ _
          refine tw_sg 2 (i1 := 2) (ls1 := [.ref 1, tw_U, tw_U]) (st1 := [.ref 79]) (σ1 := σ) rfl ?_
          refine tw_cl0 59 rfl (rfl) (by decide) ?_
          show tw_P L xs _ 114 0 [.ref 79] [] σ _
          refine tw_sgn 2 (i1 := 2) (ls0 := [.ref 79]) (st0 := [.int (σ 79 1)]) (σ0 := σ) (ls1 := [.ref 79]) (st1 := [.int (nI H)]) (σ1 := σ) rfl (rfl) (by simp only [h79, tw_nadd, tw_nmul]) (rfl) ?_
          refine tw_ri rfl (rfl) ?_
          show tw_P L xs _ 158 3 [.ref 1, tw_U, tw_U] [.int (nI H)] σ _
          refine tw_sg 3 (i1 := 6) (ls1 := [.ref 1, .int (nI H), tw_U]) (st1 := [.ref 6]) (σ1 := σ) rfl ?_
          refine tw_cl0 59 rfl (rfl) (by decide) ?_
          show tw_P L xs _ 82 0 [.ref 6] [] σ _
          refine tw_sgn 2 (i1 := 2) (ls0 := [.ref 6]) (st0 := [.int (σ 6 4)]) (σ0 := σ) (ls1 := [.ref 6]) (st1 := [.int (nI n)]) (σ1 := σ) rfl (rfl) (by simp only [hn6, tw_nadd, tw_nmul]) (rfl) ?_
          refine tw_ri rfl (rfl) ?_
          show tw_P L xs _ 158 7 [.ref 1, .int (nI H), tw_U] [.int (nI n)] σ _
          refine tw_bzF (c := .eq) rfl (by rw [tw_ceq', tw_neq (by omega) (by omega)] <;> omega) ?_
          show tw_P L xs _ 158 8 [.ref 1, .int (nI H), tw_U] [] σ _
          refine tw_sg 1 (i1 := 9) (ls1 := [.ref 1, .int (nI H), tw_U]) (st1 := [.int (nI H)]) (σ1 := σ) rfl ?_
          refine tw_bzF (c := .eq) rfl (by rw [tw_ceq', tw_neq (by omega) (by omega)] <;> omega) ?_
          show tw_P L xs _ 158 10 [.ref 1, .int (nI H), tw_U] [] σ _
          refine tw_sg 1 (i1 := 11) (ls1 := [.ref 1, .int (nI H), tw_U]) (st1 := [.ref 1]) (σ1 := σ) rfl ?_
          refine tw_cl1 rfl (rfl) (by decide) (tw_e_fAll hDC hz) ?_
          rintro _ τ ⟨rfl, hP⟩
          show tw_P L xs _ 158 12 [.ref 1, .int (nI H), tw_U] [.int (nI (tw_sS w pc P H n))] τ _
          refine tw_sg 1 (i1 := 13) (ls1 := [.ref 1, .int (nI H), tw_U]) (st1 := [.int (-5), .int (nI (tw_sS w pc P H n))]) (σ1 := τ) rfl ?_
          refine tw_biT (c := .ne) rfl (by rw [tw_cne] <;> (exact (tw_nne5 (by omega)))) ?_
          show tw_P L xs _ 158 16 [.ref 1, .int (nI H), tw_U] [] τ _
          refine tw_sg 2 (i1 := 18) (ls1 := [.ref 1, .int (nI H), tw_U]) (st1 := [.ref 6]) (σ1 := τ) rfl ?_
          refine tw_cl0 59 rfl (rfl) (by decide) ?_
          show tw_P L xs _ 83 0 [.ref 6] [] τ _
          refine tw_sg 2 (i1 := 2) (ls1 := [.ref 6]) (st1 := [.ref 9]) (σ1 := τ) rfl ?_
          refine tw_ra rfl ?_
          show tw_P L xs _ 158 19 [.ref 1, .int (nI H), tw_U] [.ref 9] τ _
          refine tw_cl0 59 rfl (rfl) (by decide) ?_
          show tw_P L xs _ 19 0 [.ref 9] [] τ _
          refine tw_sgn 4 (i1 := 4) (ls0 := [.ref 9]) (st0 := [.int (nI 50 - (τ 9 3))]) (σ0 := τ) (ls1 := [.ref 9]) (st1 := [.int (nI (50 - r))]) (σ1 := τ) rfl (rfl) (by simp only [((hP 9 3 (by omega) (by omega)).trans hr9), tw_nsub (show r ≤ 50 by omega), tw_nadd, tw_nmul]) (rfl) ?_
          refine tw_ri rfl (rfl) ?_
          show tw_P L xs _ 158 20 [.ref 1, .int (nI H), tw_U] [.int (nI (50 - r))] τ _
          refine tw_sg 1 (i1 := 21) (ls1 := [.ref 1, .int (nI H), tw_U]) (st1 := [.int (nI H), .int (nI (50 - r))]) (σ1 := τ) rfl ?_
          refine tw_biF (c := .ge) rfl (by rw [tw_cge', tw_nle (by omega) (by omega)] <;> omega) ?_
          show tw_P L xs _ 158 22 [.ref 1, .int (nI H), tw_U] [] τ _
          refine tw_sg 1 (i1 := 23) (ls1 := [.ref 1, .int (nI H), tw_U]) (st1 := [.int (-4)]) (σ1 := τ) rfl ?_
          refine tw_ri rfl (rfl) ?_
          refine ⟨_, rfl, ?_⟩
          show tw_P L xs _ 235 0 [.ref 88, tw_U, tw_U] [] τ _
          refine tw_sg 3 (i1 := 3) (ls1 := [.ref 88, tw_U, tw_U]) (st1 := [.int (nI 0), .ref 89]) (σ1 := τ) rfl ?_
          refine tw_al (k := 89) (j := 0) (len := 2) rfl rfl rfl rfl (rfl) (by omega) (by decide) ?_
          rw [((hP 89 0 (by omega) (by omega)).trans hn89)]
          refine tw_bzF (c := .eq) rfl (by rw [tw_ceq', tw_neq (by omega) (by omega)] <;> omega) ?_
          show tw_P L xs _ 235 5 [.ref 88, tw_U, tw_U] [] τ _
          refine tw_sgn 2 (i1 := 7) (ls0 := [.ref 88, tw_U, tw_U]) (st0 := [.int (τ 88 32)]) (σ0 := τ) (ls1 := [.ref 88, tw_U, tw_U]) (st1 := [.int (nI H)]) (σ1 := τ) rfl (rfl) (by simp only [((hP 88 32 (by omega) (by omega)).trans h32), tw_nadd, tw_nmul]) (rfl) ?_
          refine tw_bzF (c := .eq) rfl (by rw [tw_ceq', tw_neq (by omega) (by omega)] <;> omega) ?_
          show tw_P L xs _ 235 8 [.ref 88, tw_U, tw_U] [] τ _
          refine tw_sg 2 (i1 := 10) (ls1 := [.ref 88, tw_U, tw_U]) (st1 := [.int (-1), .ref 88]) (σ1 := τ) rfl ?_
          refine tw_cl1 rfl (rfl) (by decide) (tw_e_fAllM (hKM hP) hz) ?_
          rintro _ ω ⟨rfl, hG⟩
          show tw_P L xs _ 235 11 [.ref 88, tw_U, tw_U] [.int (nI (tw_sS w pc P H n))] ω _
          refine tw_bzT (c := .ge) rfl (by rw [tw_cge, tw_nle (by omega) (by omega)] <;> omega) ?_
          show tw_P L xs _ 235 14 [.ref 88, tw_U, tw_U] [] ω _
          refine tw_sg 3 (i1 := 17) (ls1 := [.ref 88, tw_U, tw_U]) (st1 := [.int (nI 0), .ref 90]) (σ1 := ω) rfl ?_
          refine tw_al (k := 90) (j := 0) (len := 2) rfl rfl rfl rfl (rfl) (by omega) (by decide) ?_
          rw [((hG 90 0 (by omega)).trans ((hP 90 0 (by omega) (by omega)).trans hr90))]
          refine tw_sgn 4 (i1 := 22) (ls0 := [.ref 88, tw_U, tw_U]) (st0 := [.int (nI 50), .int (nI r + (ω 88 32))]) (σ0 := ω) (ls1 := [.ref 88, tw_U, tw_U]) (st1 := [.int (nI 50), .int (nI (r + H))]) (σ1 := ω) rfl (rfl) (by simp only [((hG 88 32 (by omega)).trans ((hP 88 32 (by omega) (by omega)).trans h32)), tw_nadd, tw_nmul]) (rfl) ?_
          refine tw_biF (c := .le) rfl (by rw [tw_cle', tw_nle (by omega) (by omega)] <;> omega) ?_
          show tw_P L xs _ 235 23 [.ref 88, tw_U, tw_U] [] ω _
          refine tw_sg 1 (i1 := 24) (ls1 := [.ref 88, tw_U, tw_U]) (st1 := [.int (-4)]) (σ1 := ω) rfl ?_
          refine tw_ri rfl (rfl) ?_
          exact ⟨rfl, hKI hP hG⟩
end tw_s75
