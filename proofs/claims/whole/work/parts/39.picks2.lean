/-! a pick keeps the relation -/
section tw_s39
variable {L : Nat} {xs : Nat → Int32} {σ : tw_Mem} {x y w : Int32} {n r i c k h q a b e : Nat}
theorem tw_cardsP {σ : tw_Mem} {n : Nat} (h : tw_iCards σ 6 0 n) : ∃ P q : Nat → Nat, ∀ c, c < n → (P c < 4 ∧ σ (2 * c + 18) 2 = nI (P c) ∧ σ 93 c = nI (P c)) ∧ (q c < 2 ∧ σ (2 * c + 18) 1 = nI (q c) ∧ σ 92 c = nI (q c)) := by
  refine ⟨fun c => (σ 93 c).toNatClampNeg, fun c => (σ 92 c).toNatClampNeg, fun c hc => ?_⟩
  obtain ⟨-, ⟨g2, q, g3, g4⟩, ⟨g5, p, g7, g8⟩, -⟩ := tw_iCards0.mp h c hc
  have e1 : (σ 93 c).toNatClampNeg = p := by rw [g8]; exact tw_nclamp (by omega)
  have e2 : (σ 92 c).toNatClampNeg = q := by rw [g4]; exact tw_nclamp (by omega)
  show ((σ 93 c).toNatClampNeg < 4 ∧ σ (2 * c + 18) 2 = nI (σ 93 c).toNatClampNeg ∧ σ 93 c = nI (σ 93 c).toNatClampNeg) ∧ ((σ 92 c).toNatClampNeg < 2 ∧ σ (2 * c + 18) 1 = nI (σ 92 c).toNatClampNeg ∧ σ 92 c = nI (σ 92 c).toNatClampNeg)
  rw [e1, e2]
  exact ⟨⟨g7, by rw [g5]; exact g8, g8⟩, g3, by rw [g2]; exact g4, g4⟩
theorem tw_gW_gI : ∀ t, t < 4 → tw_gW (nI t) = tw_gI t := by decide +kernel
theorem tw_Inv_pick {σ0 σa τ0 τa υ0 : tw_Mem} {n r : Nat} {T P q : Nat → Nat} (hI : tw_Inv σ0) (hL : tw_iLoom σ0 6 0 n r) (hr : r < 50) (hT : ∀ c, c < n → T c < 4) (h1 : ∀ k j, ¬ k = 8 → σa k j = σ0 k j) (wC : tw_wkC σa τ0 r T P q n) (h2 : ∀ k j, ¬ k = 110 → τa k j = tw_upd τ0 9 3 (nI (r + 1)) k j) (wM : tw_wkM τa υ0 r T P q n) : tw_Inv (tw_upd υ0 90 0 (nI (r + 1))) := by
  obtain ⟨⟨hn10, hr50⟩, ⟨hn6, hn89⟩, ⟨hr9, hw9, hr90⟩, hCa, hRo, hLa⟩ := id hL
  generalize hυ : tw_upd υ0 90 0 (nI (r + 1)) = υ
  have u0 : ∀ k j, ¬ (k = 90 ∧ j = 0) → υ k j = υ0 k j := fun k j h => by rw [← hυ, tw_upd_off h]
  have a0 : ∀ k j, ¬ k = 110 → ¬ (k = 9 ∧ j = 3) → τa k j = τ0 k j := fun k j h g => by rw [h2 k j h, tw_upd_off g]
  have ua : ∀ k j, ¬ (k = 90 ∧ j = 0) → ¬ (93 ≤ k ∧ k ≤ 94 ∧ j < n) → ¬ (95 ≤ k ∧ k ≤ 98 ∧ 10 * r ≤ j ∧ j < 10 * r + n) → υ k j = τa k j := fun k j g1 g2 g3 => by rw [u0 k j g1, wM.1 k j g2 g3]
  have ts : ∀ k j, ¬ k = 8 → ¬ (18 ≤ k ∧ k < 2 * n + 18 ∧ k % 2 = 0 ∧ (j = 2 ∨ j = 3)) → ¬ (k = 10 ∧ r * 40 ≤ j ∧ j < (r * 10 + n) * 4) → τ0 k j = σ0 k j := fun k j g1 g2 g3 => by rw [wC.1 k j g2 g3, h1 k j g1]
  have as : ∀ k j, ¬ k = 8 → ¬ k = 110 → ¬ (k = 9 ∧ j = 3) → ¬ (18 ≤ k ∧ k < 2 * n + 18 ∧ k % 2 = 0 ∧ (j = 2 ∨ j = 3)) → ¬ (k = 10 ∧ r * 40 ≤ j ∧ j < (r * 10 + n) * 4) → τa k j = σ0 k j := fun k j g1 g2 g3 g4 g5 => by rw [a0 k j g2 g3, ts k j g1 g4 g5]
  have hk : ∀ k j, ¬ k = 8 → ¬ k = 110 → ¬ (k = 9 ∧ j = 3) → ¬ (18 ≤ k ∧ k < 2 * n + 18 ∧ k % 2 = 0 ∧ (j = 2 ∨ j = 3)) → ¬ (k = 10 ∧ r * 40 ≤ j ∧ j < (r * 10 + n) * 4) → ¬ (k = 90 ∧ j = 0) → ¬ (93 ≤ k ∧ k ≤ 94 ∧ j < n) → ¬ (95 ≤ k ∧ k ≤ 98 ∧ 10 * r ≤ j ∧ j < 10 * r + n) → υ k j = σ0 k j := fun k j g1 g2 g3 g4 g5 g6 g7 g8 => by rw [ua k j g6 g7 g8, as k j g1 g2 g3 g4 g5]
  have ho : ∀ c, c < n → ∀ h, h < 4 → σ0 (2 * c + 19) h = σ0 91 (4 * c + h) := fun c hc h hh => ((tw_iCards0.mp hCa) c hc).1 h hh |>.1
  refine hI.loom ⟨n, r + 1, ⟨hn10, by omega⟩, ⟨?_, ?_⟩, ⟨?_, ?_, ?_⟩, ?_, ?_, hLa.cg (fun k j h => ?_)⟩ ?_ (fun k j h => ?_)
  · rw [hk 6 4 (by omega) (by omega) (by omega) (by omega) (by omega) (by omega) (by omega) (by omega)]; exact hn6
  · rw [hk 89 0 (by omega) (by omega) (by omega) (by omega) (by omega) (by omega) (by omega) (by omega)]; exact hn89
  · show υ 9 3 = _
    rw [ua 9 3 (by omega) (by omega) (by omega), h2 9 3 (by omega)]; exact tw_upd_at
  · rw [hk (6 + 3) 4 (by omega) (by omega) (by omega) (by omega) (by omega) (by omega) (by omega) (by omega)]; exact hw9
  · rw [← hυ]; exact tw_upd_at
  · rw [tw_iCards0]
    intro c hc
    obtain ⟨g1, ⟨g2, q0, g3, g4⟩, ⟨g5, p, g7, g8⟩, g6⟩ := tw_iCards0.mp hCa c hc
    obtain ⟨w1, w2, -⟩ := wC.2 c hc
    obtain ⟨v1, v2, -⟩ := wM.2 c hc
    refine ⟨fun h hh => ?_, ⟨?_, q0, g3, ?_⟩, ⟨?_, tw_pl (P c) (T c), tw_pl_lt, ?_⟩, ?_⟩
    · rw [hk (2 * c + 19) h (by omega) (by omega) (by omega) (by omega) (by omega) (by omega) (by omega) (by omega), hk 91 (4 * c + h) (by omega) (by omega) (by omega) (by omega) (by omega) (by omega) (by omega) (by omega)]
      exact g1 h hh
    · rw [hk (2 * c + 18) 1 (by omega) (by omega) (by omega) (by omega) (by omega) (by omega) (by omega) (by omega), hk 92 c (by omega) (by omega) (by omega) (by omega) (by omega) (by omega) (by omega) (by omega)]
      exact g2
    · rw [hk 92 c (by omega) (by omega) (by omega) (by omega) (by omega) (by omega) (by omega) (by omega)]
      exact g4
    · rw [ua (2 * c + 18) 2 (by omega) (by omega) (by omega), a0 _ _ (by omega) (by omega), w2, u0 93 c (by omega), v2]
    · rw [u0 93 c (by omega), v2]
    · rw [ua (2 * c + 18) 3 (by omega) (by omega) (by omega), a0 _ _ (by omega) (by omega), w1, u0 94 c (by omega), v1, h1 _ _ (by omega), as 94 c (by omega) (by omega) (by omega) (by omega) (by omega), g6]
  · intro i hi c hc
    by_cases hz : i = r
    · subst hz
      obtain ⟨-, -, w3, w4, w5, w6⟩ := wC.2 c hc
      obtain ⟨-, -, v3, v4, v5, v6⟩ := wM.2 c hc
      have f : ∀ z, z < 4 → υ 10 ((i * 10 + c) * 4 + z) = τ0 10 ((i * 10 + c) * 4 + z) := fun z hz => by rw [ua 10 _ (by omega) (by omega) (by omega), a0 _ _ (by omega) (by omega)]
      have hp : tw_pl (P c) (T c) < 4 := tw_pl_lt
      refine ⟨?_, ?_, ?_, ?_, T c, hT c hc, ?_⟩
      · show υ 10 ((i * 10 + c) * 4 + 0) = υ 95 (10 * i + c)
        rw [f 0 (by omega), w3, u0 95 _ (by omega), v3, h1 _ _ (by omega), as 91 _ (by omega) (by omega) (by omega) (by omega) (by omega)]
        exact ho c hc _ hp
      · show υ 10 ((i * 10 + c) * 4 + 1) = υ 96 (10 * i + c)
        rw [f 1 (by omega), w4, u0 96 _ (by omega), v4, h1 _ _ (by omega), as 91 _ (by omega) (by omega) (by omega) (by omega) (by omega)]
        exact ho c hc _ (by omega)
      · show υ 10 ((i * 10 + c) * 4 + 2) = υ 97 (10 * i + c)
        rw [f 2 (by omega), w5, u0 97 _ (by omega), v5]
      · show υ 10 ((i * 10 + c) * 4 + 3) = υ 98 (10 * i + c)
        rw [f 3 (by omega), w6, u0 98 _ (by omega), v6]
      · show υ 98 (10 * i + c) = _
        rw [u0 98 _ (by omega), v6]
    · have hi2 : i < r := by omega
      obtain ⟨g1, g2, g3, g4, t, g5, g6⟩ := hRo i hi2 c hc
      have f : ∀ z, z < 4 → υ 10 ((i * 10 + c) * 4 + z) = σ0 10 ((i * 10 + c) * 4 + z) := fun z hz => hk 10 _ (by omega) (by omega) (by omega) (by omega) (by omega) (by omega) (by omega) (by omega)
      have f2 : ∀ k, 95 ≤ k → k ≤ 98 → υ k (10 * i + c) = σ0 k (10 * i + c) := fun k h1 h2 => hk k _ (by omega) (by omega) (by omega) (by omega) (by omega) (by omega) (by omega) (by omega)
      refine ⟨?_, ?_, ?_, ?_, t, g5, ?_⟩
      · show υ 10 ((i * 10 + c) * 4 + 0) = υ 95 (10 * i + c)
        rw [f 0 (by omega), f2 95 (by omega) (by omega)]; exact g1
      · show υ 10 ((i * 10 + c) * 4 + 1) = υ 96 (10 * i + c)
        rw [f 1 (by omega), f2 96 (by omega) (by omega)]; exact g2
      · show υ 10 ((i * 10 + c) * 4 + 2) = υ 97 (10 * i + c)
        rw [f 2 (by omega), f2 97 (by omega) (by omega)]; exact g3
      · show υ 10 ((i * 10 + c) * 4 + 3) = υ 98 (10 * i + c)
        rw [f 3 (by omega), f2 98 (by omega) (by omega)]; exact g4
      · show υ 98 (10 * i + c) = _
        rw [f2 98 (by omega) (by omega)]; exact g6
  · unfold tw_fLaw at h
    exact hk k j (by omega) (by omega) (by omega) (by omega) (by omega) (by omega) (by omega) (by omega)
  · intro n1 r1 h10 h50 e1 e2 c hc
    have en : n1 = n := tw_ninj (by omega) (by omega) (e1.symm.trans (by rw [hk 89 0 (by omega) (by omega) (by omega) (by omega) (by omega) (by omega) (by omega) (by omega)]; exact hn89))
    have er : r1 = r + 1 := tw_ninj (by omega) (by omega) (e2.symm.trans (by rw [← hυ]; exact tw_upd_at))
    rw [en] at hc
    obtain ⟨v1, -, -, -, -, v6⟩ := wM.2 c hc
    have hs : σ0 94 c = tw_sm (fun i => σ0 98 (10 * i + c)) r := hI.2.2.2.2.2.2.2.2.2.1 n r hn10 hr50 hn89 hr90 c hc
    rw [er]
    show υ 94 c = tw_sm (fun i => υ 98 (10 * i + c)) r + tw_gW (υ 98 (10 * r + c))
    rw [u0 94 c (by omega), v1, as 94 c (by omega) (by omega) (by omega) (by omega) (by omega), u0 98 (10 * r + c) (by omega), v6, tw_sm_cg (w := fun i => υ 98 (10 * i + c)) (w1 := fun i => σ0 98 (10 * i + c)) r (fun i hi => hk 98 _ (by omega) (by omega) (by omega) (by omega) (by omega) (by omega) (by omega) (by omega)), hs, tw_gW_gI _ (hT c hc)]
  · unfold tw_fRest tw_fLoom tw_fCards tw_fRows tw_fLaw at h
    exact hk k j (by omega) (by omega) (by omega) (by omega) (by omega) (by omega) (by omega) (by omega)
set_option maxHeartbeats 4000000 in
set_option maxRecDepth 100000 in
theorem tw_e_pickC50 (h9 : σ 9 3 = nI r) (hr : r = 50) : tw_E L xs 3 93 [.ref 6] σ (fun v σ1 => v = some (.int (nI 0)) ∧ σ = σ1) := by
  show tw_P L xs _ 93 0 [.ref 6, tw_U, tw_U] [] σ _
  refine tw_sg 2 (i1 := 2) (ls1 := [.ref 6, tw_U, tw_U]) (st1 := [.ref 9]) (σ1 := σ) rfl ?_
  refine tw_cl0 2 rfl (rfl) (by decide) ?_
  show tw_P L xs _ 19 0 [.ref 9] [] σ _
  refine tw_sgn 4 (i1 := 4) (ls0 := [.ref 9]) (st0 := [.int (nI 50 - (σ 9 3))]) (σ0 := σ) (ls1 := [.ref 9]) (st1 := [.int (nI (50 - r))]) (σ1 := σ) rfl (rfl) (by simp only [h9, tw_nsub (show r ≤ 50 by omega), tw_nadd, tw_nmul]) (rfl) ?_
  refine tw_ri rfl (rfl) ?_
  show tw_P L xs _ 93 3 [.ref 6, tw_U, tw_U] [.int (nI (50 - r))] σ _
  refine tw_sg 1 (i1 := 4) (ls1 := [.ref 6, tw_U, tw_U]) (st1 := [.int (nI 1), .int (nI (50 - r))]) (σ1 := σ) rfl ?_
  refine tw_biT (c := .lt) rfl (by rw [tw_clt, tw_nlt (by omega) (by omega)] <;> omega) ?_
  show tw_P L xs _ 93 8 [.ref 6, tw_U, tw_U] [] σ _
  refine tw_sg 1 (i1 := 9) (ls1 := [.ref 6, tw_U, tw_U]) (st1 := [.int (nI 0)]) (σ1 := σ) rfl ?_
  refine tw_ri rfl (rfl) ?_
  exact ⟨rfl, rfl⟩
set_option maxHeartbeats 4000000 in
set_option maxRecDepth 100000 in
theorem tw_e_pickC0 {n : Nat} {α : tw_Mem} {T P q : Nat → Nat} (h6 : σ 6 4 = nI n) (h9 : σ 9 3 = nI r) (hr : r ≤ 50) (h10 : n ≤ 10) (hT : ∀ c, c < n → T c < 4 ∧ σ 8 c = nI (T c)) (hA : ∀ c, c < n → σ (2 * c + 18) 3 = α 94 c) (hr2 : r < 50) (hj : tw_jm α T n) : tw_E L xs 3 93 [.ref 6] σ (fun v σ1 => v = some (.int (nI 0)) ∧ σ = σ1) := by
  show tw_P L xs _ 93 0 [.ref 6, tw_U, tw_U] [] σ _
  refine tw_sg 2 (i1 := 2) (ls1 := [.ref 6, tw_U, tw_U]) (st1 := [.ref 9]) (σ1 := σ) rfl ?_
  refine tw_cl0 2 rfl (rfl) (by decide) ?_
  show tw_P L xs _ 19 0 [.ref 9] [] σ _
  refine tw_sgn 4 (i1 := 4) (ls0 := [.ref 9]) (st0 := [.int (nI 50 - (σ 9 3))]) (σ0 := σ) (ls1 := [.ref 9]) (st1 := [.int (nI (50 - r))]) (σ1 := σ) rfl (rfl) (by simp only [h9, tw_nsub (show r ≤ 50 by omega), tw_nadd, tw_nmul]) (rfl) ?_
  refine tw_ri rfl (rfl) ?_
  show tw_P L xs _ 93 3 [.ref 6, tw_U, tw_U] [.int (nI (50 - r))] σ _
  refine tw_sg 1 (i1 := 4) (ls1 := [.ref 6, tw_U, tw_U]) (st1 := [.int (nI 1), .int (nI (50 - r))]) (σ1 := σ) rfl ?_
  refine tw_biF (c := .lt) rfl (by rw [tw_clt', tw_nlt (by omega) (by omega)] <;> omega) ?_
  show tw_P L xs _ 93 5 [.ref 6, tw_U, tw_U] [] σ _
  refine tw_sg 1 (i1 := 6) (ls1 := [.ref 6, tw_U, tw_U]) (st1 := [.ref 6]) (σ1 := σ) rfl ?_
  refine tw_cl1 rfl (rfl) (by decide) (tw_e_jamC h6 h10 hT hA) ?_
  rintro _ _ ⟨rfl, rfl⟩
  show tw_P L xs _ 93 7 [.ref 6, tw_U, tw_U] [.int (tw_bl (tw_jm α T n))] σ _
  refine tw_bzF (c := .eq) rfl (by rw [tw_ceq'] <;> (exact (by rw [tw_blT hj]; decide))) ?_
  show tw_P L xs _ 93 8 [.ref 6, tw_U, tw_U] [] σ _
  refine tw_sg 1 (i1 := 9) (ls1 := [.ref 6, tw_U, tw_U]) (st1 := [.int (nI 0)]) (σ1 := σ) rfl ?_
  refine tw_ri rfl (rfl) ?_
  exact ⟨rfl, rfl⟩
set_option maxHeartbeats 4000000 in
set_option maxRecDepth 100000 in
theorem tw_e_pickC1 {n : Nat} {α : tw_Mem} {T P q : Nat → Nat} (h6 : σ 6 4 = nI n) (h9 : σ 9 3 = nI r) (hr : r ≤ 50) (h10 : n ≤ 10) (hT : ∀ c, c < n → T c < 4 ∧ σ 8 c = nI (T c)) (hA : ∀ c, c < n → σ (2 * c + 18) 3 = α 94 c) (hr2 : r < 50) (hj : ¬ tw_jm α T n) (hP : ∀ c, c < n → P c < 4 ∧ σ (2 * c + 18) 2 = nI (P c)) (hq : ∀ c, c < n → q c < 2 ∧ σ (2 * c + 18) 1 = nI (q c)) : tw_E L xs 6 93 [.ref 6] σ (fun v τ => v = some (.int (nI 1)) ∧ ∃ τ0, tw_wkC σ τ0 r T P q n ∧ τ = tw_upd τ0 9 3 (nI (r + 1))) := by
  show tw_P L xs _ 93 0 [.ref 6, tw_U, tw_U] [] σ _
  refine tw_sg 2 (i1 := 2) (ls1 := [.ref 6, tw_U, tw_U]) (st1 := [.ref 9]) (σ1 := σ) rfl ?_
  refine tw_cl0 5 rfl (rfl) (by decide) ?_
  show tw_P L xs _ 19 0 [.ref 9] [] σ _
  refine tw_sgn 4 (i1 := 4) (ls0 := [.ref 9]) (st0 := [.int (nI 50 - (σ 9 3))]) (σ0 := σ) (ls1 := [.ref 9]) (st1 := [.int (nI (50 - r))]) (σ1 := σ) rfl (rfl) (by simp only [h9, tw_nsub (show r ≤ 50 by omega), tw_nadd, tw_nmul]) (rfl) ?_
  refine tw_ri rfl (rfl) ?_
  show tw_P L xs _ 93 3 [.ref 6, tw_U, tw_U] [.int (nI (50 - r))] σ _
  refine tw_sg 1 (i1 := 4) (ls1 := [.ref 6, tw_U, tw_U]) (st1 := [.int (nI 1), .int (nI (50 - r))]) (σ1 := σ) rfl ?_
  refine tw_biF (c := .lt) rfl (by rw [tw_clt', tw_nlt (by omega) (by omega)] <;> omega) ?_
  show tw_P L xs _ 93 5 [.ref 6, tw_U, tw_U] [] σ _
  refine tw_sg 1 (i1 := 6) (ls1 := [.ref 6, tw_U, tw_U]) (st1 := [.ref 6]) (σ1 := σ) rfl ?_
  refine tw_cl1 rfl (rfl) (by decide) (tw_e_jamC h6 h10 hT hA) ?_
  rintro _ _ ⟨rfl, rfl⟩
  show tw_P L xs _ 93 7 [.ref 6, tw_U, tw_U] [.int (tw_bl (tw_jm α T n))] σ _
  refine tw_bzT (c := .eq) rfl (by rw [tw_ceq] <;> (exact (tw_blF hj))) ?_
  show tw_P L xs _ 93 10 [.ref 6, tw_U, tw_U] [] σ _
  refine tw_sg 2 (i1 := 12) (ls1 := [.ref 6, .int (nI 0), tw_U]) (st1 := []) (σ1 := σ) rfl ?_
  refine tw_P_le (d := 5) (tw_l_pickC h6 h9 hr2 h10 hT hP hq n 0 σ _ (by omega) ⟨fun _ _ _ _ => rfl, fun d hd => by omega⟩ (fun τ u h => ?_)) (by decide)
  have e9 : τ 9 3 = nI r := by rw [h.1 _ _ (by omega) (by omega)]; exact h9
  skip
  show tw_P L xs _ 93 32 [.ref 6, .int (nI n), u] [] τ _
  refine tw_sg 2 (i1 := 34) (ls1 := [.ref 6, .int (nI n), u]) (st1 := [.ref 9]) (σ1 := τ) rfl ?_
  refine tw_cl0 3 rfl (rfl) (by decide) ?_
  show tw_P L xs _ 23 0 [.ref 9] [] τ _
  refine tw_sgn 3 (i1 := 3) (ls0 := [.ref 9]) (st0 := [.int (nI 50), .int (τ 9 3)]) (σ0 := τ) (ls1 := [.ref 9]) (st1 := [.int (nI 50), .int (nI r)]) (σ1 := τ) rfl (rfl) (by simp only [e9, tw_nadd, tw_nmul]) (rfl) ?_
  refine tw_biF (c := .ge) rfl (by rw [tw_cge', tw_nle (by omega) (by omega)] <;> omega) ?_
  show tw_P L xs _ 23 4 [.ref 9] [] τ _
  refine tw_sgn 6 (i1 := 10) (ls0 := [.ref 9]) (st0 := []) (σ0 := (tw_upd τ 9 3 ((τ 9 3) + nI 1))) (ls1 := [.ref 9]) (st1 := []) (σ1 := (tw_upd τ 9 3 (nI (r + 1)))) rfl (rfl) (rfl) (by simp only [e9, tw_nadd, tw_nmul]) ?_
  refine tw_rv rfl ?_
  show tw_P L xs _ 93 35 [.ref 6, .int (nI n), u] [] (tw_upd τ 9 3 (nI (r + 1))) _
  refine tw_sg 1 (i1 := 36) (ls1 := [.ref 6, .int (nI n), u]) (st1 := [.int (nI 1)]) (σ1 := (tw_upd τ 9 3 (nI (r + 1)))) rfl ?_
  refine tw_ri rfl (rfl) ?_
  exact ⟨rfl, τ, h, rfl⟩
set_option maxHeartbeats 4000000 in
set_option maxRecDepth 100000 in
theorem tw_e_pickM50 (h90 : σ 90 0 = nI r) (hr : r = 50) : tw_E L xs 3 207 [.ref 88] σ (fun v σ1 => v = some (.int (-4)) ∧ σ = σ1) := by
  show tw_P L xs _ 207 0 [.ref 88] [] σ _
  refine tw_sg 3 (i1 := 3) (ls1 := [.ref 88]) (st1 := [.int (nI 0), .ref 90]) (σ1 := σ) rfl ?_
  refine tw_al (k := 90) (j := 0) (len := 2) rfl rfl rfl rfl (rfl) (by omega) (by decide) ?_
  rw [h90]
  refine tw_sg 1 (i1 := 5) (ls1 := [.ref 88]) (st1 := [.int (nI 50), .int (nI r)]) (σ1 := σ) rfl ?_
  refine tw_biF (c := .ne) rfl (by rw [tw_cne', tw_neq (by omega) (by omega)] <;> omega) ?_
  show tw_P L xs _ 207 6 [.ref 88] [] σ _
  refine tw_sg 1 (i1 := 7) (ls1 := [.ref 88]) (st1 := [.int (-4)]) (σ1 := σ) rfl ?_
  refine tw_ri rfl (rfl) ?_
  exact ⟨rfl, rfl⟩
set_option maxHeartbeats 4000000 in
set_option maxRecDepth 100000 in
theorem tw_e_pickM0 {n : Nat} {T P q : Nat → Nat} (h89 : σ 89 0 = nI n) (h90 : σ 90 0 = nI r) (hr : r ≤ 50) (h10 : n ≤ 10) (hT : ∀ c, c < n → T c < 4 ∧ σ 110 c = nI (T c)) (hr2 : r < 50) (hj : tw_jm σ T n) : tw_E L xs 3 207 [.ref 88] σ (fun v σ1 => v = some (.int (-6)) ∧ σ = σ1) := by
  show tw_P L xs _ 207 0 [.ref 88] [] σ _
  refine tw_sg 3 (i1 := 3) (ls1 := [.ref 88]) (st1 := [.int (nI 0), .ref 90]) (σ1 := σ) rfl ?_
  refine tw_al (k := 90) (j := 0) (len := 2) rfl rfl rfl rfl (rfl) (by omega) (by decide) ?_
  rw [h90]
  refine tw_sg 1 (i1 := 5) (ls1 := [.ref 88]) (st1 := [.int (nI 50), .int (nI r)]) (σ1 := σ) rfl ?_
  refine tw_biT (c := .ne) rfl (by rw [tw_cne, tw_neq (by omega) (by omega)] <;> omega) ?_
  show tw_P L xs _ 207 8 [.ref 88] [] σ _
  refine tw_sg 1 (i1 := 9) (ls1 := [.ref 88]) (st1 := [.ref 88]) (σ1 := σ) rfl ?_
  refine tw_cl1 rfl (rfl) (by decide) (tw_e_jamM h89 h10 hT) ?_
  rintro _ _ ⟨rfl, rfl⟩
  show tw_P L xs _ 207 10 [.ref 88] [.int (tw_bl (tw_jm σ T n))] σ _
  refine tw_bzF (c := .eq) rfl (by rw [tw_ceq'] <;> (exact (by rw [tw_blT hj]; decide))) ?_
  show tw_P L xs _ 207 11 [.ref 88] [] σ _
  refine tw_sg 1 (i1 := 12) (ls1 := [.ref 88]) (st1 := [.int (-6)]) (σ1 := σ) rfl ?_
  refine tw_ri rfl (rfl) ?_
  exact ⟨rfl, rfl⟩
set_option maxHeartbeats 4000000 in
set_option maxRecDepth 100000 in
theorem tw_e_weavePick {n : Nat} {T P q : Nat → Nat} (h89 : σ 89 0 = nI n) (h90 : σ 90 0 = nI r) (hr : r ≤ 50) (h10 : n ≤ 10) (hT : ∀ c, c < n → T c < 4 ∧ σ 110 c = nI (T c)) (hr2 : r < 50) (hP : ∀ c, c < n → P c < 4 ∧ σ 93 c = nI (P c)) (hq : ∀ c, c < n → q c < 2 ∧ σ 92 c = nI (q c)) : tw_E L xs 2 206 [.ref 88] σ (fun v τ => v = none ∧ ∃ τ0, tw_wkM σ τ0 r T P q n ∧ τ = tw_upd τ0 90 0 (nI (r + 1))) := by
  show tw_P L xs _ 206 0 [.ref 88, tw_U, tw_U, tw_U] [] σ _
  refine tw_sg 3 (i1 := 3) (ls1 := [.ref 88, tw_U, tw_U, tw_U]) (st1 := [.int (nI 0), .ref 90]) (σ1 := σ) rfl ?_
  refine tw_al (k := 90) (j := 0) (len := 2) rfl rfl rfl rfl (rfl) (by omega) (by decide) ?_
  rw [h90]
  refine tw_sg 3 (i1 := 7) (ls1 := [.ref 88, .int (nI r), .int (nI 0), tw_U]) (st1 := []) (σ1 := σ) rfl ?_
  refine tw_P_le (d := 1) (tw_l_pickM h89 hr2 h10 hT hP hq n 0 σ _ (by omega) ⟨fun _ _ _ _ => rfl, fun d hd => by omega⟩ (fun τ u h => ?_)) (by decide)
  have e9 : τ 90 0 = nI r := by rw [h.1 _ _ (by omega) (by omega)]; exact h90
  show tw_P L xs _ 206 128 [.ref 88, .int (nI r), .int (nI n), u] [] τ _
  refine tw_sg 4 (i1 := 132) (ls1 := [.ref 88, .int (nI r), .int (nI n), u]) (st1 := [.int (nI 0), .ref 90, .int (nI 0), .ref 90]) (σ1 := τ) rfl ?_
  refine tw_al (k := 90) (j := 0) (len := 2) rfl rfl rfl rfl (rfl) (by omega) (by decide) ?_
  rw [e9]
  refine tw_sgn 2 (i1 := 135) (ls0 := [.ref 88, .int (nI r), .int (nI n), u]) (st0 := [.int (nI r + nI 1), .int (nI 0), .ref 90]) (σ0 := τ) (ls1 := [.ref 88, .int (nI r), .int (nI n), u]) (st1 := [.int (nI (r + 1)), .int (nI 0), .ref 90]) (σ1 := τ) rfl (rfl) (by simp only [tw_nadd, tw_nmul]) (rfl) ?_
  refine tw_as (k := 90) (j := 0) (len := 2) rfl rfl rfl (rfl) (by omega) (by decide) ?_
  refine tw_rv rfl ?_
  exact ⟨rfl, τ, h, rfl⟩
set_option maxHeartbeats 4000000 in
set_option maxRecDepth 100000 in
theorem tw_e_pickM1 {n : Nat} {T P q : Nat → Nat} (h89 : σ 89 0 = nI n) (h90 : σ 90 0 = nI r) (hr : r ≤ 50) (h10 : n ≤ 10) (hT : ∀ c, c < n → T c < 4 ∧ σ 110 c = nI (T c)) (hr2 : r < 50) (hj : ¬ tw_jm σ T n) (hP : ∀ c, c < n → P c < 4 ∧ σ 93 c = nI (P c)) (hq : ∀ c, c < n → q c < 2 ∧ σ 92 c = nI (q c)) : tw_E L xs 3 207 [.ref 88] σ (fun v τ => v = some (.int (nI (r + 1))) ∧ ∃ τ0, tw_wkM σ τ0 r T P q n ∧ τ = tw_upd τ0 90 0 (nI (r + 1))) := by
  show tw_P L xs _ 207 0 [.ref 88] [] σ _
  refine tw_sg 3 (i1 := 3) (ls1 := [.ref 88]) (st1 := [.int (nI 0), .ref 90]) (σ1 := σ) rfl ?_
  refine tw_al (k := 90) (j := 0) (len := 2) rfl rfl rfl rfl (rfl) (by omega) (by decide) ?_
  rw [h90]
  refine tw_sg 1 (i1 := 5) (ls1 := [.ref 88]) (st1 := [.int (nI 50), .int (nI r)]) (σ1 := σ) rfl ?_
  refine tw_biT (c := .ne) rfl (by rw [tw_cne, tw_neq (by omega) (by omega)] <;> omega) ?_
  show tw_P L xs _ 207 8 [.ref 88] [] σ _
  refine tw_sg 1 (i1 := 9) (ls1 := [.ref 88]) (st1 := [.ref 88]) (σ1 := σ) rfl ?_
  refine tw_cl1 rfl (rfl) (by decide) (tw_e_jamM h89 h10 hT) ?_
  rintro _ _ ⟨rfl, rfl⟩
  show tw_P L xs _ 207 10 [.ref 88] [.int (tw_bl (tw_jm σ T n))] σ _
  refine tw_bzT (c := .eq) rfl (by rw [tw_ceq] <;> (exact (tw_blF hj))) ?_
  show tw_P L xs _ 207 13 [.ref 88] [] σ _
  refine tw_sg 1 (i1 := 14) (ls1 := [.ref 88]) (st1 := [.ref 88]) (σ1 := σ) rfl ?_
  refine tw_cl1 rfl (rfl) (by decide) (tw_e_weavePick h89 h90 hr h10 hT hr2 hP hq) ?_
  rintro _ _ ⟨rfl, τ0, h, rfl⟩
  show tw_P L xs _ 207 15 [.ref 88] [] (tw_upd τ0 90 0 (nI (r + 1))) _
  refine tw_sg 3 (i1 := 18) (ls1 := [.ref 88]) (st1 := [.int (nI 0), .ref 90]) (σ1 := (tw_upd τ0 90 0 (nI (r + 1)))) rfl ?_
  refine tw_al (k := 90) (j := 0) (len := 2) rfl rfl rfl rfl (rfl) (by omega) (by decide) ?_
  rw [show (tw_upd τ0 90 0 (nI (r + 1))) 90 0 = nI (r + 1) from by repeat (first | exact rfl | exact tw_upd_at | rw [tw_upd_off (by omega)])]
  refine tw_ri rfl (rfl) ?_
  exact ⟨rfl, τ0, h, rfl⟩
end tw_s39
