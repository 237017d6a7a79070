/-! in mind, the class -/
section tw_s57
variable {L : Nat} {xs : Nat → Int32} {σ : tw_Mem} {x y w : Int32} {n r i c k h q a b e : Nat}
/-! in mind: what is thought of a card behind i picks, t the turnings that it gets -/
def tw_gN (t : Nat) : Nat := if t = 1 then 2 else if t = 2 then 0 else if t = 3 then 3 else 1
def tw_kS (t : Nat → Nat) : Nat → Nat
  | 0 => 400
  | i + 1 => tw_kS t i + tw_gN (t i) - 1
def tw_pS (p0 : Nat) (t : Nat → Nat) : Nat → Nat
  | 0 => p0
  | i + 1 => tw_pl (tw_pS p0 t i) (t i)
def tw_wS (w0 : Int32) (t : Nat → Nat) : Nat → Int32
  | 0 => w0
  | i + 1 => tw_wS w0 t i + tw_gI (t i)
theorem tw_gN_le {t : Nat} : tw_gN t ≤ 3 := by unfold tw_gN; split <;> (try split) <;> (try split) <;> omega
theorem tw_kS_b {t : Nat → Nat} : ∀ i, 400 ≤ tw_kS t i + i ∧ tw_kS t i ≤ 400 + 2 * i
  | 0 => ⟨by rw [tw_kS]; omega, by rw [tw_kS]; omega⟩
  | i + 1 => by
    have h := tw_kS_b (t := t) i
    have h2 := tw_gN_le (t := t i)
    rw [tw_kS]
    omega
theorem tw_gN_mI : ∀ t, t < 4 → (tw_gN t + 3) % 4 = tw_mI t % 4 := by decide
theorem tw_pS_k {p0 : Nat} {t : Nat → Nat} (hp : p0 < 4) : ∀ i, i ≤ 200 → (∀ j, j < i → t j < 4) → tw_pS p0 t i = (p0 + tw_kS t i) % 4
  | 0, _, _ => by rw [tw_pS, tw_kS]; omega
  | i + 1, h, ht => by
    have e := tw_pS_k hp i (by omega) (fun j hj => ht j (by omega))
    have b := tw_kS_b (t := t) i
    have g := tw_gN_mI (t i) (ht i (by omega))
    rw [tw_pS, tw_kS, tw_pl, e]
    omega
theorem tw_pS_lt {p0 : Nat} {t : Nat → Nat} (hp : p0 < 4) : ∀ i, tw_pS p0 t i < 4
  | 0 => hp
  | i + 1 => tw_pl_lt
theorem tw_fm_k : ∀ k, k < 801 → tw_fm (nI 0 + (nI k - nI 400)) = nI (k % 4) := by decide +kernel
theorem tw_kS_s {t : Nat → Nat} {i : Nat} (h : i < 200) (ht : t i < 4) : nI (tw_kS t i) - nI 400 + tw_gI (t i) = nI (tw_kS t (i + 1)) - nI 400 := by
  have b := tw_kS_b (t := t) i
  rw [tw_kS]
  generalize tw_kS t i = k at b
  generalize t i = q at ht
  have e : ∀ q, q < 4 → tw_gI q = nI (tw_gN q) - nI 1 := by decide
  rw [e q ht, show k + tw_gN q - 1 = (k - 1) + tw_gN q by omega, ← tw_nadd, ← tw_nsub (show 1 ≤ k by omega)]
  simp only [Int32.sub_eq_add_neg]
  ac_rfl
/-- the class's mind behind i picks; within the next one, up to card c -/
def tw_mfC (σ0 σ : tw_Mem) : Prop := ∀ k j, ¬ k = 76 → ¬ k = 77 → ¬ k = 78 → σ k j = σ0 k j
def tw_mdC (σ0 σ : tw_Mem) (n : Nat) (t : Nat → Nat → Nat) (W : Nat → Int32) (i c : Nat) : Prop := tw_mfC σ0 σ ∧ σ 76 2 = nI n ∧ ∀ d, d < n → σ 77 d = nI (tw_kS (t d) (if d < c then i + 1 else i)) - nI 400 ∧ σ 78 d = tw_wS (W d) (t d) (if d < c then i + 1 else i)
def tw_mfM (σ0 σ : tw_Mem) : Prop := ∀ k j, ¬ k = 110 → ¬ k = 111 → ¬ k = 112 → σ k j = σ0 k j
def tw_mdM (σ0 σ : tw_Mem) (n : Nat) (t : Nat → Nat → Nat) (W : Nat → Int32) (P : Nat → Nat) (i c : Nat) : Prop := tw_mfM σ0 σ ∧ ∀ d, d < n → σ 111 d = nI (tw_pS (P d) (t d) (if d < c then i + 1 else i)) ∧ σ 112 d = tw_wS (W d) (t d) (if d < c then i + 1 else i)
def tw_mJ (n : Nat) (t : Nat → Nat → Nat) (W : Nat → Int32) (i : Nat) : Prop := ∃ c, c < n ∧ ¬ tw_tt (tw_wS (W c) (t c) (i + 1)) = nI 0
def tw_mA (n : Nat) (t : Nat → Nat → Nat) (P : Nat → Nat) (i : Nat) : Prop := ∀ c, c < n → tw_pS (P c) (t c) i = P c
def tw_mF (n : Nat) (t : Nat → Nat → Nat) (W : Nat → Int32) (i : Nat) : Prop := ∀ c, c < n → tw_wS (W c) (t c) i = nI 0
theorem tw_mdC.step {σ0 σ : tw_Mem} {n i c : Nat} {t : Nat → Nat → Nat} {W : Nat → Int32} (h : tw_mdC σ0 σ n t W i c) (hi : i < 200) (hc : c < n) (ht : t c i < 4) : tw_mdC σ0 (tw_upd (tw_upd σ 77 c (σ 77 c + tw_gI (t c i))) 78 c (σ 78 c + tw_gI (t c i))) n t W i (c + 1) := by
  refine ⟨fun k j g1 g2 g3 => ?_, ?_, fun d hd => ?_⟩
  · rw [tw_upd_off (by omega), tw_upd_off (by omega)]; exact h.1 k j g1 g2 g3
  · rw [tw_upd_off (by omega), tw_upd_off (by omega)]; exact h.2.1
  · by_cases z : d = c
    · subst z
      obtain ⟨h1, h2⟩ := h.2.2 d hd
      rw [if_neg (by omega)] at h1 h2
      rw [tw_upd_off (by omega), tw_upd_at, tw_upd_at, h1, h2, if_pos (by omega), tw_kS_s hi ht, tw_wS]
      exact ⟨rfl, rfl⟩
    · obtain ⟨h1, h2⟩ := h.2.2 d hd
      rw [tw_upd_off (by omega), tw_upd_off (by omega), tw_upd_off (by omega), tw_upd_off (by omega), h1, h2]
      by_cases z2 : d < c
      · rw [if_pos z2, if_pos (by omega)]; exact ⟨rfl, rfl⟩
      · rw [if_neg z2, if_neg (by omega)]; exact ⟨rfl, rfl⟩
theorem tw_mdC.done {σ0 σ : tw_Mem} {n i : Nat} {t : Nat → Nat → Nat} {W : Nat → Int32} (h : tw_mdC σ0 σ n t W i n) : tw_mdC σ0 σ n t W (i + 1) 0 := by
  refine ⟨h.1, h.2.1, fun d hd => ?_⟩
  have e := h.2.2 d hd
  rw [if_pos hd] at e
  rw [if_neg (by omega)]
  exact e
theorem tw_mdM.done {σ0 σ : tw_Mem} {n i : Nat} {t : Nat → Nat → Nat} {W : Nat → Int32} {P : Nat → Nat} (h : tw_mdM σ0 σ n t W P i n) : tw_mdM σ0 σ n t W P (i + 1) 0 := by
  refine ⟨h.1, fun d hd => ?_⟩
  have e := h.2 d hd
  rw [if_pos hd] at e
  rw [if_neg (by omega)]
  exact e
theorem tw_mdM.step {σ0 σ : tw_Mem} {n i c : Nat} {t : Nat → Nat → Nat} {W : Nat → Int32} {P : Nat → Nat} (h : tw_mdM σ0 σ n t W P i c) (hc : c < n) : tw_mdM σ0 (tw_upd (tw_upd σ 111 c (nI (tw_pl (tw_pS (P c) (t c) i) (t c i)))) 112 c (tw_wS (W c) (t c) i + tw_gI (t c i))) n t W P i (c + 1) := by
  refine ⟨fun k j g1 g2 g3 => ?_, fun d hd => ?_⟩
  · rw [tw_upd_off (by omega), tw_upd_off (by omega)]; exact h.1 k j g1 g2 g3
  · by_cases z : d = c
    · subst z
      rw [tw_upd_off (by omega), tw_upd_at, tw_upd_at, if_pos (by omega), tw_wS, tw_pS]
      exact ⟨rfl, rfl⟩
    · obtain ⟨h1, h2⟩ := h.2 d hd
      rw [tw_upd_off (by omega), tw_upd_off (by omega), tw_upd_off (by omega), tw_upd_off (by omega), h1, h2]
      by_cases z2 : d < c
      · rw [if_pos z2, if_pos (by omega)]; exact ⟨rfl, rfl⟩
      · rw [if_neg z2, if_neg (by omega)]; exact ⟨rfl, rfl⟩
set_option maxHeartbeats 4000000 in
set_option maxRecDepth 100000 in
theorem tw_l_begin {L : Nat} {xs : Nat → Int32} {Q : Option Value → tw_Mem → Prop} {σ0 : tw_Mem} {n : Nat} {t : Nat → Nat → Nat} {W : Nat → Int32} (h6 : σ0 6 4 = nI n) (h10 : n ≤ 10) (hW : ∀ c, c < n → σ0 (2 * c + 18) 3 = W c) : ∀ (f : Nat) (c : Nat) (σ : tw_Mem), c + f = n → ((tw_mfC σ0 σ ∧ σ 76 2 = nI n ∧ ∀ d, d < c → σ 77 d = nI 0 ∧ σ 78 d = W d) ∧ ∀ τ : tw_Mem, tw_mdC σ0 τ n t W 0 0 → Q none τ) → tw_P L xs 3 109 8 [.ref 76, .ref 6, .int (nI c)] [] σ Q := by
  intro f
  induction f with
  | zero =>
    intro c σ hf hQ
    refine tw_sgn 3 (i1 := 11) (ls0 := [.ref 76, .ref 6, .int (nI c)]) (st0 := [.int (σ 76 2), .int (nI c)]) (σ0 := σ) (ls1 := [.ref 76, .ref 6, .int (nI c)]) (st1 := [.int (nI n), .int (nI c)]) (σ1 := σ) rfl (rfl) (by simp only [hQ.1.2.1, tw_nadd, tw_nmul]) (rfl) ?_
    refine tw_biT (c := .ge) rfl (by rw [tw_cge, tw_nle (by omega) (by omega)] <;> omega) ?_
    show tw_P L xs _ 109 26 [.ref 76, .ref 6, .int (nI c)] [] σ _
    refine tw_rv rfl ?_
    refine hQ.2 σ ⟨hQ.1.1, hQ.1.2.1, fun d hd => ?_⟩
    have e := hQ.1.2.2 d (by omega)
    rw [if_neg (by omega), tw_kS, tw_wS, e.1, e.2]
    exact ⟨by decide, rfl⟩
  | succ f ih =>
    intro c σ hf hQ
    refine tw_sgn 3 (i1 := 11) (ls0 := [.ref 76, .ref 6, .int (nI c)]) (st0 := [.int (σ 76 2), .int (nI c)]) (σ0 := σ) (ls1 := [.ref 76, .ref 6, .int (nI c)]) (st1 := [.int (nI n), .int (nI c)]) (σ1 := σ) rfl (rfl) (by simp only [hQ.1.2.1, tw_nadd, tw_nmul]) (rfl) ?_
    refine tw_biF (c := .ge) rfl (by rw [tw_cge', tw_nle (by omega) (by omega)] <;> omega) ?_
    show tw_P L xs _ 109 12 [.ref 76, .ref 6, .int (nI c)] [] σ _
    refine tw_sg 4 (i1 := 16) (ls1 := [.ref 76, .ref 6, .int (nI c)]) (st1 := [.int (nI 0), .int (nI c), .ref 77]) (σ1 := σ) rfl ?_
    refine tw_as (k := 77) (j := c) (len := 10) rfl rfl rfl (rfl) (by omega) (by decide) ?_
    refine tw_sg 5 (i1 := 22) (ls1 := [.ref 76, .ref 6, .int (nI c)]) (st1 := [.int (nI c), .ref 6, .int (nI c), .ref 78]) (σ1 := (tw_upd σ 77 c (nI 0))) rfl ?_
    refine tw_cl0 2 rfl (rfl) (by decide) ?_
    show tw_P L xs _ 100 0 [.ref 6, .int (nI c), tw_U] [] (tw_upd σ 77 c (nI 0)) _
    refine tw_sg 2 (i1 := 2) (ls1 := [.ref 6, .int (nI c), tw_U]) (st1 := [.int (nI c), .ref 6]) (σ1 := (tw_upd σ 77 c (nI 0))) rfl ?_
    refine tw_cl1 rfl (rfl) (by decide) (tw_e_cardAt1 (σ := (tw_upd σ 77 c (nI 0))) (by rw [tw_upd_off (by omega)]; exact (hQ.1.1 6 4 (by omega) (by omega) (by omega)).trans h6) h10 (by omega)) ?_
    rintro _ _ ⟨rfl, rfl⟩
    show tw_P L xs _ 100 3 [.ref 6, .int (nI c), tw_U] [.ref (2 * c + 18)] (tw_upd σ 77 c (nI 0)) _
    refine tw_sg 4 (i1 := 9) (ls1 := [.ref 6, .int (nI c), .ref (2 * c + 18)]) (st1 := [.ref (2 * c + 18)]) (σ1 := (tw_upd σ 77 c (nI 0))) rfl ?_
    refine tw_cl0 1 rfl (tw_inv_ok (y := 7) (b := 0) (st := [.ref (2 * c + 18)]) (k := (2 * c + 18)) (r := []) rfl rfl (tw_cdO (by omega))) (by decide) ?_
    show tw_P L xs _ 7 0 [.ref (2 * c + 18)] [] (tw_upd σ 77 c (nI 0)) _
    refine tw_sg 1 (i1 := 1) (ls1 := [.ref (2 * c + 18)]) (st1 := [.ref (2 * c + 18)]) (σ1 := (tw_upd σ 77 c (nI 0))) rfl ?_
    refine tw_gf rfl (tw_cdO (by omega)) (tw_cdB (by omega) (by decide)) (v := .int ((tw_upd σ 77 c (nI 0)) (2 * c + 18) 3)) (tw_cdV3 (by omega)) ?_
    rw [show (tw_upd σ 77 c (nI 0)) (2 * c + 18) 3 = σ (2 * c + 18) 3 from by repeat (first | exact rfl | exact tw_upd_at | rw [tw_upd_off (by omega)]), ((hQ.1.1 _ _ (by omega) (by omega) (by omega)).trans (hW c (by omega)))]
    refine tw_ri rfl (rfl) ?_
    show tw_P L xs _ 100 10 [.ref 6, .int (nI c), .ref (2 * c + 18)] [.int (W c)] (tw_upd σ 77 c (nI 0)) _
    refine tw_ri rfl (rfl) ?_
    show tw_P L xs _ 109 23 [.ref 76, .ref 6, .int (nI c)] [.int (W c), .int (nI c), .ref 78] (tw_upd σ 77 c (nI 0)) _
    refine tw_as (k := 78) (j := c) (len := 10) rfl rfl rfl (rfl) (by omega) (by decide) ?_
    refine tw_sgn 2 (i1 := 8) (ls0 := [.ref 76, .ref 6, .int (nI c + nI 1)]) (st0 := []) (σ0 := (tw_upd (tw_upd σ 77 c (nI 0)) 78 c (W c))) (ls1 := [.ref 76, .ref 6, .int (nI (c + 1))]) (st1 := []) (σ1 := (tw_upd (tw_upd σ 77 c (nI 0)) 78 c (W c))) rfl (by simp only [tw_nadd, tw_nmul]) (rfl) (rfl) ?_
    refine ih (c + 1) _ (by omega) ⟨⟨fun k j g1 g2 g3 => ?_, ?_, fun d hd => ?_⟩, hQ.2⟩
    · rw [tw_upd_off (by omega), tw_upd_off (by omega)]; exact hQ.1.1 k j g1 g2 g3
    · rw [tw_upd_off (by omega), tw_upd_off (by omega)]; exact hQ.1.2.1
    · by_cases z : d = c
      · subst z; rw [tw_upd_off (by omega), tw_upd_at, tw_upd_at]; exact ⟨rfl, rfl⟩
      · rw [tw_upd_off (by omega), tw_upd_off (by omega), tw_upd_off (by omega), tw_upd_off (by omega)]; exact hQ.1.2.2 d (by omega)
set_option maxHeartbeats 4000000 in
set_option maxRecDepth 100000 in
theorem tw_e_begin {n : Nat} {t : Nat → Nat → Nat} {W : Nat → Int32} (h6 : σ 6 4 = nI n) (h10 : n ≤ 10) (hW : ∀ c, c < n → σ (2 * c + 18) 3 = W c) : tw_E L xs 3 109 [.ref 76, .ref 6] σ (fun v τ => v = none ∧ tw_mdC σ τ n t W 0 0) := by
  show tw_P L xs _ 109 0 [.ref 76, .ref 6, tw_U] [] σ _
  refine tw_sg 3 (i1 := 3) (ls1 := [.ref 76, .ref 6, tw_U]) (st1 := [.ref 6, .int (nI 10), .ref 76]) (σ1 := σ) rfl ?_
  refine tw_cl0 2 rfl (rfl) (by decide) ?_
  show tw_P L xs _ 82 0 [.ref 6] [] σ _
  refine tw_sgn 2 (i1 := 2) (ls0 := [.ref 6]) (st0 := [.int (σ 6 4)]) (σ0 := σ) (ls1 := [.ref 6]) (st1 := [.int (nI n)]) (σ1 := σ) rfl (rfl) (by simp only [h6, tw_nadd, tw_nmul]) (rfl) ?_
  refine tw_ri rfl (rfl) ?_
  show tw_P L xs _ 109 4 [.ref 76, .ref 6, tw_U] [.int (nI n), .int (nI 10), .ref 76] σ _
  refine tw_cl1 rfl (rfl) (by decide) (tw_E_mono (tw_e_minN (a := 10) (b := n) (by omega) (by omega)) (fun v σ1 h => (⟨by rw [h.1, Nat.min_eq_right h10], h.2⟩ : v = some (.int (nI n)) ∧ σ = σ1))) ?_
  rintro _ _ ⟨rfl, rfl⟩
  show tw_P L xs _ 109 5 [.ref 76, .ref 6, tw_U] [.int (nI n), .ref 76] σ _
  refine tw_sg 3 (i1 := 8) (ls1 := [.ref 76, .ref 6, .int (nI 0)]) (st1 := []) (σ1 := (tw_upd σ 76 2 (nI n))) rfl ?_
  refine tw_l_begin (σ0 := σ) h6 h10 hW n 0 _ (by omega) ⟨⟨fun k j g1 g2 g3 => tw_upd_off (by omega), tw_upd_at, fun d hd => by omega⟩, fun τ h => ⟨rfl, h⟩⟩
set_option maxHeartbeats 4000000 in
set_option maxRecDepth 100000 in
theorem tw_l_mpick {L : Nat} {xs : Nat → Int32} {Q : Option Value → tw_Mem → Prop} {σ0 : tw_Mem} {n i : Nat} {t : Nat → Nat → Nat} {W : Nat → Int32} (hi : i < 200) (h10 : n ≤ 10) (ht : ∀ c, c < n → t c i < 4) (hN : ∀ c, c < n → ∀ σ, tw_mfC σ0 σ → tw_E L xs 10 89 [.ref 6, .int (nI c), .int (nI i)] σ (fun v σ1 => v = some (.int (nI (t c i))) ∧ σ = σ1)) (hE : ∀ τ, (tw_mfC σ0 τ ∧ (¬ tw_mJ n t W i → tw_mdC σ0 τ n t W (i + 1) 0)) → Q (some (.int (tw_bl (¬ tw_mJ n t W i)))) τ) : ∀ (f c : Nat) (σ : tw_Mem) (u : Value), c + f = n → tw_mdC σ0 σ n t W i c → (∀ d, d < c → tw_tt (tw_wS (W d) (t d) (i + 1)) = nI 0) → tw_P L xs 11 110 2 [.ref 76, .ref 6, .int (nI i), .int (nI c), u] [] σ Q := by
  intro f
  induction f with
  | zero =>
    intro c σ u hf hQ hno
    have hf : n = c := Eq.symm hf
    subst hf
    have hJ : ¬ tw_mJ n t W i := fun h => by obtain ⟨c, h1, h2⟩ := h; exact h2 (hno c h1)
    have hE1 := hE σ ⟨hQ.1, fun _ => hQ.done⟩
    rw [tw_blT hJ] at hE1
    refine tw_sgn 3 (i1 := 5) (ls0 := [.ref 76, .ref 6, .int (nI i), .int (nI n), u]) (st0 := [.int (σ 76 2), .int (nI n)]) (σ0 := σ) (ls1 := [.ref 76, .ref 6, .int (nI i), .int (nI n), u]) (st1 := [.int (nI n), .int (nI n)]) (σ1 := σ) rfl (rfl) (by simp only [hQ.2.1, tw_nadd, tw_nmul]) (rfl) ?_
    refine tw_biT (c := .ge) rfl (by rw [tw_cge, tw_nle (by omega) (by omega)] <;> omega) ?_
    show tw_P L xs _ 110 38 [.ref 76, .ref 6, .int (nI i), .int (nI n), u] [] σ _
    refine tw_sg 1 (i1 := 39) (ls1 := [.ref 76, .ref 6, .int (nI i), .int (nI n), u]) (st1 := [.int (nI 1)]) (σ1 := σ) rfl ?_
    refine tw_ri rfl (rfl) ?_
    exact hE1
  | succ f ih =>
    intro c σ u hf hQ hno
    have e78 : σ 78 c + tw_gI (t c i) = tw_wS (W c) (t c) (i + 1) := by rw [(hQ.2.2 c (by omega)).2, if_neg (by omega)]; rfl
    refine tw_sgn 3 (i1 := 5) (ls0 := [.ref 76, .ref 6, .int (nI i), .int (nI c), u]) (st0 := [.int (σ 76 2), .int (nI c)]) (σ0 := σ) (ls1 := [.ref 76, .ref 6, .int (nI i), .int (nI c), u]) (st1 := [.int (nI n), .int (nI c)]) (σ1 := σ) rfl (rfl) (by simp only [hQ.2.1, tw_nadd, tw_nmul]) (rfl) ?_
    refine tw_biF (c := .ge) rfl (by rw [tw_cge', tw_nle (by omega) (by omega)] <;> omega) ?_
    show tw_P L xs _ 110 6 [.ref 76, .ref 6, .int (nI i), .int (nI c), u] [] σ _
    refine tw_sg 3 (i1 := 9) (ls1 := [.ref 76, .ref 6, .int (nI i), .int (nI c), u]) (st1 := [.int (nI i), .int (nI c), .ref 6]) (σ1 := σ) rfl ?_
    refine tw_cl1 rfl (rfl) (by decide) (hN c (by omega) σ hQ.1) ?_
    rintro _ _ ⟨rfl, rfl⟩
    show tw_P L xs _ 110 10 [.ref 76, .ref 6, .int (nI i), .int (nI c), u] [.int (nI (t c i))] σ _
    refine tw_cl1 rfl (rfl) (by decide) (tw_e_twistOf (ht c (by omega))) ?_
    rintro _ _ ⟨rfl, rfl⟩
    show tw_P L xs _ 110 11 [.ref 76, .ref 6, .int (nI i), .int (nI c), u] [.int (tw_gI (t c i))] σ _
    refine tw_sg 5 (i1 := 16) (ls1 := [.ref 76, .ref 6, .int (nI i), .int (nI c), .int (tw_gI (t c i))]) (st1 := [.int (nI c), .ref 77, .int (nI c), .ref 77]) (σ1 := σ) rfl ?_
    refine tw_al (k := 77) (j := c) (len := 10) rfl rfl rfl rfl (rfl) (by omega) (by decide) ?_
    refine tw_sg 2 (i1 := 19) (ls1 := [.ref 76, .ref 6, .int (nI i), .int (nI c), .int (tw_gI (t c i))]) (st1 := [.int ((σ 77 c) + (tw_gI (t c i))), .int (nI c), .ref 77]) (σ1 := σ) rfl ?_
    refine tw_as (k := 77) (j := c) (len := 10) rfl rfl rfl (rfl) (by omega) (by decide) ?_
    refine tw_sg 4 (i1 := 24) (ls1 := [.ref 76, .ref 6, .int (nI i), .int (nI c), .int (tw_gI (t c i))]) (st1 := [.int (nI c), .ref 78, .int (nI c), .ref 78]) (σ1 := (tw_upd σ 77 c ((σ 77 c) + (tw_gI (t c i))))) rfl ?_
    refine tw_al (k := 78) (j := c) (len := 10) rfl rfl rfl rfl (rfl) (by omega) (by decide) ?_
    rw [show (tw_upd σ 77 c ((σ 77 c) + (tw_gI (t c i)))) 78 c = σ 78 c from by repeat (first | exact rfl | exact tw_upd_at | rw [tw_upd_off (by omega)])]
    refine tw_sg 2 (i1 := 27) (ls1 := [.ref 76, .ref 6, .int (nI i), .int (nI c), .int (tw_gI (t c i))]) (st1 := [.int ((σ 78 c) + (tw_gI (t c i))), .int (nI c), .ref 78]) (σ1 := (tw_upd σ 77 c ((σ 77 c) + (tw_gI (t c i))))) rfl ?_
    refine tw_as (k := 78) (j := c) (len := 10) rfl rfl rfl (rfl) (by omega) (by decide) ?_
    refine tw_sg 3 (i1 := 31) (ls1 := [.ref 76, .ref 6, .int (nI i), .int (nI c), .int (tw_gI (t c i))]) (st1 := [.int (nI c), .ref 78]) (σ1 := (tw_upd (tw_upd σ 77 c ((σ 77 c) + (tw_gI (t c i)))) 78 c ((σ 78 c) + (tw_gI (t c i))))) rfl ?_
    refine tw_al (k := 78) (j := c) (len := 10) rfl rfl rfl rfl (rfl) (by omega) (by decide) ?_
    rw [show (tw_upd (tw_upd σ 77 c ((σ 77 c) + (tw_gI (t c i)))) 78 c ((σ 78 c) + (tw_gI (t c i)))) 78 c = (σ 78 c) + (tw_gI (t c i)) from by repeat (first | exact rfl | exact tw_upd_at | rw [tw_upd_off (by omega)])]
    refine tw_cl1 rfl (rfl) (by decide) (tw_e_tt) ?_
    rintro _ _ ⟨rfl, rfl⟩
    show tw_P L xs _ 110 33 [.ref 76, .ref 6, .int (nI i), .int (nI c), .int (tw_gI (t c i))] [.int (tw_tt (σ 78 c + tw_gI (t c i)))] (tw_upd (tw_upd σ 77 c ((σ 77 c) + (tw_gI (t c i)))) 78 c ((σ 78 c) + (tw_gI (t c i)))) _
    refine tw_bz (c := .eq) rfl (fun h1 => ?_) (fun h1 => ?_)
    · rw [tw_ceq] at h1
      refine tw_sgn 2 (i1 := 2) (ls0 := [.ref 76, .ref 6, .int (nI i), .int (nI c + nI 1), .int (tw_gI (t c i))]) (st0 := []) (σ0 := (tw_upd (tw_upd σ 77 c ((σ 77 c) + (tw_gI (t c i)))) 78 c ((σ 78 c) + (tw_gI (t c i))))) (ls1 := [.ref 76, .ref 6, .int (nI i), .int (nI (c + 1)), .int (tw_gI (t c i))]) (st1 := []) (σ1 := (tw_upd (tw_upd σ 77 c ((σ 77 c) + (tw_gI (t c i)))) 78 c ((σ 78 c) + (tw_gI (t c i))))) rfl (by simp only [tw_nadd, tw_nmul]) (rfl) (rfl) ?_
      refine ih (c + 1) _ _ (by omega) (hQ.step hi (by omega) (ht c (by omega))) (fun d hd => ?_)
      by_cases z : d = c
      · rw [z, ← e78]; exact h1
      · exact hno d (by omega)
    · rw [tw_ceq'] at h1
      refine tw_sg 1 (i1 := 35) (ls1 := [.ref 76, .ref 6, .int (nI i), .int (nI c), .int (tw_gI (t c i))]) (st1 := [.int (nI 0)]) (σ1 := (tw_upd (tw_upd σ 77 c ((σ 77 c) + (tw_gI (t c i)))) 78 c ((σ 78 c) + (tw_gI (t c i))))) rfl ?_
      refine tw_ri rfl (rfl) ?_
      have hJ : tw_mJ n t W i := ⟨c, by omega, by rw [← e78]; exact h1⟩
      have hE1 := hE (tw_upd (tw_upd σ 77 c ((σ 77 c) + (tw_gI (t c i)))) 78 c ((σ 78 c) + (tw_gI (t c i)))) ⟨(hQ.step hi (by omega) (ht c (by omega))).1, fun q => absurd hJ q⟩
      rw [tw_blF (fun q => q hJ)] at hE1
      exact hE1
set_option maxHeartbeats 4000000 in
set_option maxRecDepth 100000 in
theorem tw_e_mpick {σ0 : tw_Mem} {n i : Nat} {t : Nat → Nat → Nat} {W : Nat → Int32} (hi : i < 200) (h10 : n ≤ 10) (ht : ∀ c, c < n → t c i < 4) (hN : ∀ c, c < n → ∀ σ, tw_mfC σ0 σ → tw_E L xs 10 89 [.ref 6, .int (nI c), .int (nI i)] σ (fun v σ1 => v = some (.int (nI (t c i))) ∧ σ = σ1)) (hQ : tw_mdC σ0 σ n t W i 0) : tw_E L xs 11 110 [.ref 76, .ref 6, .int (nI i)] σ (fun v τ => v = some (.int (tw_bl (¬ tw_mJ n t W i))) ∧ tw_mfC σ0 τ ∧ (¬ tw_mJ n t W i → tw_mdC σ0 τ n t W (i + 1) 0)) := by
  show tw_P L xs _ 110 0 [.ref 76, .ref 6, .int (nI i), tw_U, tw_U] [] σ _
  refine tw_sg 2 (i1 := 2) (ls1 := [.ref 76, .ref 6, .int (nI i), .int (nI 0), tw_U]) (st1 := []) (σ1 := σ) rfl ?_
  exact tw_l_mpick hi h10 ht hN (fun τ h => ⟨rfl, h⟩) n 0 σ _ (by omega) hQ (fun d hd => by omega)
set_option maxHeartbeats 4000000 in
set_option maxRecDepth 100000 in
theorem tw_l_asnow {L : Nat} {xs : Nat → Int32} {Q : Option Value → tw_Mem → Prop} {σ : tw_Mem} {σ0 : tw_Mem} {n i : Nat} {t : Nat → Nat → Nat} {W : Nat → Int32} {P : Nat → Nat} (hi : i ≤ 200) (h10 : n ≤ 10) (hQ : tw_mdC σ0 σ n t W i 0) (ht : ∀ c, c < n → ∀ j, j < i → t c j < 4) (hP : ∀ c, c < n → P c < 4) (hE : Q (some (.int (tw_bl (tw_mA n t P i)))) σ) : ∀ (f c : Nat), c + f = n → (∀ d, d < c → tw_pS (P d) (t d) i = P d) → tw_P L xs 2 111 2 [.ref 76, .int (nI c)] [] σ Q := by
  intro f
  induction f with
  | zero =>
    intro c hf hno
    have hf : n = c := Eq.symm hf
    subst hf
    rw [tw_blT (show tw_mA n t P i from hno)] at hE
    refine tw_sgn 3 (i1 := 5) (ls0 := [.ref 76, .int (nI n)]) (st0 := [.int (σ 76 2), .int (nI n)]) (σ0 := σ) (ls1 := [.ref 76, .int (nI n)]) (st1 := [.int (nI n), .int (nI n)]) (σ1 := σ) rfl (rfl) (by simp only [hQ.2.1, tw_nadd, tw_nmul]) (rfl) ?_
    refine tw_biT (c := .ge) rfl (by rw [tw_cge, tw_nle (by omega) (by omega)] <;> omega) ?_
    show tw_P L xs _ 111 17 [.ref 76, .int (nI n)] [] σ _
    refine tw_sg 1 (i1 := 18) (ls1 := [.ref 76, .int (nI n)]) (st1 := [.int (nI 1)]) (σ1 := σ) rfl ?_
    refine tw_ri rfl (rfl) ?_
    exact hE
  | succ f ih =>
    intro c hf hno
    have ek := tw_pS_k (p0 := P c) (t := t c) (hP c (by omega)) i hi (ht c (by omega))
    have hp := hP c (by omega)
    refine tw_sgn 3 (i1 := 5) (ls0 := [.ref 76, .int (nI c)]) (st0 := [.int (σ 76 2), .int (nI c)]) (σ0 := σ) (ls1 := [.ref 76, .int (nI c)]) (st1 := [.int (nI n), .int (nI c)]) (σ1 := σ) rfl (rfl) (by simp only [hQ.2.1, tw_nadd, tw_nmul]) (rfl) ?_
    refine tw_biF (c := .ge) rfl (by rw [tw_cge', tw_nle (by omega) (by omega)] <;> omega) ?_
    show tw_P L xs _ 111 6 [.ref 76, .int (nI c)] [] σ _
    refine tw_sg 4 (i1 := 10) (ls1 := [.ref 76, .int (nI c)]) (st1 := [.int (nI c), .ref 77, .int (nI 0)]) (σ1 := σ) rfl ?_
    refine tw_al (k := 77) (j := c) (len := 10) rfl rfl rfl rfl (rfl) (by omega) (by decide) ?_
    refine tw_cl1 rfl (rfl) (by decide) (tw_E_mono (tw_e_behind (x := nI 0) (y := σ 77 c)) (fun v σ1 h => (⟨by rw [h.1, (hQ.2.2 c (by omega)).1, if_neg (by omega), tw_fm_k _ (by have := tw_kS_b (t := t c) i; omega)], h.2⟩ : v = some (.int (nI (tw_kS (t c) i % 4))) ∧ σ = σ1))) ?_
    rintro _ _ ⟨rfl, rfl⟩
    show tw_P L xs _ 111 12 [.ref 76, .int (nI c)] [.int (nI (tw_kS (t c) i % 4))] σ _
    refine tw_bz (c := .eq) rfl (fun h1 => ?_) (fun h1 => ?_)
    · rw [tw_ceq] at h1
      refine tw_sgn 2 (i1 := 2) (ls0 := [.ref 76, .int (nI c + nI 1)]) (st0 := []) (σ0 := σ) (ls1 := [.ref 76, .int (nI (c + 1))]) (st1 := []) (σ1 := σ) rfl (by simp only [tw_nadd, tw_nmul]) (rfl) (rfl) ?_
      refine ih (c + 1) (by omega) (fun d hd => ?_)
      by_cases z : d = c
      · rw [z]; have e := h1; rw [tw_neq (by omega) (by omega)] at e; rw [ek]; omega
      · exact hno d (by omega)
    · rw [tw_ceq'] at h1
      refine tw_sg 1 (i1 := 14) (ls1 := [.ref 76, .int (nI c)]) (st1 := [.int (nI 0)]) (σ1 := σ) rfl ?_
      refine tw_ri rfl (rfl) ?_
      rw [tw_blF (show ¬ (tw_mA n t P i) from fun q => by have := q c (by omega); have e := h1; rw [tw_neq (by omega) (by omega)] at e; rw [ek] at this; omega)] at hE
      exact hE
set_option maxHeartbeats 4000000 in
set_option maxRecDepth 100000 in
theorem tw_e_asnow {σ0 : tw_Mem} {n i : Nat} {t : Nat → Nat → Nat} {W : Nat → Int32} {P : Nat → Nat} (hi : i ≤ 200) (h10 : n ≤ 10) (hQ : tw_mdC σ0 σ n t W i 0) (ht : ∀ c, c < n → ∀ j, j < i → t c j < 4) (hP : ∀ c, c < n → P c < 4) : tw_E L xs 2 111 [.ref 76] σ (fun v σ1 => v = some (.int (tw_bl (tw_mA n t P i))) ∧ σ = σ1) := by
  show tw_P L xs _ 111 0 [.ref 76, tw_U] [] σ _
  refine tw_sg 2 (i1 := 2) (ls1 := [.ref 76, .int (nI 0)]) (st1 := []) (σ1 := σ) rfl ?_
  exact tw_l_asnow hi h10 hQ ht hP ⟨rfl, rfl⟩ n 0 (by omega) (fun d hd => by omega)
set_option maxHeartbeats 4000000 in
set_option maxRecDepth 100000 in
theorem tw_l_nott {L : Nat} {xs : Nat → Int32} {Q : Option Value → tw_Mem → Prop} {σ : tw_Mem} {σ0 : tw_Mem} {n i : Nat} {t : Nat → Nat → Nat} {W : Nat → Int32} {P : Nat → Nat} (hi : i ≤ 200) (h10 : n ≤ 10) (hQ : tw_mdC σ0 σ n t W i 0) (hE : Q (some (.int (tw_bl (tw_mF n t W i)))) σ) : ∀ (f c : Nat), c + f = n → (∀ d, d < c → tw_wS (W d) (t d) i = nI 0) → tw_P L xs 0 112 2 [.ref 76, .int (nI c)] [] σ Q := by
  intro f
  induction f with
  | zero =>
    intro c hf hno
    have hf : n = c := Eq.symm hf
    subst hf
    rw [tw_blT (show tw_mF n t W i from hno)] at hE
    refine tw_sgn 3 (i1 := 5) (ls0 := [.ref 76, .int (nI n)]) (st0 := [.int (σ 76 2), .int (nI n)]) (σ0 := σ) (ls1 := [.ref 76, .int (nI n)]) (st1 := [.int (nI n), .int (nI n)]) (σ1 := σ) rfl (rfl) (by simp only [hQ.2.1, tw_nadd, tw_nmul]) (rfl) ?_
    refine tw_biT (c := .ge) rfl (by rw [tw_cge, tw_nle (by omega) (by omega)] <;> omega) ?_
    show tw_P L xs _ 112 15 [.ref 76, .int (nI n)] [] σ _
    refine tw_sg 1 (i1 := 16) (ls1 := [.ref 76, .int (nI n)]) (st1 := [.int (nI 1)]) (σ1 := σ) rfl ?_
    refine tw_ri rfl (rfl) ?_
    exact hE
  | succ f ih =>
    intro c hf hno
    have e78 : σ 78 c = tw_wS (W c) (t c) i := by rw [(hQ.2.2 c (by omega)).2, if_neg (by omega)]
    refine tw_sgn 3 (i1 := 5) (ls0 := [.ref 76, .int (nI c)]) (st0 := [.int (σ 76 2), .int (nI c)]) (σ0 := σ) (ls1 := [.ref 76, .int (nI c)]) (st1 := [.int (nI n), .int (nI c)]) (σ1 := σ) rfl (rfl) (by simp only [hQ.2.1, tw_nadd, tw_nmul]) (rfl) ?_
    refine tw_biF (c := .ge) rfl (by rw [tw_cge', tw_nle (by omega) (by omega)] <;> omega) ?_
    show tw_P L xs _ 112 6 [.ref 76, .int (nI c)] [] σ _
    refine tw_sg 3 (i1 := 9) (ls1 := [.ref 76, .int (nI c)]) (st1 := [.int (nI c), .ref 78]) (σ1 := σ) rfl ?_
    refine tw_al (k := 78) (j := c) (len := 10) rfl rfl rfl rfl (rfl) (by omega) (by decide) ?_
    refine tw_bz (c := .eq) rfl (fun h1 => ?_) (fun h1 => ?_)
    · rw [tw_ceq] at h1
      refine tw_sgn 2 (i1 := 2) (ls0 := [.ref 76, .int (nI c + nI 1)]) (st0 := []) (σ0 := σ) (ls1 := [.ref 76, .int (nI (c + 1))]) (st1 := []) (σ1 := σ) rfl (by simp only [tw_nadd, tw_nmul]) (rfl) (rfl) ?_
      refine ih (c + 1) (by omega) (fun d hd => ?_)
      by_cases z : d = c
      · rw [z]; rw [← e78]; exact h1
      · exact hno d (by omega)
    · rw [tw_ceq'] at h1
      refine tw_sg 1 (i1 := 12) (ls1 := [.ref 76, .int (nI c)]) (st1 := [.int (nI 0)]) (σ1 := σ) rfl ?_
      refine tw_ri rfl (rfl) ?_
      rw [tw_blF (show ¬ (tw_mF n t W i) from fun q => by have := q c (by omega); rw [← e78] at this; exact h1 this)] at hE
      exact hE
set_option maxHeartbeats 4000000 in
set_option maxRecDepth 100000 in
theorem tw_e_nott {σ0 : tw_Mem} {n i : Nat} {t : Nat → Nat → Nat} {W : Nat → Int32} (hi : i ≤ 200) (h10 : n ≤ 10) (hQ : tw_mdC σ0 σ n t W i 0) : tw_E L xs 0 112 [.ref 76] σ (fun v σ1 => v = some (.int (tw_bl (tw_mF n t W i))) ∧ σ = σ1) := by
  show tw_P L xs _ 112 0 [.ref 76, tw_U] [] σ _
  refine tw_sg 2 (i1 := 2) (ls1 := [.ref 76, .int (nI 0)]) (st1 := []) (σ1 := σ) rfl ?_
  exact tw_l_nott (P := id) hi h10 hQ ⟨rfl, rfl⟩ n 0 (by omega) (fun d hd => by omega)
end tw_s57
