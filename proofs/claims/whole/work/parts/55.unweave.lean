/-! unweave -/
section tw_s55
variable {L : Nat} {xs : Nat → Int32} {σ : tw_Mem} {x y w : Int32} {n r i c k h q a b e : Nat}
def tw_tq (w0 : Int32) (T : Nat → Nat) (r : Nat) : Nat → Int32
  | 0 => w0
  | m + 1 => tw_tq w0 T r m - tw_gI (T (r - 1 - m))
def tw_pq (p0 : Nat) (T : Nat → Nat) (r : Nat) : Nat → Nat
  | 0 => p0
  | m + 1 => (tw_pq p0 T r m + 4 - tw_mI (T (r - 1 - m))) % 4
theorem tw_pq_lt {p0 r : Nat} {T : Nat → Nat} (h : p0 < 4) : ∀ m, tw_pq p0 T r m < 4
  | 0 => h
  | m + 1 => Nat.mod_lt _ (by decide)
theorem tw_fm_un : ∀ p, p < 4 → ∀ t, t < 4 → tw_fm (nI p + -(tw_gI t)) = nI ((p + 4 - tw_mI t) % 4) := by decide +kernel
theorem tw_tq_sm {w : Nat → Int32} {T : Nat → Nat} {r : Nat} (hT : ∀ i, i < r → T i < 4 ∧ w i = nI (T i)) : ∀ m, m ≤ r → tw_tq (tw_sm w r) T r m = tw_sm w (r - m)
  | 0, _ => rfl
  | m + 1, h => by
    have e : r - m = (r - 1 - m) + 1 := by omega
    obtain ⟨h1, h2⟩ := hT (r - 1 - m) (by omega)
    rw [tw_tq, tw_tq_sm hT m (by omega), e, tw_sm, h2, tw_gW_gI _ h1, Int32.add_sub_cancel, show r - (m + 1) = r - 1 - m by omega]
/-- one row taken back, up to card c: the class, the reference -/
def tw_utC (σ0 σ : tw_Mem) (T P : Nat → Nat) (c : Nat) : Prop := (∀ k j, ¬ (18 ≤ k ∧ k < 2 * c + 18 ∧ k % 2 = 0 ∧ (j = 2 ∨ j = 3)) → σ k j = σ0 k j) ∧ ∀ d, d < c → σ (2 * d + 18) 3 = σ0 (2 * d + 18) 3 - tw_gI (T d) ∧ σ (2 * d + 18) 2 = nI ((P d + 4 - tw_mI (T d)) % 4)
def tw_utM (σ0 σ : tw_Mem) (T P : Nat → Nat) (c : Nat) : Prop := (∀ k j, ¬ (93 ≤ k ∧ k ≤ 94 ∧ j < c) → σ k j = σ0 k j) ∧ ∀ d, d < c → σ 94 d = σ0 94 d - tw_gI (T d) ∧ σ 93 d = nI ((P d + 4 - tw_mI (T d)) % 4)
theorem tw_utC.step {σ0 σ : tw_Mem} {T P : Nat → Nat} {c : Nat} (h : tw_utC σ0 σ T P c) : tw_utC σ0 (tw_upd (tw_upd σ (2 * c + 18) 3 (σ (2 * c + 18) 3 + -(tw_gI (T c)))) (2 * c + 18) 2 (nI ((P c + 4 - tw_mI (T c)) % 4))) T P (c + 1) := by
  refine ⟨fun k j g => ?_, fun d hd => ?_⟩
  · rw [tw_upd_off (by omega), tw_upd_off (by omega)]; exact h.1 k j (by omega)
  · by_cases z : d = c
    · subst z
      rw [tw_upd_off (by omega), tw_upd_at, tw_upd_at, h.1 _ _ (by omega), Int32.sub_eq_add_neg]
      exact ⟨rfl, rfl⟩
    · rw [tw_upd_off (by omega), tw_upd_off (by omega), tw_upd_off (by omega), tw_upd_off (by omega)]
      exact h.2 d (by omega)
theorem tw_utM.step {σ0 σ : tw_Mem} {T P : Nat → Nat} {c : Nat} (h : tw_utM σ0 σ T P c) : tw_utM σ0 (tw_upd (tw_upd σ 93 c (nI ((P c + 4 - tw_mI (T c)) % 4))) 94 c (σ 94 c - tw_gI (T c))) T P (c + 1) := by
  refine ⟨fun k j g => ?_, fun d hd => ?_⟩
  · rw [tw_upd_off (by omega), tw_upd_off (by omega)]; exact h.1 k j (by omega)
  · by_cases z : d = c
    · subst z
      rw [tw_upd_at, tw_upd_off (by omega), tw_upd_at, h.1 _ _ (by omega)]
      exact ⟨rfl, rfl⟩
    · rw [tw_upd_off (by omega), tw_upd_off (by omega), tw_upd_off (by omega), tw_upd_off (by omega)]
      exact h.2 d (by omega)
/-- m rows taken back -/
def tw_uwC (σ0 σ : tw_Mem) (n r : Nat) (T : Nat → Nat → Nat) (P : Nat → Nat) (m : Nat) : Prop := (∀ k j, ¬ (18 ≤ k ∧ k < 2 * n + 18 ∧ k % 2 = 0 ∧ (j = 2 ∨ j = 3)) → ¬ (k = 9 ∧ j = 3) → σ k j = σ0 k j) ∧ σ 9 3 = nI (r - m) ∧ ∀ c, c < n → σ (2 * c + 18) 3 = tw_tq (σ0 (2 * c + 18) 3) (fun i => T i c) r m ∧ σ (2 * c + 18) 2 = nI (tw_pq (P c) (fun i => T i c) r m)
def tw_uwM (σ0 σ : tw_Mem) (n r : Nat) (T : Nat → Nat → Nat) (P : Nat → Nat) (m : Nat) : Prop := (∀ k j, ¬ (93 ≤ k ∧ k ≤ 94 ∧ j < n) → ¬ (k = 90 ∧ j = 0) → σ k j = σ0 k j) ∧ σ 90 0 = nI (r - m) ∧ ∀ c, c < n → σ 94 c = tw_tq (σ0 94 c) (fun i => T i c) r m ∧ σ 93 c = nI (tw_pq (P c) (fun i => T i c) r m)
theorem tw_uwC.step {σ0 σ τ0 : tw_Mem} {n r m : Nat} {T : Nat → Nat → Nat} {P : Nat → Nat} (h : tw_uwC σ0 σ n r T P m) (w : tw_utC σ τ0 (T (r - 1 - m)) (fun c => tw_pq (P c) (fun i => T i c) r m) n) : tw_uwC σ0 (tw_upd τ0 9 3 (nI (r - 1 - m))) n r T P (m + 1) := by
  refine ⟨fun k j g1 g2 => ?_, ?_, fun c hc => ?_⟩
  · rw [tw_upd_off g2, w.1 k j g1]; exact h.1 k j g1 g2
  · rw [tw_upd_at, show r - (m + 1) = r - 1 - m by omega]
  · obtain ⟨w1, w2⟩ := w.2 c hc
    obtain ⟨h1, h2⟩ := h.2.2 c hc
    rw [tw_upd_off (by omega), tw_upd_off (by omega), w1, w2, h1, tw_tq, tw_pq]
    exact ⟨rfl, rfl⟩
theorem tw_uwM.step {σ0 σ σ1 τ0 : tw_Mem} {n r m : Nat} {T : Nat → Nat → Nat} {P : Nat → Nat} (h : tw_uwM σ0 σ n r T P m) (e : tw_upd σ 90 0 (nI (r - 1 - m)) = σ1) (w : tw_utM σ1 τ0 (T (r - 1 - m)) (fun c => tw_pq (P c) (fun i => T i c) r m) n) : tw_uwM σ0 τ0 n r T P (m + 1) := by
  subst e
  refine ⟨fun k j g1 g2 => ?_, ?_, fun c hc => ?_⟩
  · rw [w.1 k j g1, tw_upd_off g2]; exact h.1 k j g1 g2
  · rw [w.1 90 0 (by omega), tw_upd_at, show r - (m + 1) = r - 1 - m by omega]
  · obtain ⟨w1, w2⟩ := w.2 c hc
    obtain ⟨h1, h2⟩ := h.2.2 c hc
    rw [w1, w2, tw_upd_off (by omega), h1, tw_tq, tw_pq]
    exact ⟨rfl, rfl⟩
set_option maxHeartbeats 4000000 in
set_option maxRecDepth 100000 in
theorem tw_l_last {L : Nat} {xs : Nat → Int32} {Q : Option Value → tw_Mem → Prop} {σ0 : tw_Mem} {n k : Nat} {T P : Nat → Nat} (h6 : σ0 6 4 = nI n) (h9 : σ0 9 3 = nI (k + 1)) (hw : σ0 9 4 = nI n) (hr : k + 1 ≤ 50) (h10 : n ≤ 10) (hT : ∀ c, c < n → T c < 4 ∧ σ0 10 ((k * 10 + c) * 4 + 3) = nI (T c)) (hP : ∀ c, c < n → P c < 4 ∧ σ0 (2 * c + 18) 2 = nI (P c)) : ∀ (f : Nat) (c : Nat) (σ : tw_Mem) (u : Value), c + f = n → (tw_utC σ0 σ T P c ∧ ∀ (τ : tw_Mem) (u : Value), tw_utC σ0 τ T P n → tw_P L xs 3 97 30 [.ref 6, .int (nI k), .int (nI n), u] [] τ Q) → tw_P L xs 3 97 8 [.ref 6, .int (nI k), .int (nI c), u] [] σ Q := by
  intro f
  induction f with
  | zero =>
    intro c σ u hf hQ
    have hI := hQ.1
    refine tw_sgn 3 (i1 := 11) (ls0 := [.ref 6, .int (nI k), .int (nI c), u]) (st0 := [.int (σ 6 4), .int (nI c)]) (σ0 := σ) (ls1 := [.ref 6, .int (nI k), .int (nI c), u]) (st1 := [.int (nI n), .int (nI c)]) (σ1 := σ) rfl (rfl) (by simp only [((hI.1 6 4 (by omega)).trans h6), tw_nadd, tw_nmul]) (rfl) ?_
    refine tw_biT (c := .ge) rfl (by rw [tw_cge, tw_nle (by omega) (by omega)] <;> omega) ?_
    show tw_P L xs _ 97 30 [.ref 6, .int (nI k), .int (nI c), u] [] σ _
    have hf : n = c := Eq.symm hf
    subst hf
    exact hQ.2 σ _ hQ.1
  | succ f ih =>
    intro c σ u hf hQ
    have hI := hQ.1
    refine tw_sgn 3 (i1 := 11) (ls0 := [.ref 6, .int (nI k), .int (nI c), u]) (st0 := [.int (σ 6 4), .int (nI c)]) (σ0 := σ) (ls1 := [.ref 6, .int (nI k), .int (nI c), u]) (st1 := [.int (nI n), .int (nI c)]) (σ1 := σ) rfl (rfl) (by simp only [((hI.1 6 4 (by omega)).trans h6), tw_nadd, tw_nmul]) (rfl) ?_
    refine tw_biF (c := .ge) rfl (by rw [tw_cge', tw_nle (by omega) (by omega)] <;> omega) ?_
    show tw_P L xs _ 97 12 [.ref 6, .int (nI k), .int (nI c), u] [] σ _
    refine tw_sg 2 (i1 := 14) (ls1 := [.ref 6, .int (nI k), .int (nI c), u]) (st1 := [.int (nI c), .ref 6]) (σ1 := σ) rfl ?_
    refine tw_cl1 rfl (rfl) (by decide) (tw_e_cardAt1 ((hI.1 6 4 (by omega)).trans h6) h10 (by omega)) ?_
    rintro _ _ ⟨rfl, rfl⟩
    show tw_P L xs _ 97 15 [.ref 6, .int (nI k), .int (nI c), u] [.ref (2 * c + 18)] σ _
    refine tw_sg 9 (i1 := 24) (ls1 := [.ref 6, .int (nI k), .int (nI c), .ref (2 * c + 18)]) (st1 := [.int (nI 3), .int (nI c), .int (nI k), .ref 9, .ref (2 * c + 18)]) (σ1 := σ) rfl ?_
    refine tw_cl1 rfl (rfl) (by decide) (tw_E_mono (tw_e_cell1 (r := k + 1) (n := n) ((hI.1 9 3 (by omega)).trans h9) ((hI.1 9 4 (by omega)).trans hw) hr h10 (i := k) (c := c) (q := 3) (by omega) (by omega) (by decide)) (fun v σ1 h => (⟨by rw [h.1, hI.1 10 _ (by omega), (hT c (by omega)).2], h.2⟩ : v = some (.int (nI (T c))) ∧ σ = σ1))) ?_
    rintro _ _ ⟨rfl, rfl⟩
    show tw_P L xs _ 97 25 [.ref 6, .int (nI k), .int (nI c), .ref (2 * c + 18)] [.int (nI (T c)), .ref (2 * c + 18)] σ _
    refine tw_cl1 rfl (rfl) (by decide) (tw_e_twistOf (hT c (by omega)).1) ?_
    rintro _ _ ⟨rfl, rfl⟩
    show tw_P L xs _ 97 26 [.ref 6, .int (nI k), .int (nI c), .ref (2 * c + 18)] [.int (tw_gI (T c)), .ref (2 * c + 18)] σ _
    refine tw_sg 1 (i1 := 27) (ls1 := [.ref 6, .int (nI k), .int (nI c), .ref (2 * c + 18)]) (st1 := [.int (-(tw_gI (T c))), .ref (2 * c + 18)]) (σ1 := σ) rfl ?_
    refine tw_cl1 rfl (tw_inv_ok (y := 10) (b := 1) (st := [.int (-(tw_gI (T c))), .ref (2 * c + 18)]) (k := (2 * c + 18)) (r := []) rfl rfl (tw_cdO (by omega))) (by decide) (tw_e_twistBy (p := P c) (e := (P c + 4 - tw_mI (T c)) % 4) (by omega) ((hI.1 _ _ (by omega)).trans (hP c (by omega)).2) (tw_fm_un _ (hP c (by omega)).1 _ (hT c (by omega)).1)) ?_
    rintro _ _ ⟨rfl, rfl⟩
    show tw_P L xs _ 97 28 [.ref 6, .int (nI k), .int (nI c), .ref (2 * c + 18)] [] (tw_upd (tw_upd σ (2 * c + 18) 3 (σ (2 * c + 18) 3 + -(tw_gI (T c)))) (2 * c + 18) 2 (nI ((P c + 4 - tw_mI (T c)) % 4))) _
    refine tw_sgn 2 (i1 := 8) (ls0 := [.ref 6, .int (nI k), .int (nI c + nI 1), .ref (2 * c + 18)]) (st0 := []) (σ0 := (tw_upd (tw_upd σ (2 * c + 18) 3 (σ (2 * c + 18) 3 + -(tw_gI (T c)))) (2 * c + 18) 2 (nI ((P c + 4 - tw_mI (T c)) % 4)))) (ls1 := [.ref 6, .int (nI k), .int (nI (c + 1)), .ref (2 * c + 18)]) (st1 := []) (σ1 := (tw_upd (tw_upd σ (2 * c + 18) 3 (σ (2 * c + 18) 3 + -(tw_gI (T c)))) (2 * c + 18) 2 (nI ((P c + 4 - tw_mI (T c)) % 4)))) rfl (by simp only [tw_nadd, tw_nmul]) (rfl) (rfl) ?_
    exact ih (c + 1) _ _ (by omega) ⟨hI.step, hQ.2⟩
set_option maxHeartbeats 4000000 in
set_option maxRecDepth 100000 in
theorem tw_e_last {n k : Nat} {T P : Nat → Nat} (h6 : σ 6 4 = nI n) (h9 : σ 9 3 = nI (k + 1)) (hw : σ 9 4 = nI n) (hr : k + 1 ≤ 50) (h10 : n ≤ 10) (hT : ∀ c, c < n → T c < 4 ∧ σ 10 ((k * 10 + c) * 4 + 3) = nI (T c)) (hP : ∀ c, c < n → P c < 4 ∧ σ (2 * c + 18) 2 = nI (P c)) : tw_E L xs 3 97 [.ref 6] σ (fun v τ => v = none ∧ ∃ τ0, tw_utC σ τ0 T P n ∧ τ = tw_upd τ0 9 3 (nI k)) := by
  show tw_P L xs _ 97 0 [.ref 6, tw_U, tw_U, tw_U] [] σ _
  refine tw_sg 2 (i1 := 2) (ls1 := [.ref 6, tw_U, tw_U, tw_U]) (st1 := [.ref 9]) (σ1 := σ) rfl ?_
  refine tw_cl0 2 rfl (rfl) (by decide) ?_
  show tw_P L xs _ 17 0 [.ref 9] [] σ _
  refine tw_sgn 2 (i1 := 2) (ls0 := [.ref 9]) (st0 := [.int (σ 9 3)]) (σ0 := σ) (ls1 := [.ref 9]) (st1 := [.int (nI (k + 1))]) (σ1 := σ) rfl (rfl) (by simp only [h9, tw_nadd, tw_nmul]) (rfl) ?_
  refine tw_ri rfl (rfl) ?_
  show tw_P L xs _ 97 3 [.ref 6, tw_U, tw_U, tw_U] [.int (nI (k + 1))] σ _
  refine tw_sgn 5 (i1 := 8) (ls0 := [.ref 6, .int (nI (k + 1) - nI 1), .int (nI 0), tw_U]) (st0 := []) (σ0 := σ) (ls1 := [.ref 6, .int (nI k), .int (nI 0), tw_U]) (st1 := []) (σ1 := σ) rfl (by simp only [tw_nsub (show 1 ≤ k + 1 by omega), Nat.add_sub_cancel, tw_nadd, tw_nmul]) (rfl) (rfl) ?_
  refine tw_P_le (d := 3) (tw_l_last h6 h9 hw hr h10 hT hP n 0 σ _ (by omega) ⟨⟨fun _ _ _ => rfl, fun d hd => by omega⟩, fun τ0 u h => ?_⟩) (by decide)
  refine tw_P_le (d := 3) ?_ (Nat.le_refl _)
  show tw_P L xs _ 97 30 [.ref 6, .int (nI k), .int (nI n), u] [] τ0 _
  refine tw_sg 2 (i1 := 32) (ls1 := [.ref 6, .int (nI k), .int (nI n), u]) (st1 := [.ref 9]) (σ1 := τ0) rfl ?_
  refine tw_cl0 2 rfl (rfl) (by decide) ?_
  show tw_P L xs _ 24 0 [.ref 9] [] τ0 _
  refine tw_sgn 2 (i1 := 2) (ls0 := [.ref 9]) (st0 := [.int (τ0 9 3)]) (σ0 := τ0) (ls1 := [.ref 9]) (st1 := [.int (nI (k + 1))]) (σ1 := τ0) rfl (rfl) (by simp only [((h.1 9 3 (by omega)).trans h9), tw_nadd, tw_nmul]) (rfl) ?_
  refine tw_bzF (c := .le) rfl (by rw [tw_cle', tw_nle (by omega) (by omega)] <;> omega) ?_
  show tw_P L xs _ 24 3 [.ref 9] [] τ0 _
  refine tw_sgn 6 (i1 := 9) (ls0 := [.ref 9]) (st0 := []) (σ0 := (tw_upd τ0 9 3 ((τ0 9 3) - nI 1))) (ls1 := [.ref 9]) (st1 := []) (σ1 := (tw_upd τ0 9 3 (nI k))) rfl (rfl) (rfl) (by simp only [((h.1 9 3 (by omega)).trans h9), tw_nsub (show 1 ≤ k + 1 by omega), Nat.add_sub_cancel, tw_nadd, tw_nmul]) ?_
  refine tw_rv rfl ?_
  show tw_P L xs _ 97 33 [.ref 6, .int (nI k), .int (nI n), u] [] (tw_upd τ0 9 3 (nI k)) _
  refine tw_rv rfl ?_
  exact ⟨rfl, τ0, h, rfl⟩
set_option maxHeartbeats 4000000 in
set_option maxRecDepth 100000 in
theorem tw_l_take {L : Nat} {xs : Nat → Int32} {Q : Option Value → tw_Mem → Prop} {σ0 : tw_Mem} {n r m x : Nat} {T : Nat → Nat → Nat} {P : Nat → Nat} (h6 : σ0 6 4 = nI n) (h9 : σ0 9 3 = nI r) (hw : σ0 9 4 = nI n) (hr : r ≤ 50) (h10 : n ≤ 10) (hT : ∀ i, i < r → ∀ c, c < n → T i c < 4 ∧ σ0 10 ((i * 10 + c) * 4 + 3) = nI (T i c)) (hP : ∀ c, c < n → P c < 4 ∧ σ0 (2 * c + 18) 2 = nI (P c)) (hx : x ≤ 50) (m1 : m ≤ x) (m2 : m ≤ r) (m3 : m = x ∨ m = r) : ∀ (f i : Nat) (σ : tw_Mem), i + f = m → tw_uwC σ0 σ n r T P i → (∀ τ : tw_Mem, tw_uwC σ0 τ n r T P m → Q (some (.int (nI m))) τ) → tw_P L xs 4 96 2 [.ref 6, .int (nI x), .int (nI i)] [] σ Q := by
  intro f
  induction f with
  | zero =>
    intro i σ hf hI hQ
    have hf : i = m := hf
    rw [hf] at hI ⊢
    have hE := hQ σ hI
    rcases (show m = x ∨ (m < x ∧ m = r) by omega) with hz | hz
    · skip
      refine tw_sg 2 (i1 := 4) (ls1 := [.ref 6, .int (nI x), .int (nI m)]) (st1 := [.int (nI x), .int (nI m)]) (σ1 := σ) rfl ?_
      refine tw_biT (c := .ge) rfl (by rw [tw_cge, tw_nle (by omega) (by omega)] <;> omega) ?_
      show tw_P L xs _ 96 13 [.ref 6, .int (nI x), .int (nI m)] [] σ _
      refine tw_sg 1 (i1 := 14) (ls1 := [.ref 6, .int (nI x), .int (nI m)]) (st1 := [.int (nI m)]) (σ1 := σ) rfl ?_
      refine tw_ri rfl (rfl) ?_
      exact hE
    · skip
      refine tw_sg 2 (i1 := 4) (ls1 := [.ref 6, .int (nI x), .int (nI m)]) (st1 := [.int (nI x), .int (nI m)]) (σ1 := σ) rfl ?_
      refine tw_biF (c := .ge) rfl (by rw [tw_cge', tw_nle (by omega) (by omega)] <;> omega) ?_
      show tw_P L xs _ 96 5 [.ref 6, .int (nI x), .int (nI m)] [] σ _
      refine tw_sg 2 (i1 := 7) (ls1 := [.ref 6, .int (nI x), .int (nI m)]) (st1 := [.ref 9]) (σ1 := σ) rfl ?_
      refine tw_cl0 3 rfl (rfl) (by decide) ?_
      show tw_P L xs _ 17 0 [.ref 9] [] σ _
      refine tw_sgn 2 (i1 := 2) (ls0 := [.ref 9]) (st0 := [.int (σ 9 3)]) (σ0 := σ) (ls1 := [.ref 9]) (st1 := [.int (nI (r - m))]) (σ1 := σ) rfl (rfl) (by simp only [hI.2.1, tw_nadd, tw_nmul]) (rfl) ?_
      refine tw_ri rfl (rfl) ?_
      show tw_P L xs _ 96 8 [.ref 6, .int (nI x), .int (nI m)] [.int (nI (r - m))] σ _
      refine tw_bzT (c := .le) rfl (by rw [tw_cle, tw_nle (by omega) (by omega)] <;> omega) ?_
      show tw_P L xs _ 96 13 [.ref 6, .int (nI x), .int (nI m)] [] σ _
      refine tw_sg 1 (i1 := 14) (ls1 := [.ref 6, .int (nI x), .int (nI m)]) (st1 := [.int (nI m)]) (σ1 := σ) rfl ?_
      refine tw_ri rfl (rfl) ?_
      exact hE
  | succ f ih =>
    intro i σ hf hI hQ
    refine tw_sg 2 (i1 := 4) (ls1 := [.ref 6, .int (nI x), .int (nI i)]) (st1 := [.int (nI x), .int (nI i)]) (σ1 := σ) rfl ?_
    refine tw_biF (c := .ge) rfl (by rw [tw_cge', tw_nle (by omega) (by omega)] <;> omega) ?_
    show tw_P L xs _ 96 5 [.ref 6, .int (nI x), .int (nI i)] [] σ _
    refine tw_sg 2 (i1 := 7) (ls1 := [.ref 6, .int (nI x), .int (nI i)]) (st1 := [.ref 9]) (σ1 := σ) rfl ?_
    refine tw_cl0 3 rfl (rfl) (by decide) ?_
    show tw_P L xs _ 17 0 [.ref 9] [] σ _
    refine tw_sgn 2 (i1 := 2) (ls0 := [.ref 9]) (st0 := [.int (σ 9 3)]) (σ0 := σ) (ls1 := [.ref 9]) (st1 := [.int (nI (r - i))]) (σ1 := σ) rfl (rfl) (by simp only [hI.2.1, tw_nadd, tw_nmul]) (rfl) ?_
    refine tw_ri rfl (rfl) ?_
    show tw_P L xs _ 96 8 [.ref 6, .int (nI x), .int (nI i)] [.int (nI (r - i))] σ _
    refine tw_bzF (c := .le) rfl (by rw [tw_cle', tw_nle (by omega) (by omega)] <;> omega) ?_
    show tw_P L xs _ 96 9 [.ref 6, .int (nI x), .int (nI i)] [] σ _
    refine tw_sg 1 (i1 := 10) (ls1 := [.ref 6, .int (nI x), .int (nI i)]) (st1 := [.ref 6]) (σ1 := σ) rfl ?_
    refine tw_cl1 rfl (rfl) (by decide) (tw_e_last (k := r - 1 - i) (n := n) (T := T (r - 1 - i)) (P := fun c => tw_pq (P c) (fun i => T i c) r i) ((hI.1 6 4 (by omega) (by omega)).trans h6) (by rw [hI.2.1]; exact congrArg nI (by omega)) ((hI.1 9 4 (by omega) (by omega)).trans hw) (by omega) h10 (fun c hc => ⟨(hT (r - 1 - i) (by omega) c hc).1, (hI.1 10 _ (by omega) (by omega)).trans (hT (r - 1 - i) (by omega) c hc).2⟩) (fun c hc => ⟨tw_pq_lt (hP c hc).1 _, (hI.2.2 c hc).2⟩)) ?_
    rintro _ τ1 ⟨rfl, τ0, hu, rfl⟩
    show tw_P L xs _ 96 11 [.ref 6, .int (nI x), .int (nI i)] [] (tw_upd τ0 9 3 (nI (r - 1 - i))) _
    refine tw_sgn 2 (i1 := 2) (ls0 := [.ref 6, .int (nI x), .int (nI i + nI 1)]) (st0 := []) (σ0 := (tw_upd τ0 9 3 (nI (r - 1 - i)))) (ls1 := [.ref 6, .int (nI x), .int (nI (i + 1))]) (st1 := []) (σ1 := (tw_upd τ0 9 3 (nI (r - 1 - i)))) rfl (by simp only [tw_nadd, tw_nmul]) (rfl) (rfl) ?_
    exact ih (i + 1) _ (by omega) (hI.step hu) hQ
set_option maxHeartbeats 4000000 in
set_option maxRecDepth 100000 in
theorem tw_e_take {n r m x : Nat} {T : Nat → Nat → Nat} {P : Nat → Nat} (h6 : σ 6 4 = nI n) (h9 : σ 9 3 = nI r) (hw : σ 9 4 = nI n) (hr : r ≤ 50) (h10 : n ≤ 10) (hT : ∀ i, i < r → ∀ c, c < n → T i c < 4 ∧ σ 10 ((i * 10 + c) * 4 + 3) = nI (T i c)) (hP : ∀ c, c < n → P c < 4 ∧ σ (2 * c + 18) 2 = nI (P c)) (hx : x ≤ 50) (m1 : m ≤ x) (m2 : m ≤ r) (m3 : m = x ∨ m = r) : tw_E L xs 4 96 [.ref 6, .int (nI x)] σ (fun v τ => v = some (.int (nI m)) ∧ tw_uwC σ τ n r T P m) := by
  show tw_P L xs _ 96 0 [.ref 6, .int (nI x), tw_U] [] σ _
  refine tw_sg 2 (i1 := 2) (ls1 := [.ref 6, .int (nI x), .int (nI 0)]) (st1 := []) (σ1 := σ) rfl ?_
  exact tw_l_take h6 h9 hw hr h10 hT hP hx m1 m2 m3 m 0 σ (by omega) ⟨fun _ _ _ _ => rfl, h9, fun c hc => ⟨rfl, (hP c hc).2⟩⟩ (fun τ h => ⟨rfl, h⟩)
set_option maxHeartbeats 4000000 in
set_option maxRecDepth 100000 in
theorem tw_l_mrow {L : Nat} {xs : Nat → Int32} {Q : Option Value → tw_Mem → Prop} {σ0 : tw_Mem} {n k x i : Nat} {T P : Nat → Nat} (h89 : σ0 89 0 = nI n) (h90 : σ0 90 0 = nI k) (hr : k < 50) (h10 : n ≤ 10) (hT : ∀ c, c < n → T c < 4 ∧ σ0 98 (10 * k + c) = nI (T c)) (hP : ∀ c, c < n → P c < 4 ∧ σ0 93 c = nI (P c)) : ∀ (f : Nat) (c : Nat) (σ : tw_Mem) (u : Value), c + f = n → (tw_utM σ0 σ T P c ∧ ∀ (τ : tw_Mem) (u : Value), tw_utM σ0 τ T P n → tw_P L xs 1 213 71 [.ref 88, .int (nI x), .int (nI i), .int (nI n), u] [] τ Q) → tw_P L xs 1 213 27 [.ref 88, .int (nI x), .int (nI i), .int (nI c), u] [] σ Q := by
  intro f
  induction f with
  | zero =>
    intro c σ u hf hQ
    have hI := hQ.1
    refine tw_sg 4 (i1 := 31) (ls1 := [.ref 88, .int (nI x), .int (nI i), .int (nI c), u]) (st1 := [.int (nI 0), .ref 89, .int (nI c)]) (σ1 := σ) rfl ?_
    refine tw_al (k := 89) (j := 0) (len := 2) rfl rfl rfl rfl (rfl) (by omega) (by decide) ?_
    rw [((hI.1 89 0 (by omega)).trans h89)]
    refine tw_biT (c := .ge) rfl (by rw [tw_cge, tw_nle (by omega) (by omega)] <;> omega) ?_
    show tw_P L xs _ 213 71 [.ref 88, .int (nI x), .int (nI i), .int (nI c), u] [] σ _
    have hf : n = c := Eq.symm hf
    subst hf
    exact hQ.2 σ _ hQ.1
  | succ f ih =>
    intro c σ u hf hQ
    have hI := hQ.1
    have hm3 := tw_mI_le (t := T c)
    refine tw_sg 4 (i1 := 31) (ls1 := [.ref 88, .int (nI x), .int (nI i), .int (nI c), u]) (st1 := [.int (nI 0), .ref 89, .int (nI c)]) (σ1 := σ) rfl ?_
    refine tw_al (k := 89) (j := 0) (len := 2) rfl rfl rfl rfl (rfl) (by omega) (by decide) ?_
    rw [((hI.1 89 0 (by omega)).trans h89)]
    refine tw_biF (c := .ge) rfl (by rw [tw_cge', tw_nle (by omega) (by omega)] <;> omega) ?_
    show tw_P L xs _ 213 33 [.ref 88, .int (nI x), .int (nI i), .int (nI c), u] [] σ _
    refine tw_sg 6 (i1 := 39) (ls1 := [.ref 88, .int (nI x), .int (nI i), .int (nI c), u]) (st1 := [.int (nI 0), .ref 90, .int (nI 10), .ref 98]) (σ1 := σ) rfl ?_
    refine tw_al (k := 90) (j := 0) (len := 2) rfl rfl rfl rfl (rfl) (by omega) (by decide) ?_
    rw [((hI.1 90 0 (by omega)).trans h90)]
    refine tw_sgn 3 (i1 := 43) (ls0 := [.ref 88, .int (nI x), .int (nI i), .int (nI c), u]) (st0 := [.int ((nI 10 * nI k) + nI c), .ref 98]) (σ0 := σ) (ls1 := [.ref 88, .int (nI x), .int (nI i), .int (nI c), u]) (st1 := [.int (nI ((10 * k) + c)), .ref 98]) (σ1 := σ) rfl (rfl) (by simp only [tw_nadd, tw_nmul]) (rfl) ?_
    refine tw_al (k := 98) (j := ((10 * k) + c)) (len := 1000) rfl rfl rfl rfl (rfl) (by omega) (by decide) ?_
    rw [((hI.1 98 _ (by omega)).trans (hT c (by omega)).2)]
    refine tw_sg 7 (i1 := 51) (ls1 := [.ref 88, .int (nI x), .int (nI i), .int (nI c), .int (nI (T c))]) (st1 := [.int (nI c), .ref 93, .int (nI c), .ref 93]) (σ1 := σ) rfl ?_
    refine tw_al (k := 93) (j := c) (len := 20) rfl rfl rfl rfl (rfl) (by omega) (by decide) ?_
    rw [((hI.1 93 c (by omega)).trans (hP c (by omega)).2)]
    refine tw_sgn 3 (i1 := 55) (ls0 := [.ref 88, .int (nI x), .int (nI i), .int (nI c), .int (nI (T c))]) (st0 := [.int (nI (T c)), .int (nI (P c) + nI 4), .int (nI c), .ref 93]) (σ0 := σ) (ls1 := [.ref 88, .int (nI x), .int (nI i), .int (nI c), .int (nI (T c))]) (st1 := [.int (nI (T c)), .int (nI ((P c) + 4)), .int (nI c), .ref 93]) (σ1 := σ) rfl (rfl) (by simp only [tw_nadd, tw_nmul]) (rfl) ?_
    refine tw_cl1 rfl (rfl) (by decide) (tw_e_moved (hT c (by omega)).1) ?_
    rintro _ _ ⟨rfl, rfl⟩
    show tw_P L xs _ 213 56 [.ref 88, .int (nI x), .int (nI i), .int (nI c), .int (nI (T c))] [.int (nI (tw_mI (T c))), .int (nI ((P c) + 4)), .int (nI c), .ref 93] σ _
    refine tw_sgn 2 (i1 := 58) (ls0 := [.ref 88, .int (nI x), .int (nI i), .int (nI c), .int (nI (T c))]) (st0 := [.int (nI 4), .int (nI ((P c) + 4) - nI (tw_mI (T c))), .int (nI c), .ref 93]) (σ0 := σ) (ls1 := [.ref 88, .int (nI x), .int (nI i), .int (nI c), .int (nI (T c))]) (st1 := [.int (nI 4), .int (nI (P c + 4 - tw_mI (T c))), .int (nI c), .ref 93]) (σ1 := σ) rfl (rfl) (by simp only [tw_nsub (show tw_mI (T c) ≤ P c + 4 by omega), tw_nadd, tw_nmul]) (rfl) ?_
    refine tw_rm rfl (by decide) ?_
    rw [tw_nrem (by have := (hP c (by omega)).1; omega) (by decide)]
    refine tw_as (k := 93) (j := c) (len := 20) rfl rfl rfl (rfl) (by omega) (by decide) ?_
    refine tw_sg 4 (i1 := 64) (ls1 := [.ref 88, .int (nI x), .int (nI i), .int (nI c), .int (nI (T c))]) (st1 := [.int (nI c), .ref 94, .int (nI c), .ref 94]) (σ1 := (tw_upd σ 93 c (nI ((P c + 4 - tw_mI (T c)) % 4)))) rfl ?_
    refine tw_al (k := 94) (j := c) (len := 20) rfl rfl rfl rfl (rfl) (by omega) (by decide) ?_
    rw [show (tw_upd σ 93 c (nI ((P c + 4 - tw_mI (T c)) % 4))) 94 c = σ 94 c from by repeat (first | exact rfl | exact tw_upd_at | rw [tw_upd_off (by omega)])]
    refine tw_sg 1 (i1 := 66) (ls1 := [.ref 88, .int (nI x), .int (nI i), .int (nI c), .int (nI (T c))]) (st1 := [.int (nI (T c)), .int (σ 94 c), .int (nI c), .ref 94]) (σ1 := (tw_upd σ 93 c (nI ((P c + 4 - tw_mI (T c)) % 4)))) rfl ?_
    refine tw_cl1 rfl (rfl) (by decide) (tw_e_grown (hT c (by omega)).1) ?_
    rintro _ _ ⟨rfl, rfl⟩
    show tw_P L xs _ 213 67 [.ref 88, .int (nI x), .int (nI i), .int (nI c), .int (nI (T c))] [.int (tw_gI (T c)), .int (σ 94 c), .int (nI c), .ref 94] (tw_upd σ 93 c (nI ((P c + 4 - tw_mI (T c)) % 4))) _
    refine tw_sg 1 (i1 := 68) (ls1 := [.ref 88, .int (nI x), .int (nI i), .int (nI c), .int (nI (T c))]) (st1 := [.int ((σ 94 c) - (tw_gI (T c))), .int (nI c), .ref 94]) (σ1 := (tw_upd σ 93 c (nI ((P c + 4 - tw_mI (T c)) % 4)))) rfl ?_
    refine tw_as (k := 94) (j := c) (len := 20) rfl rfl rfl (rfl) (by omega) (by decide) ?_
    refine tw_sgn 2 (i1 := 27) (ls0 := [.ref 88, .int (nI x), .int (nI i), .int (nI c + nI 1), .int (nI (T c))]) (st0 := []) (σ0 := (tw_upd (tw_upd σ 93 c (nI ((P c + 4 - tw_mI (T c)) % 4))) 94 c ((σ 94 c) - (tw_gI (T c))))) (ls1 := [.ref 88, .int (nI x), .int (nI i), .int (nI (c + 1)), .int (nI (T c))]) (st1 := []) (σ1 := (tw_upd (tw_upd σ 93 c (nI ((P c + 4 - tw_mI (T c)) % 4))) 94 c ((σ 94 c) - (tw_gI (T c))))) rfl (by simp only [tw_nadd, tw_nmul]) (rfl) (rfl) ?_
    exact ih (c + 1) _ _ (by omega) ⟨hI.step, hQ.2⟩
set_option maxHeartbeats 4000000 in
set_option maxRecDepth 100000 in
theorem tw_l_munw {L : Nat} {xs : Nat → Int32} {Q : Option Value → tw_Mem → Prop} {σ0 : tw_Mem} {n r m x : Nat} {T : Nat → Nat → Nat} {P : Nat → Nat} (h89 : σ0 89 0 = nI n) (h90 : σ0 90 0 = nI r) (hr : r ≤ 50) (h10 : n ≤ 10) (hT : ∀ i, i < r → ∀ c, c < n → T i c < 4 ∧ σ0 98 (10 * i + c) = nI (T i c)) (hP : ∀ c, c < n → P c < 4 ∧ σ0 93 c = nI (P c)) (hx : x ≤ 50) (m1 : m ≤ x) (m2 : m ≤ r) (m3 : m = x ∨ m = r) : ∀ (f i : Nat) (σ : tw_Mem) (u1 u2 : Value), i + f = m → tw_uwM σ0 σ n r T P i → (∀ τ : tw_Mem, tw_uwM σ0 τ n r T P m → Q (some (.int (nI m))) τ) → tw_P L xs 1 213 9 [.ref 88, .int (nI x), .int (nI i), u1, u2] [] σ Q := by
  intro f
  induction f with
  | zero =>
    intro i σ u1 u2 hf hI hQ
    have hf : i = m := hf
    rw [hf] at hI ⊢
    have hE := hQ σ hI
    rcases (show m = x ∨ (m < x ∧ m = r) by omega) with hz | hz
    · skip
      refine tw_sg 2 (i1 := 11) (ls1 := [.ref 88, .int (nI x), .int (nI m), u1, u2]) (st1 := [.int (nI x), .int (nI m)]) (σ1 := σ) rfl ?_
      refine tw_biT (c := .ge) rfl (by rw [tw_cge, tw_nle (by omega) (by omega)] <;> omega) ?_
      show tw_P L xs _ 213 73 [.ref 88, .int (nI x), .int (nI m), u1, u2] [] σ _
      refine tw_sg 1 (i1 := 74) (ls1 := [.ref 88, .int (nI x), .int (nI m), u1, u2]) (st1 := [.int (nI m)]) (σ1 := σ) rfl ?_
      refine tw_ri rfl (rfl) ?_
      exact hE
    · skip
      refine tw_sg 2 (i1 := 11) (ls1 := [.ref 88, .int (nI x), .int (nI m), u1, u2]) (st1 := [.int (nI x), .int (nI m)]) (σ1 := σ) rfl ?_
      refine tw_biF (c := .ge) rfl (by rw [tw_cge', tw_nle (by omega) (by omega)] <;> omega) ?_
      show tw_P L xs _ 213 12 [.ref 88, .int (nI x), .int (nI m), u1, u2] [] σ _
      refine tw_sg 3 (i1 := 15) (ls1 := [.ref 88, .int (nI x), .int (nI m), u1, u2]) (st1 := [.int (nI 0), .ref 90]) (σ1 := σ) rfl ?_
      refine tw_al (k := 90) (j := 0) (len := 2) rfl rfl rfl rfl (rfl) (by omega) (by decide) ?_
      rw [hI.2.1]
      refine tw_bzT (c := .le) rfl (by rw [tw_cle, tw_nle (by omega) (by omega)] <;> omega) ?_
      show tw_P L xs _ 213 73 [.ref 88, .int (nI x), .int (nI m), u1, u2] [] σ _
      refine tw_sg 1 (i1 := 74) (ls1 := [.ref 88, .int (nI x), .int (nI m), u1, u2]) (st1 := [.int (nI m)]) (σ1 := σ) rfl ?_
      refine tw_ri rfl (rfl) ?_
      exact hE
  | succ f ih =>
    intro i σ u1 u2 hf hI hQ
    refine tw_sg 2 (i1 := 11) (ls1 := [.ref 88, .int (nI x), .int (nI i), u1, u2]) (st1 := [.int (nI x), .int (nI i)]) (σ1 := σ) rfl ?_
    refine tw_biF (c := .ge) rfl (by rw [tw_cge', tw_nle (by omega) (by omega)] <;> omega) ?_
    show tw_P L xs _ 213 12 [.ref 88, .int (nI x), .int (nI i), u1, u2] [] σ _
    refine tw_sg 3 (i1 := 15) (ls1 := [.ref 88, .int (nI x), .int (nI i), u1, u2]) (st1 := [.int (nI 0), .ref 90]) (σ1 := σ) rfl ?_
    refine tw_al (k := 90) (j := 0) (len := 2) rfl rfl rfl rfl (rfl) (by omega) (by decide) ?_
    rw [hI.2.1]
    refine tw_bzF (c := .le) rfl (by rw [tw_cle', tw_nle (by omega) (by omega)] <;> omega) ?_
    show tw_P L xs _ 213 17 [.ref 88, .int (nI x), .int (nI i), u1, u2] [] σ _
    refine tw_sg 4 (i1 := 21) (ls1 := [.ref 88, .int (nI x), .int (nI i), u1, u2]) (st1 := [.int (nI 0), .ref 90, .int (nI 0), .ref 90]) (σ1 := σ) rfl ?_
    refine tw_al (k := 90) (j := 0) (len := 2) rfl rfl rfl rfl (rfl) (by omega) (by decide) ?_
    rw [hI.2.1]
    refine tw_sgn 2 (i1 := 24) (ls0 := [.ref 88, .int (nI x), .int (nI i), u1, u2]) (st0 := [.int (nI (r - i) - nI 1), .int (nI 0), .ref 90]) (σ0 := σ) (ls1 := [.ref 88, .int (nI x), .int (nI i), u1, u2]) (st1 := [.int (nI (r - 1 - i)), .int (nI 0), .ref 90]) (σ1 := σ) rfl (rfl) (by simp only [tw_nsub (show 1 ≤ r - i by omega), show r - i - 1 = r - 1 - i by omega, tw_nadd, tw_nmul]) (rfl) ?_
    refine tw_as (k := 90) (j := 0) (len := 2) rfl rfl rfl (rfl) (by omega) (by decide) ?_
    refine tw_sg 2 (i1 := 27) (ls1 := [.ref 88, .int (nI x), .int (nI i), .int (nI 0), u2]) (st1 := []) (σ1 := (tw_upd σ 90 0 (nI (r - 1 - i)))) rfl ?_
    generalize h1 : (tw_upd σ 90 0 (nI (r - 1 - i))) = σ1
    have z : ∀ k j, ¬ (k = 90 ∧ j = 0) → σ1 k j = σ k j := fun k j g => by rw [← h1, tw_upd_off g]
    refine tw_P_le (d := 1) (tw_l_mrow (σ0 := σ1) (n := n) (k := r - 1 - i) (T := T (r - 1 - i)) (P := fun c => tw_pq (P c) (fun i => T i c) r i) ((z 89 0 (by omega)).trans ((hI.1 89 0 (by omega) (by omega)).trans h89)) (by rw [← h1, tw_upd_at]) (by omega) h10 (fun c hc => ⟨(hT (r - 1 - i) (by omega) c hc).1, (z 98 _ (by omega)).trans ((hI.1 98 _ (by omega) (by omega)).trans (hT (r - 1 - i) (by omega) c hc).2)⟩) (fun c hc => ⟨tw_pq_lt (hP c hc).1 _, (z 93 _ (by omega)).trans (hI.2.2 c hc).2⟩) n 0 σ1 _ (by omega) ⟨⟨fun _ _ _ => rfl, fun d hd => by omega⟩, fun τ u h => ?_⟩) (by decide)
    refine tw_P_le (d := 1) ?_ (Nat.le_refl _)
    show tw_P L xs _ 213 71 [.ref 88, .int (nI x), .int (nI i), .int (nI n), u] [] τ _
    refine tw_sgn 2 (i1 := 9) (ls0 := [.ref 88, .int (nI x), .int (nI i + nI 1), .int (nI n), u]) (st0 := []) (σ0 := τ) (ls1 := [.ref 88, .int (nI x), .int (nI (i + 1)), .int (nI n), u]) (st1 := []) (σ1 := τ) rfl (by simp only [tw_nadd, tw_nmul]) (rfl) (rfl) ?_
    exact ih (i + 1) _ _ _ (by omega) (hI.step h1 h) hQ
/-- both sides took m rows back -/
theorem tw_Inv_unw {σ0 γ : tw_Mem} {n r m : Nat} {T : Nat → Nat → Nat} {P : Nat → Nat} (hI : tw_Inv σ0) (hL : tw_iLoom σ0 6 0 n r) (hm : m ≤ r) (hT : ∀ i, i < r → ∀ c, c < n → T i c < 4 ∧ σ0 98 (10 * i + c) = nI (T i c)) (hP : ∀ c, c < n → P c < 4)
    (F : ∀ k j, ¬ k = 8 → ¬ k = 110 → ¬ (k = 9 ∧ j = 3) → ¬ (k = 90 ∧ j = 0) → ¬ (18 ≤ k ∧ k < 2 * n + 18 ∧ k % 2 = 0 ∧ (j = 2 ∨ j = 3)) → ¬ (93 ≤ k ∧ k ≤ 94 ∧ j < n) → γ k j = σ0 k j) (r1 : γ 9 3 = nI (r - m)) (r2 : γ 90 0 = nI (r - m))
    (cC : ∀ c, c < n → γ (2 * c + 18) 3 = tw_tq (σ0 (2 * c + 18) 3) (fun i => T i c) r m ∧ γ (2 * c + 18) 2 = nI (tw_pq (P c) (fun i => T i c) r m)) (cM : ∀ c, c < n → γ 94 c = tw_tq (σ0 94 c) (fun i => T i c) r m ∧ γ 93 c = nI (tw_pq (P c) (fun i => T i c) r m)) : tw_Inv γ ∧ tw_iLoom γ 6 0 n (r - m) := by
  obtain ⟨⟨hn10, hr50⟩, ⟨hn6, hn89⟩, ⟨hr9, hw9, hr90⟩, hCa, hRo, hLa⟩ := id hL
  have hLo : tw_iLoom γ 6 0 n (r - m) := by
    refine ⟨⟨hn10, by omega⟩, ⟨(F 6 4 (by omega) (by omega) (by omega) (by omega) (by omega) (by omega)).trans hn6, (F 89 0 (by omega) (by omega) (by omega) (by omega) (by omega) (by omega)).trans hn89⟩, ⟨r1, (F 9 4 (by omega) (by omega) (by omega) (by omega) (by omega) (by omega)).trans hw9, r2⟩, ?_, ?_, hLa.cg (fun k j h => ?_)⟩
    · rw [tw_iCards0]
      intro c hc
      obtain ⟨g1, ⟨g2, g3⟩, -, g6⟩ := tw_iCards0.mp hCa c hc
      obtain ⟨a1, a2⟩ := cC c hc
      obtain ⟨b1, b2⟩ := cM c hc
      refine ⟨fun h hh => ?_, ⟨?_, ?_⟩, ⟨a2.trans b2.symm, tw_pq (P c) (fun i => T i c) r m, tw_pq_lt (hP c hc) m, b2⟩, by rw [a1, b1, g6]⟩
      · rw [F (2 * c + 19) h (by omega) (by omega) (by omega) (by omega) (by omega) (by omega), F 91 (4 * c + h) (by omega) (by omega) (by omega) (by omega) (by omega) (by omega)]; exact g1 h hh
      · rw [F (2 * c + 18) 1 (by omega) (by omega) (by omega) (by omega) (by omega) (by omega), F 92 c (by omega) (by omega) (by omega) (by omega) (by omega) (by omega)]; exact g2
      · rw [F 92 c (by omega) (by omega) (by omega) (by omega) (by omega) (by omega)]; exact g3
    · intro i hi c hc
      have f : ∀ z, γ (6 + 4) z = σ0 (6 + 4) z := fun z => F 10 z (by omega) (by omega) (by omega) (by omega) (by omega) (by omega)
      have f2 : ∀ k, 95 ≤ k → k ≤ 98 → ∀ z, γ k z = σ0 k z := fun k h1 h2 z => F k z (by omega) (by omega) (by omega) (by omega) (by omega) (by omega)
      rw [f, f, f, f, f2 95 (by omega) (by omega), f2 96 (by omega) (by omega), f2 97 (by omega) (by omega), f2 98 (by omega) (by omega)]
      exact hRo i (by omega) c hc
    · unfold tw_fLaw at h
      exact F k j (by omega) (by omega) (by omega) (by omega) (by omega) (by omega)
  refine ⟨hI.loom ⟨n, r - m, hLo⟩ ?_ (fun k j h => ?_), hLo⟩
  · intro n1 r3 h10 h50 e1 e2 c hc
    have en : n1 = n := tw_ninj (by omega) (by omega) (e1.symm.trans ((F 89 0 (by omega) (by omega) (by omega) (by omega) (by omega) (by omega)).trans hn89))
    have er : r3 = r - m := tw_ninj (by omega) (by omega) (e2.symm.trans r2)
    rw [en] at hc
    have hs : σ0 94 c = tw_sm (fun i => σ0 98 (10 * i + c)) r := hI.2.2.2.2.2.2.2.2.2.1 n r hn10 hr50 hn89 hr90 c hc
    rw [er]
    show γ 94 c = tw_sm (fun i => γ 98 (10 * i + c)) (r - m)
    rw [(cM c hc).1, hs, tw_tq_sm (fun i hi => hT i hi c hc) m hm]
    exact tw_sm_cg _ (fun i hi => (F 98 _ (by omega) (by omega) (by omega) (by omega) (by omega) (by omega)).symm)
  · unfold tw_fRest tw_fLoom tw_fCards tw_fRows tw_fLaw at h
    exact F k j (by omega) (by omega) (by omega) (by omega) (by omega) (by omega)
/-- the turnings of the rows, by number -/
theorem tw_rowsT {σ : tw_Mem} {n r : Nat} (h : tw_iRows σ 6 0 n r) : ∃ T : Nat → Nat → Nat, ∀ i, i < r → ∀ c, c < n → T i c < 4 ∧ σ 98 (10 * i + c) = nI (T i c) ∧ σ 10 ((i * 10 + c) * 4 + 3) = nI (T i c) := by
  refine ⟨fun i c => (σ 98 (10 * i + c)).toNatClampNeg, fun i hi c hc => ?_⟩
  obtain ⟨-, -, -, g4, t, g5, g6⟩ := h i hi c hc
  have g6 : σ 98 (10 * i + c) = nI t := g6
  have g4 : σ 10 ((i * 10 + c) * 4 + 3) = σ 98 (10 * i + c) := g4
  have e : (σ 98 (10 * i + c)).toNatClampNeg = t := by rw [g6]; exact tw_nclamp (by omega)
  show (σ 98 (10 * i + c)).toNatClampNeg < 4 ∧ σ 98 (10 * i + c) = nI (σ 98 (10 * i + c)).toNatClampNeg ∧ σ 10 ((i * 10 + c) * 4 + 3) = nI (σ 98 (10 * i + c)).toNatClampNeg
  rw [e]
  exact ⟨g5, g6, g4.trans g6⟩
set_option maxHeartbeats 4000000 in
set_option maxRecDepth 100000 in
theorem tw_o_unweave {L : Nat} {xs : Nat → Int32} (x : Int32) : tw_op L xs 144 213 [.int x] := by
  intro σ hI
  obtain ⟨⟨n, r, hL⟩, hT, hPp, hPc, hLs, hIm, hC14, hC46, hC72⟩ := id hI
  have hLo := hL
  obtain ⟨⟨hn10, hr50⟩, ⟨hn6, hn89⟩, ⟨hr9, hw9, hr90⟩, hCa, hRo, hLa⟩ := hL
  have hn6 : σ 6 4 = nI n := hn6
  have hn89 : σ 89 0 = nI n := hn89
  have hr9 : σ 9 3 = nI r := hr9
  have hw9 : σ 9 4 = nI n := hw9
  have hr90 : σ 90 0 = nI r := hr90
  obtain ⟨P, q, hPq⟩ := tw_cardsP hCa
  obtain ⟨T, hT2⟩ := tw_rowsT hRo
  rcases tw_nany x with hx | ⟨a, ha, rfl⟩
  · skip
    show tw_P L xs _ 144 0 [.ref 1, .int x] [] σ _
    refine tw_sg 2 (i1 := 2) (ls1 := [.ref 1, .int x]) (st1 := [.int (nI 1), .int x]) (σ1 := σ) rfl ?_
    refine tw_biT (c := .lt) rfl (by rw [tw_clt] <;> (exact (tw_neg_lt hx (by decide)))) ?_
    show tw_P L xs _ 144 6 [.ref 1, .int x] [] σ _
    refine tw_sg 2 (i1 := 12) (ls1 := [.ref 1, .int x]) (st1 := [.int (-2)]) (σ1 := σ) rfl ?_
    refine tw_ri rfl (rfl) ?_
    refine ⟨_, rfl, ?_⟩
    show tw_P L xs _ 213 0 [.ref 88, .int x, tw_U, tw_U, tw_U] [] σ _
    refine tw_sg 3 (i1 := 3) (ls1 := [.ref 88, .int x, tw_U, tw_U, tw_U]) (st1 := [.int (nI 50), .int (nI 1), .int x]) (σ1 := σ) rfl ?_
    refine tw_cl0 59 rfl (rfl) (by decide) ?_
    show tw_P L xs _ 182 0 [.int x, .int (nI 1), .int (nI 50)] [] σ _
    refine tw_sg 2 (i1 := 2) (ls1 := [.int x, .int (nI 1), .int (nI 50)]) (st1 := [.int (nI 1), .int x]) (σ1 := σ) rfl ?_
    refine tw_biT (c := .lt) rfl (by rw [tw_clt] <;> (exact (tw_neg_lt hx (by decide)))) ?_
    show tw_P L xs _ 182 8 [.int x, .int (nI 1), .int (nI 50)] [] σ _
    refine tw_sg 1 (i1 := 9) (ls1 := [.int x, .int (nI 1), .int (nI 50)]) (st1 := [.int (nI 0)]) (σ1 := σ) rfl ?_
    refine tw_ri rfl (rfl) ?_
    show tw_P L xs _ 213 4 [.ref 88, .int x, tw_U, tw_U, tw_U] [.int (nI 0)] σ _
    refine tw_bzF (c := .ne) rfl (by rw [tw_cne', tw_neq (by omega) (by omega)] <;> omega) ?_
    show tw_P L xs _ 213 5 [.ref 88, .int x, tw_U, tw_U, tw_U] [] σ _
    refine tw_sg 1 (i1 := 6) (ls1 := [.ref 88, .int x, tw_U, tw_U, tw_U]) (st1 := [.int (-2)]) (σ1 := σ) rfl ?_
    refine tw_ri rfl (rfl) ?_
    exact ⟨rfl, hI⟩
  · rcases (show a = 0 ∨ 50 < a ∨ (1 ≤ a ∧ a ≤ 50) by omega) with hz | hz | hz
    · subst hz
      show tw_P L xs _ 144 0 [.ref 1, .int (nI 0)] [] σ _
      refine tw_sg 2 (i1 := 2) (ls1 := [.ref 1, .int (nI 0)]) (st1 := [.int (nI 1), .int (nI 0)]) (σ1 := σ) rfl ?_
      refine tw_biT (c := .lt) rfl (by rw [tw_clt, tw_nlt (by omega) (by omega)] <;> omega) ?_
      show tw_P L xs _ 144 6 [.ref 1, .int (nI 0)] [] σ _
      refine tw_sg 2 (i1 := 12) (ls1 := [.ref 1, .int (nI 0)]) (st1 := [.int (-2)]) (σ1 := σ) rfl ?_
      refine tw_ri rfl (rfl) ?_
      refine ⟨_, rfl, ?_⟩
      show tw_P L xs _ 213 0 [.ref 88, .int (nI 0), tw_U, tw_U, tw_U] [] σ _
      refine tw_sg 3 (i1 := 3) (ls1 := [.ref 88, .int (nI 0), tw_U, tw_U, tw_U]) (st1 := [.int (nI 50), .int (nI 1), .int (nI 0)]) (σ1 := σ) rfl ?_
      refine tw_cl0 59 rfl (rfl) (by decide) ?_
      show tw_P L xs _ 182 0 [.int (nI 0), .int (nI 1), .int (nI 50)] [] σ _
      refine tw_sg 2 (i1 := 2) (ls1 := [.int (nI 0), .int (nI 1), .int (nI 50)]) (st1 := [.int (nI 1), .int (nI 0)]) (σ1 := σ) rfl ?_
      refine tw_biT (c := .lt) rfl (by rw [tw_clt, tw_nlt (by omega) (by omega)] <;> omega) ?_
      show tw_P L xs _ 182 8 [.int (nI 0), .int (nI 1), .int (nI 50)] [] σ _
      refine tw_sg 1 (i1 := 9) (ls1 := [.int (nI 0), .int (nI 1), .int (nI 50)]) (st1 := [.int (nI 0)]) (σ1 := σ) rfl ?_
      refine tw_ri rfl (rfl) ?_
      show tw_P L xs _ 213 4 [.ref 88, .int (nI 0), tw_U, tw_U, tw_U] [.int (nI 0)] σ _
      refine tw_bzF (c := .ne) rfl (by rw [tw_cne', tw_neq (by omega) (by omega)] <;> omega) ?_
      show tw_P L xs _ 213 5 [.ref 88, .int (nI 0), tw_U, tw_U, tw_U] [] σ _
      refine tw_sg 1 (i1 := 6) (ls1 := [.ref 88, .int (nI 0), tw_U, tw_U, tw_U]) (st1 := [.int (-2)]) (σ1 := σ) rfl ?_
      refine tw_ri rfl (rfl) ?_
      exact ⟨rfl, hI⟩
    · skip
      show tw_P L xs _ 144 0 [.ref 1, .int (nI a)] [] σ _
      refine tw_sg 2 (i1 := 2) (ls1 := [.ref 1, .int (nI a)]) (st1 := [.int (nI 1), .int (nI a)]) (σ1 := σ) rfl ?_
      refine tw_biF (c := .lt) rfl (by rw [tw_clt', tw_nlt (by omega) (by omega)] <;> omega) ?_
      show tw_P L xs _ 144 3 [.ref 1, .int (nI a)] [] σ _
      refine tw_sg 2 (i1 := 5) (ls1 := [.ref 1, .int (nI a)]) (st1 := [.int (nI 50), .int (nI a)]) (σ1 := σ) rfl ?_
      refine tw_biF (c := .le) rfl (by rw [tw_cle', tw_nle (by omega) (by omega)] <;> omega) ?_
      show tw_P L xs _ 144 6 [.ref 1, .int (nI a)] [] σ _
      refine tw_sg 2 (i1 := 12) (ls1 := [.ref 1, .int (nI a)]) (st1 := [.int (-2)]) (σ1 := σ) rfl ?_
      refine tw_ri rfl (rfl) ?_
      refine ⟨_, rfl, ?_⟩
      show tw_P L xs _ 213 0 [.ref 88, .int (nI a), tw_U, tw_U, tw_U] [] σ _
      refine tw_sg 3 (i1 := 3) (ls1 := [.ref 88, .int (nI a), tw_U, tw_U, tw_U]) (st1 := [.int (nI 50), .int (nI 1), .int (nI a)]) (σ1 := σ) rfl ?_
      refine tw_cl0 59 rfl (rfl) (by decide) ?_
      show tw_P L xs _ 182 0 [.int (nI a), .int (nI 1), .int (nI 50)] [] σ _
      refine tw_sg 2 (i1 := 2) (ls1 := [.int (nI a), .int (nI 1), .int (nI 50)]) (st1 := [.int (nI 1), .int (nI a)]) (σ1 := σ) rfl ?_
      refine tw_biF (c := .lt) rfl (by rw [tw_clt', tw_nlt (by omega) (by omega)] <;> omega) ?_
      show tw_P L xs _ 182 3 [.int (nI a), .int (nI 1), .int (nI 50)] [] σ _
      refine tw_sg 2 (i1 := 5) (ls1 := [.int (nI a), .int (nI 1), .int (nI 50)]) (st1 := [.int (nI 50), .int (nI a)]) (σ1 := σ) rfl ?_
      refine tw_biT (c := .gt) rfl (by rw [tw_cgt, tw_nlt (by omega) (by omega)] <;> omega) ?_
      show tw_P L xs _ 182 8 [.int (nI a), .int (nI 1), .int (nI 50)] [] σ _
      refine tw_sg 1 (i1 := 9) (ls1 := [.int (nI a), .int (nI 1), .int (nI 50)]) (st1 := [.int (nI 0)]) (σ1 := σ) rfl ?_
      refine tw_ri rfl (rfl) ?_
      show tw_P L xs _ 213 4 [.ref 88, .int (nI a), tw_U, tw_U, tw_U] [.int (nI 0)] σ _
      refine tw_bzF (c := .ne) rfl (by rw [tw_cne', tw_neq (by omega) (by omega)] <;> omega) ?_
      show tw_P L xs _ 213 5 [.ref 88, .int (nI a), tw_U, tw_U, tw_U] [] σ _
      refine tw_sg 1 (i1 := 6) (ls1 := [.ref 88, .int (nI a), tw_U, tw_U, tw_U]) (st1 := [.int (-2)]) (σ1 := σ) rfl ?_
      refine tw_ri rfl (rfl) ?_
      exact ⟨rfl, hI⟩
    · obtain ⟨m, m1, m2, m3⟩ : ∃ m, m ≤ a ∧ m ≤ r ∧ (m = a ∨ m = r) := ⟨min a r, by omega, by omega, by omega⟩
      show tw_P L xs _ 144 0 [.ref 1, .int (nI a)] [] σ _
      refine tw_sg 2 (i1 := 2) (ls1 := [.ref 1, .int (nI a)]) (st1 := [.int (nI 1), .int (nI a)]) (σ1 := σ) rfl ?_
      refine tw_biF (c := .lt) rfl (by rw [tw_clt', tw_nlt (by omega) (by omega)] <;> omega) ?_
      show tw_P L xs _ 144 3 [.ref 1, .int (nI a)] [] σ _
      refine tw_sg 2 (i1 := 5) (ls1 := [.ref 1, .int (nI a)]) (st1 := [.int (nI 50), .int (nI a)]) (σ1 := σ) rfl ?_
      refine tw_biT (c := .le) rfl (by rw [tw_cle, tw_nle (by omega) (by omega)] <;> omega) ?_
      show tw_P L xs _ 144 8 [.ref 1, .int (nI a)] [] σ _
      refine tw_sg 3 (i1 := 11) (ls1 := [.ref 1, .int (nI a)]) (st1 := [.int (nI a), .ref 6]) (σ1 := σ) rfl ?_
      refine tw_cl1 rfl (rfl) (by decide) (tw_e_take (r := r) (m := m) (T := T) (P := P) hn6 hr9 hw9 hr50 hn10 (fun i hi c hc => ⟨(hT2 i hi c hc).1, (hT2 i hi c hc).2.2⟩) (fun c hc => ⟨(hPq c hc).1.1, (hPq c hc).1.2.1⟩) hz.2 m1 m2 m3) ?_
      rintro _ τ ⟨rfl, hC⟩
      show tw_P L xs _ 144 12 [.ref 1, .int (nI a)] [.int (nI m)] τ _
      refine tw_ri rfl (rfl) ?_
      refine ⟨_, rfl, ?_⟩
      show tw_P L xs _ 213 0 [.ref 88, .int (nI a), tw_U, tw_U, tw_U] [] τ _
      refine tw_sg 3 (i1 := 3) (ls1 := [.ref 88, .int (nI a), tw_U, tw_U, tw_U]) (st1 := [.int (nI 50), .int (nI 1), .int (nI a)]) (σ1 := τ) rfl ?_
      refine tw_cl0 59 rfl (rfl) (by decide) ?_
      show tw_P L xs _ 182 0 [.int (nI a), .int (nI 1), .int (nI 50)] [] τ _
      refine tw_sg 2 (i1 := 2) (ls1 := [.int (nI a), .int (nI 1), .int (nI 50)]) (st1 := [.int (nI 1), .int (nI a)]) (σ1 := τ) rfl ?_
      refine tw_biF (c := .lt) rfl (by rw [tw_clt', tw_nlt (by omega) (by omega)] <;> omega) ?_
      show tw_P L xs _ 182 3 [.int (nI a), .int (nI 1), .int (nI 50)] [] τ _
      refine tw_sg 2 (i1 := 5) (ls1 := [.int (nI a), .int (nI 1), .int (nI 50)]) (st1 := [.int (nI 50), .int (nI a)]) (σ1 := τ) rfl ?_
      refine tw_biF (c := .gt) rfl (by rw [tw_cgt', tw_nlt (by omega) (by omega)] <;> omega) ?_
      show tw_P L xs _ 182 6 [.int (nI a), .int (nI 1), .int (nI 50)] [] τ _
      refine tw_sg 2 (i1 := 9) (ls1 := [.int (nI a), .int (nI 1), .int (nI 50)]) (st1 := [.int (nI 1)]) (σ1 := τ) rfl ?_
      refine tw_ri rfl (rfl) ?_
      show tw_P L xs _ 213 4 [.ref 88, .int (nI a), tw_U, tw_U, tw_U] [.int (nI 1)] τ _
      refine tw_bzT (c := .ne) rfl (by rw [tw_cne, tw_neq (by omega) (by omega)] <;> omega) ?_
      show tw_P L xs _ 213 7 [.ref 88, .int (nI a), tw_U, tw_U, tw_U] [] τ _
      refine tw_sg 2 (i1 := 9) (ls1 := [.ref 88, .int (nI a), .int (nI 0), tw_U, tw_U]) (st1 := []) (σ1 := τ) rfl ?_
      refine tw_P_le (d := 1) (tw_l_munw (σ0 := τ) (n := n) (r := r) (T := T) (P := P) ((hC.1 89 0 (by omega) (by omega)).trans hn89) ((hC.1 90 0 (by omega) (by omega)).trans hr90) hr50 hn10 (fun i hi c hc => ⟨(hT2 i hi c hc).1, (hC.1 98 _ (by omega) (by omega)).trans (hT2 i hi c hc).2.1⟩) (fun c hc => ⟨(hPq c hc).1.1, (hC.1 93 _ (by omega) (by omega)).trans (hPq c hc).1.2.2⟩) hz.2 m1 m2 m3 m 0 τ _ _ (by omega) ⟨fun _ _ _ _ => rfl, (hC.1 90 0 (by omega) (by omega)).trans hr90, fun c hc => ⟨rfl, (hC.1 93 _ (by omega) (by omega)).trans (hPq c hc).1.2.2⟩⟩ (fun ω hM => ⟨rfl, ?_⟩)) (by decide)
      refine (tw_Inv_unw hI hLo m2 (fun i hi c hc => ⟨(hT2 i hi c hc).1, (hT2 i hi c hc).2.1⟩) (fun c hc => (hPq c hc).1.1) (fun k j g1 g2 g3 g4 g5 g6 => by rw [hM.1 k j g6 g4, hC.1 k j g5 g3]) (by rw [hM.1 9 3 (by omega) (by omega)]; exact hC.2.1) hM.2.1 (fun c hc => ?_) (fun c hc => ?_)).1
      · rw [hM.1 _ _ (by omega) (by omega), hM.1 _ _ (by omega) (by omega)]; exact hC.2.2 c hc
      · rw [(hM.2.2 c hc).1, (hM.2.2 c hc).2, hC.1 94 c (by omega) (by omega)]; exact ⟨rfl, rfl⟩
end tw_s55
