/-! one pick, the class -/
section tw_s37
variable {L : Nat} {xs : Nat → Int32} {σ : tw_Mem} {x y w : Int32} {n r i c k h q a b e : Nat}
def tw_gI (t : Nat) : Int32 := if t = 1 then nI 1 else if t = 2 then (-1) else if t = 3 then nI 2 else nI 0
def tw_mI (t : Nat) : Nat := if t = 1 then 1 else if t = 2 then 3 else if t = 3 then 2 else 0
def tw_ln (t q : Nat) : Nat := if t = 0 then 0 else if t = 3 then 3 else if (if t = 1 then 1 else 0) = (if q = 0 then 1 else 0) then 1 else 2
def tw_fm (x : Int32) : Int32 := if nI 0 ≤ (x ^^^ nI 4) then x - x / nI 4 * nI 4 else if x - x / nI 4 * nI 4 = nI 0 then x - x / nI 4 * nI 4 else x - x / nI 4 * nI 4 + nI 4
def tw_pl (p t : Nat) : Nat := (p + tw_mI t) % 4
theorem tw_fm_pl : ∀ p, p < 4 → ∀ t, t < 4 → tw_fm (nI p + tw_gI t) = nI (tw_pl p t) := by decide +kernel
theorem tw_fm_2 : ∀ e, e < 4 → tw_fm (nI e + nI 2) = nI ((e + 2) % 4) := by decide +kernel
theorem tw_pl_lt {p t : Nat} : tw_pl p t < 4 := Nat.mod_lt _ (by decide)
set_option maxRecDepth 100000 in
theorem tw_e_twistOf {t : Nat} (ht : t < 4) : tw_E L xs 0 179 [.int (nI t)] σ (fun v σ1 => v = some (.int (tw_gI t)) ∧ σ = σ1) := by
  rcases (show t = 0 ∨ t = 1 ∨ t = 2 ∨ t = 3 by omega) with rfl | rfl | rfl | rfl
  · show tw_P L xs _ 179 0 [.int (nI 0)] [] σ _
    refine tw_sg 1 (i1 := 1) (ls1 := [.int (nI 0)]) (st1 := [.int (nI 0)]) (σ1 := σ) rfl ?_
    refine tw_swoz (lo := 1) (j := 0) rfl (rfl) (Or.inl (by decide)) (by decide) ?_
    show tw_P L xs _ 179 8 [.int (nI 0)] [] σ _
    refine tw_sg 1 (i1 := 9) (ls1 := [.int (nI 0)]) (st1 := [.int (nI 0)]) (σ1 := σ) rfl ?_
    refine tw_ri rfl (rfl) ?_
    exact ⟨rfl, rfl⟩
  · show tw_P L xs _ 179 0 [.int (nI 1)] [] σ _
    refine tw_sg 1 (i1 := 1) (ls1 := [.int (nI 1)]) (st1 := [.int (nI 1)]) (σ1 := σ) rfl ?_
    refine tw_swz (lo := 1) (j := 1) rfl (rfl) (by decide) (by decide) (by decide) rfl ?_
    show tw_P L xs _ 179 2 [.int (nI 1)] [] σ _
    refine tw_sg 1 (i1 := 3) (ls1 := [.int (nI 1)]) (st1 := [.int (nI 1)]) (σ1 := σ) rfl ?_
    refine tw_ri rfl (rfl) ?_
    exact ⟨rfl, rfl⟩
  · show tw_P L xs _ 179 0 [.int (nI 2)] [] σ _
    refine tw_sg 1 (i1 := 1) (ls1 := [.int (nI 2)]) (st1 := [.int (nI 2)]) (σ1 := σ) rfl ?_
    refine tw_swz (lo := 1) (j := 2) rfl (rfl) (by decide) (by decide) (by decide) rfl ?_
    show tw_P L xs _ 179 4 [.int (nI 2)] [] σ _
    refine tw_sg 1 (i1 := 5) (ls1 := [.int (nI 2)]) (st1 := [.int (-1)]) (σ1 := σ) rfl ?_
    refine tw_ri rfl (rfl) ?_
    exact ⟨rfl, rfl⟩
  · show tw_P L xs _ 179 0 [.int (nI 3)] [] σ _
    refine tw_sg 1 (i1 := 1) (ls1 := [.int (nI 3)]) (st1 := [.int (nI 3)]) (σ1 := σ) rfl ?_
    refine tw_swz (lo := 1) (j := 3) rfl (rfl) (by decide) (by decide) (by decide) rfl ?_
    show tw_P L xs _ 179 6 [.int (nI 3)] [] σ _
    refine tw_sg 1 (i1 := 7) (ls1 := [.int (nI 3)]) (st1 := [.int (nI 2)]) (σ1 := σ) rfl ?_
    refine tw_ri rfl (rfl) ?_
    exact ⟨rfl, rfl⟩
set_option maxRecDepth 100000 in
theorem tw_e_moved {t : Nat} (ht : t < 4) : tw_E L xs 0 203 [.int (nI t)] σ (fun v σ1 => v = some (.int (nI (tw_mI t))) ∧ σ = σ1) := by
  rcases (show t = 0 ∨ t = 1 ∨ t = 2 ∨ t = 3 by omega) with rfl | rfl | rfl | rfl
  · show tw_P L xs _ 203 0 [.int (nI 0)] [] σ _
    refine tw_sg 2 (i1 := 2) (ls1 := [.int (nI 0)]) (st1 := [.int (nI 1), .int (nI 0)]) (σ1 := σ) rfl ?_
    refine tw_biT (c := .ne) rfl (by rw [tw_cne, tw_neq (by omega) (by omega)] <;> omega) ?_
    show tw_P L xs _ 203 5 [.int (nI 0)] [] σ _
    refine tw_sg 2 (i1 := 7) (ls1 := [.int (nI 0)]) (st1 := [.int (nI 2), .int (nI 0)]) (σ1 := σ) rfl ?_
    refine tw_biT (c := .ne) rfl (by rw [tw_cne, tw_neq (by omega) (by omega)] <;> omega) ?_
    show tw_P L xs _ 203 10 [.int (nI 0)] [] σ _
    refine tw_sg 2 (i1 := 12) (ls1 := [.int (nI 0)]) (st1 := [.int (nI 3), .int (nI 0)]) (σ1 := σ) rfl ?_
    refine tw_biT (c := .ne) rfl (by rw [tw_cne, tw_neq (by omega) (by omega)] <;> omega) ?_
    show tw_P L xs _ 203 15 [.int (nI 0)] [] σ _
    refine tw_sg 1 (i1 := 16) (ls1 := [.int (nI 0)]) (st1 := [.int (nI 0)]) (σ1 := σ) rfl ?_
    refine tw_ri rfl (rfl) ?_
    exact ⟨rfl, rfl⟩
  · show tw_P L xs _ 203 0 [.int (nI 1)] [] σ _
    refine tw_sg 2 (i1 := 2) (ls1 := [.int (nI 1)]) (st1 := [.int (nI 1), .int (nI 1)]) (σ1 := σ) rfl ?_
    refine tw_biF (c := .ne) rfl (by rw [tw_cne', tw_neq (by omega) (by omega)] <;> omega) ?_
    show tw_P L xs _ 203 3 [.int (nI 1)] [] σ _
    refine tw_sg 2 (i1 := 16) (ls1 := [.int (nI 1)]) (st1 := [.int (nI 1)]) (σ1 := σ) rfl ?_
    refine tw_ri rfl (rfl) ?_
    exact ⟨rfl, rfl⟩
  · show tw_P L xs _ 203 0 [.int (nI 2)] [] σ _
    refine tw_sg 2 (i1 := 2) (ls1 := [.int (nI 2)]) (st1 := [.int (nI 1), .int (nI 2)]) (σ1 := σ) rfl ?_
    refine tw_biT (c := .ne) rfl (by rw [tw_cne, tw_neq (by omega) (by omega)] <;> omega) ?_
    show tw_P L xs _ 203 5 [.int (nI 2)] [] σ _
    refine tw_sg 2 (i1 := 7) (ls1 := [.int (nI 2)]) (st1 := [.int (nI 2), .int (nI 2)]) (σ1 := σ) rfl ?_
    refine tw_biF (c := .ne) rfl (by rw [tw_cne', tw_neq (by omega) (by omega)] <;> omega) ?_
    show tw_P L xs _ 203 8 [.int (nI 2)] [] σ _
    refine tw_sg 2 (i1 := 16) (ls1 := [.int (nI 2)]) (st1 := [.int (nI 3)]) (σ1 := σ) rfl ?_
    refine tw_ri rfl (rfl) ?_
    exact ⟨rfl, rfl⟩
  · show tw_P L xs _ 203 0 [.int (nI 3)] [] σ _
    refine tw_sg 2 (i1 := 2) (ls1 := [.int (nI 3)]) (st1 := [.int (nI 1), .int (nI 3)]) (σ1 := σ) rfl ?_
    refine tw_biT (c := .ne) rfl (by rw [tw_cne, tw_neq (by omega) (by omega)] <;> omega) ?_
    show tw_P L xs _ 203 5 [.int (nI 3)] [] σ _
    refine tw_sg 2 (i1 := 7) (ls1 := [.int (nI 3)]) (st1 := [.int (nI 2), .int (nI 3)]) (σ1 := σ) rfl ?_
    refine tw_biT (c := .ne) rfl (by rw [tw_cne, tw_neq (by omega) (by omega)] <;> omega) ?_
    show tw_P L xs _ 203 10 [.int (nI 3)] [] σ _
    refine tw_sg 2 (i1 := 12) (ls1 := [.int (nI 3)]) (st1 := [.int (nI 3), .int (nI 3)]) (σ1 := σ) rfl ?_
    refine tw_biF (c := .ne) rfl (by rw [tw_cne', tw_neq (by omega) (by omega)] <;> omega) ?_
    show tw_P L xs _ 203 13 [.int (nI 3)] [] σ _
    refine tw_sg 2 (i1 := 16) (ls1 := [.int (nI 3)]) (st1 := [.int (nI 2)]) (σ1 := σ) rfl ?_
    refine tw_ri rfl (rfl) ?_
    exact ⟨rfl, rfl⟩
set_option maxRecDepth 100000 in
theorem tw_e_grown {t : Nat} (ht : t < 4) : tw_E L xs 0 204 [.int (nI t)] σ (fun v σ1 => v = some (.int (tw_gI t)) ∧ σ = σ1) := by
  rcases (show t = 0 ∨ t = 1 ∨ t = 2 ∨ t = 3 by omega) with rfl | rfl | rfl | rfl
  · show tw_P L xs _ 204 0 [.int (nI 0)] [] σ _
    refine tw_sg 2 (i1 := 2) (ls1 := [.int (nI 0)]) (st1 := [.int (nI 1), .int (nI 0)]) (σ1 := σ) rfl ?_
    refine tw_biT (c := .ne) rfl (by rw [tw_cne, tw_neq (by omega) (by omega)] <;> omega) ?_
    show tw_P L xs _ 204 5 [.int (nI 0)] [] σ _
    refine tw_sg 2 (i1 := 7) (ls1 := [.int (nI 0)]) (st1 := [.int (nI 2), .int (nI 0)]) (σ1 := σ) rfl ?_
    refine tw_biT (c := .ne) rfl (by rw [tw_cne, tw_neq (by omega) (by omega)] <;> omega) ?_
    show tw_P L xs _ 204 10 [.int (nI 0)] [] σ _
    refine tw_sg 2 (i1 := 12) (ls1 := [.int (nI 0)]) (st1 := [.int (nI 3), .int (nI 0)]) (σ1 := σ) rfl ?_
    refine tw_biT (c := .ne) rfl (by rw [tw_cne, tw_neq (by omega) (by omega)] <;> omega) ?_
    show tw_P L xs _ 204 15 [.int (nI 0)] [] σ _
    refine tw_sg 1 (i1 := 16) (ls1 := [.int (nI 0)]) (st1 := [.int (nI 0)]) (σ1 := σ) rfl ?_
    refine tw_ri rfl (rfl) ?_
    exact ⟨rfl, rfl⟩
  · show tw_P L xs _ 204 0 [.int (nI 1)] [] σ _
    refine tw_sg 2 (i1 := 2) (ls1 := [.int (nI 1)]) (st1 := [.int (nI 1), .int (nI 1)]) (σ1 := σ) rfl ?_
    refine tw_biF (c := .ne) rfl (by rw [tw_cne', tw_neq (by omega) (by omega)] <;> omega) ?_
    show tw_P L xs _ 204 3 [.int (nI 1)] [] σ _
    refine tw_sg 2 (i1 := 16) (ls1 := [.int (nI 1)]) (st1 := [.int (nI 1)]) (σ1 := σ) rfl ?_
    refine tw_ri rfl (rfl) ?_
    exact ⟨rfl, rfl⟩
  · show tw_P L xs _ 204 0 [.int (nI 2)] [] σ _
    refine tw_sg 2 (i1 := 2) (ls1 := [.int (nI 2)]) (st1 := [.int (nI 1), .int (nI 2)]) (σ1 := σ) rfl ?_
    refine tw_biT (c := .ne) rfl (by rw [tw_cne, tw_neq (by omega) (by omega)] <;> omega) ?_
    show tw_P L xs _ 204 5 [.int (nI 2)] [] σ _
    refine tw_sg 2 (i1 := 7) (ls1 := [.int (nI 2)]) (st1 := [.int (nI 2), .int (nI 2)]) (σ1 := σ) rfl ?_
    refine tw_biF (c := .ne) rfl (by rw [tw_cne', tw_neq (by omega) (by omega)] <;> omega) ?_
    show tw_P L xs _ 204 8 [.int (nI 2)] [] σ _
    refine tw_sg 2 (i1 := 16) (ls1 := [.int (nI 2)]) (st1 := [.int (-1)]) (σ1 := σ) rfl ?_
    refine tw_ri rfl (rfl) ?_
    exact ⟨rfl, rfl⟩
  · show tw_P L xs _ 204 0 [.int (nI 3)] [] σ _
    refine tw_sg 2 (i1 := 2) (ls1 := [.int (nI 3)]) (st1 := [.int (nI 1), .int (nI 3)]) (σ1 := σ) rfl ?_
    refine tw_biT (c := .ne) rfl (by rw [tw_cne, tw_neq (by omega) (by omega)] <;> omega) ?_
    show tw_P L xs _ 204 5 [.int (nI 3)] [] σ _
    refine tw_sg 2 (i1 := 7) (ls1 := [.int (nI 3)]) (st1 := [.int (nI 2), .int (nI 3)]) (σ1 := σ) rfl ?_
    refine tw_biT (c := .ne) rfl (by rw [tw_cne, tw_neq (by omega) (by omega)] <;> omega) ?_
    show tw_P L xs _ 204 10 [.int (nI 3)] [] σ _
    refine tw_sg 2 (i1 := 12) (ls1 := [.int (nI 3)]) (st1 := [.int (nI 3), .int (nI 3)]) (σ1 := σ) rfl ?_
    refine tw_biF (c := .ne) rfl (by rw [tw_cne', tw_neq (by omega) (by omega)] <;> omega) ?_
    show tw_P L xs _ 204 13 [.int (nI 3)] [] σ _
    refine tw_sg 2 (i1 := 16) (ls1 := [.int (nI 3)]) (st1 := [.int (nI 2)]) (σ1 := σ) rfl ?_
    refine tw_ri rfl (rfl) ?_
    exact ⟨rfl, rfl⟩
set_option maxHeartbeats 4000000 in
set_option maxRecDepth 100000 in
theorem tw_e_fm  : tw_E L xs 0 260 [.int x, .int (nI 4)] σ (fun v σ1 => v = some (.int (tw_fm x)) ∧ σ = σ1) := by
  show tw_P L xs _ 260 0 [.int x, .int (nI 4), tw_U] [] σ _
  refine tw_sg 2 (i1 := 2) (ls1 := [.int x, .int (nI 4), tw_U]) (st1 := [.int (nI 4), .int x]) (σ1 := σ) rfl ?_
  refine tw_rm rfl (by decide) ?_
  refine tw_sg 4 (i1 := 7) (ls1 := [.int x, .int (nI 4), .int (x - x / nI 4 * nI 4)]) (st1 := [.int (x ^^^ nI 4)]) (σ1 := σ) rfl ?_
  refine tw_bz (c := .ge) rfl (fun h1 => ?_) (fun h1 => ?_)
  · rw [tw_cge] at h1
    refine tw_sg 1 (i1 := 15) (ls1 := [.int x, .int (nI 4), .int (x - x / nI 4 * nI 4)]) (st1 := [.int (x - x / nI 4 * nI 4)]) (σ1 := σ) rfl ?_
    refine tw_ri rfl (rfl) ?_
    exact ⟨by unfold tw_fm; first | rw [if_pos (by assumption)] | (rw [if_neg (by assumption)]; first | rw [if_pos (by assumption)] | rw [if_neg (by assumption)]), rfl⟩
  · rw [tw_cge'] at h1
    refine tw_sg 1 (i1 := 9) (ls1 := [.int x, .int (nI 4), .int (x - x / nI 4 * nI 4)]) (st1 := [.int (x - x / nI 4 * nI 4)]) (σ1 := σ) rfl ?_
    refine tw_bz (c := .eq) rfl (fun h2 => ?_) (fun h2 => ?_)
    · rw [tw_ceq] at h2
      refine tw_sg 1 (i1 := 15) (ls1 := [.int x, .int (nI 4), .int (x - x / nI 4 * nI 4)]) (st1 := [.int (x - x / nI 4 * nI 4)]) (σ1 := σ) rfl ?_
      refine tw_ri rfl (rfl) ?_
      exact ⟨by unfold tw_fm; first | rw [if_pos (by assumption)] | (rw [if_neg (by assumption)]; first | rw [if_pos (by assumption)] | rw [if_neg (by assumption)]), rfl⟩
    · rw [tw_ceq'] at h2
      refine tw_sg 3 (i1 := 13) (ls1 := [.int x, .int (nI 4), .int (x - x / nI 4 * nI 4)]) (st1 := [.int ((x - x / nI 4 * nI 4) + nI 4)]) (σ1 := σ) rfl ?_
      refine tw_ri rfl (rfl) ?_
      exact ⟨by unfold tw_fm; first | rw [if_pos (by assumption)] | (rw [if_neg (by assumption)]; first | rw [if_pos (by assumption)] | rw [if_neg (by assumption)]), rfl⟩
set_option maxHeartbeats 4000000 in
set_option maxRecDepth 100000 in
theorem tw_e_behind  : tw_E L xs 1 180 [.int x, .int y] σ (fun v σ1 => v = some (.int (tw_fm (x + y))) ∧ σ = σ1) := by
  show tw_P L xs _ 180 0 [.int x, .int y] [] σ _
  refine tw_sg 4 (i1 := 4) (ls1 := [.int x, .int y]) (st1 := [.int (nI 4), .int (x + y)]) (σ1 := σ) rfl ?_
  refine tw_cl1 rfl (rfl) (by decide) (tw_e_fm) ?_
  rintro _ _ ⟨rfl, rfl⟩
  show tw_P L xs _ 180 5 [.int x, .int y] [.int (tw_fm (x + y))] σ _
  refine tw_ri rfl (rfl) ?_
  exact ⟨rfl, rfl⟩
set_option maxHeartbeats 4000000 in
set_option maxRecDepth 100000 in
theorem tw_e_twistBy {p e : Nat} (hc : c < 10) (hp : σ (2 * c + 18) 2 = nI p) (hf : tw_fm (nI p + x) = nI e) : tw_E L xs 2 10 [.ref (2 * c + 18), .int x] σ (fun v σ1 => v = none ∧ tw_upd (tw_upd σ (2 * c + 18) 3 (σ (2 * c + 18) 3 + x)) (2 * c + 18) 2 (nI e) = σ1) := by
  show tw_P L xs _ 10 0 [.ref (2 * c + 18), .int x] [] σ _
  refine tw_sg 2 (i1 := 2) (ls1 := [.ref (2 * c + 18), .int x]) (st1 := [.ref (2 * c + 18), .ref (2 * c + 18)]) (σ1 := σ) rfl ?_
  refine tw_gf rfl (tw_cdO hc) (tw_cdB hc (by decide)) (v := .int (σ (2 * c + 18) 3)) (tw_cdV3 hc) ?_
  refine tw_sg 2 (i1 := 5) (ls1 := [.ref (2 * c + 18), .int x]) (st1 := [.int ((σ (2 * c + 18) 3) + x), .ref (2 * c + 18)]) (σ1 := σ) rfl ?_
  refine tw_pf rfl (tw_cdO hc) (tw_cdB hc (by decide)) (tw_cdK3 hc) ?_
  refine tw_sg 2 (i1 := 8) (ls1 := [.ref (2 * c + 18), .int x]) (st1 := [.ref (2 * c + 18), .ref (2 * c + 18)]) (σ1 := (tw_upd σ (2 * c + 18) 3 ((σ (2 * c + 18) 3) + x))) rfl ?_
  refine tw_gf rfl (tw_cdO hc) (tw_cdB hc (by decide)) (v := .int ((tw_upd σ (2 * c + 18) 3 ((σ (2 * c + 18) 3) + x)) (2 * c + 18) 2)) (tw_cdV2 hc) ?_
  rw [show (tw_upd σ (2 * c + 18) 3 ((σ (2 * c + 18) 3) + x)) (2 * c + 18) 2 = σ (2 * c + 18) 2 from by repeat (first | exact rfl | exact tw_upd_at | rw [tw_upd_off (by omega)]), hp]
  refine tw_sg 1 (i1 := 10) (ls1 := [.ref (2 * c + 18), .int x]) (st1 := [.int x, .int (nI p), .ref (2 * c + 18)]) (σ1 := (tw_upd σ (2 * c + 18) 3 ((σ (2 * c + 18) 3) + x))) rfl ?_
  refine tw_cl1 rfl (rfl) (by decide) (tw_E_mono tw_e_behind (fun v σ1 h => (⟨by rw [h.1, hf], h.2⟩ : v = some (.int (nI e)) ∧ _ = σ1))) ?_
  rintro _ _ ⟨rfl, rfl⟩
  show tw_P L xs _ 10 11 [.ref (2 * c + 18), .int x] [.int (nI e), .ref (2 * c + 18)] (tw_upd σ (2 * c + 18) 3 ((σ (2 * c + 18) 3) + x)) _
  refine tw_pf rfl (tw_cdO hc) (tw_cdB hc (by decide)) (tw_cdK2 hc) ?_
  refine tw_rv rfl ?_
  exact ⟨rfl, rfl⟩
set_option maxRecDepth 100000 in
theorem tw_e_leanBy {t q : Nat} (hc : c < 10) (ht : t < 4) (hq : q < 2) (hs : σ (2 * c + 18) 1 = nI q) : tw_E L xs 0 13 [.ref (2 * c + 18), .int (nI t)] σ (fun v σ1 => v = some (.int (nI (tw_ln t q))) ∧ σ = σ1) := by
  rcases (show t = 0 ∨ t = 1 ∨ t = 2 ∨ t = 3 by omega) with rfl | rfl | rfl | rfl
  all_goals rcases (show q = 0 ∨ q = 1 by omega) with rfl | rfl
  · show tw_P L xs _ 13 0 [.ref (2 * c + 18), .int (nI 0)] [] σ _
    refine tw_sg 1 (i1 := 1) (ls1 := [.ref (2 * c + 18), .int (nI 0)]) (st1 := [.int (nI 0)]) (σ1 := σ) rfl ?_
    refine tw_bzF (c := .ne) rfl (by rw [tw_cne', tw_neq (by omega) (by omega)] <;> omega) ?_
    show tw_P L xs _ 13 2 [.ref (2 * c + 18), .int (nI 0)] [] σ _
    refine tw_sg 1 (i1 := 3) (ls1 := [.ref (2 * c + 18), .int (nI 0)]) (st1 := [.int (nI 0)]) (σ1 := σ) rfl ?_
    refine tw_ri rfl (rfl) ?_
    exact ⟨rfl, rfl⟩
  · show tw_P L xs _ 13 0 [.ref (2 * c + 18), .int (nI 0)] [] σ _
    refine tw_sg 1 (i1 := 1) (ls1 := [.ref (2 * c + 18), .int (nI 0)]) (st1 := [.int (nI 0)]) (σ1 := σ) rfl ?_
    refine tw_bzF (c := .ne) rfl (by rw [tw_cne', tw_neq (by omega) (by omega)] <;> omega) ?_
    show tw_P L xs _ 13 2 [.ref (2 * c + 18), .int (nI 0)] [] σ _
    refine tw_sg 1 (i1 := 3) (ls1 := [.ref (2 * c + 18), .int (nI 0)]) (st1 := [.int (nI 0)]) (σ1 := σ) rfl ?_
    refine tw_ri rfl (rfl) ?_
    exact ⟨rfl, rfl⟩
  · show tw_P L xs _ 13 0 [.ref (2 * c + 18), .int (nI 1)] [] σ _
    refine tw_sg 1 (i1 := 1) (ls1 := [.ref (2 * c + 18), .int (nI 1)]) (st1 := [.int (nI 1)]) (σ1 := σ) rfl ?_
    refine tw_bzT (c := .ne) rfl (by rw [tw_cne, tw_neq (by omega) (by omega)] <;> omega) ?_
    show tw_P L xs _ 13 4 [.ref (2 * c + 18), .int (nI 1)] [] σ _
    refine tw_sg 2 (i1 := 6) (ls1 := [.ref (2 * c + 18), .int (nI 1)]) (st1 := [.int (nI 3), .int (nI 1)]) (σ1 := σ) rfl ?_
    refine tw_biT (c := .ne) rfl (by rw [tw_cne, tw_neq (by omega) (by omega)] <;> omega) ?_
    show tw_P L xs _ 13 9 [.ref (2 * c + 18), .int (nI 1)] [] σ _
    refine tw_sg 2 (i1 := 11) (ls1 := [.ref (2 * c + 18), .int (nI 1)]) (st1 := [.int (nI 1), .int (nI 1)]) (σ1 := σ) rfl ?_
    refine tw_biF (c := .ne) rfl (by rw [tw_cne', tw_neq (by omega) (by omega)] <;> omega) ?_
    show tw_P L xs _ 13 12 [.ref (2 * c + 18), .int (nI 1)] [] σ _
    refine tw_sg 3 (i1 := 16) (ls1 := [.ref (2 * c + 18), .int (nI 1)]) (st1 := [.ref (2 * c + 18), .int (nI 1)]) (σ1 := σ) rfl ?_
    refine tw_gf rfl (tw_cdO hc) (tw_cdB hc (by decide)) (v := .int (σ (2 * c + 18) 1)) (tw_cdV1 hc) ?_
    rw [hs]
    refine tw_bzF (c := .ne) rfl (by rw [tw_cne', tw_neq (by omega) (by omega)] <;> omega) ?_
    show tw_P L xs _ 13 18 [.ref (2 * c + 18), .int (nI 1)] [.int (nI 1)] σ _
    refine tw_sg 2 (i1 := 21) (ls1 := [.ref (2 * c + 18), .int (nI 1)]) (st1 := [.int (nI 1), .int (nI 1)]) (σ1 := σ) rfl ?_
    refine tw_biF (c := .ne) rfl (by rw [tw_cne', tw_neq (by omega) (by omega)] <;> omega) ?_
    show tw_P L xs _ 13 22 [.ref (2 * c + 18), .int (nI 1)] [] σ _
    refine tw_sg 2 (i1 := 25) (ls1 := [.ref (2 * c + 18), .int (nI 1)]) (st1 := [.int (nI 1)]) (σ1 := σ) rfl ?_
    refine tw_ri rfl (rfl) ?_
    exact ⟨rfl, rfl⟩
  · show tw_P L xs _ 13 0 [.ref (2 * c + 18), .int (nI 1)] [] σ _
    refine tw_sg 1 (i1 := 1) (ls1 := [.ref (2 * c + 18), .int (nI 1)]) (st1 := [.int (nI 1)]) (σ1 := σ) rfl ?_
    refine tw_bzT (c := .ne) rfl (by rw [tw_cne, tw_neq (by omega) (by omega)] <;> omega) ?_
    show tw_P L xs _ 13 4 [.ref (2 * c + 18), .int (nI 1)] [] σ _
    refine tw_sg 2 (i1 := 6) (ls1 := [.ref (2 * c + 18), .int (nI 1)]) (st1 := [.int (nI 3), .int (nI 1)]) (σ1 := σ) rfl ?_
    refine tw_biT (c := .ne) rfl (by rw [tw_cne, tw_neq (by omega) (by omega)] <;> omega) ?_
    show tw_P L xs _ 13 9 [.ref (2 * c + 18), .int (nI 1)] [] σ _
    refine tw_sg 2 (i1 := 11) (ls1 := [.ref (2 * c + 18), .int (nI 1)]) (st1 := [.int (nI 1), .int (nI 1)]) (σ1 := σ) rfl ?_
    refine tw_biF (c := .ne) rfl (by rw [tw_cne', tw_neq (by omega) (by omega)] <;> omega) ?_
    show tw_P L xs _ 13 12 [.ref (2 * c + 18), .int (nI 1)] [] σ _
    refine tw_sg 3 (i1 := 16) (ls1 := [.ref (2 * c + 18), .int (nI 1)]) (st1 := [.ref (2 * c + 18), .int (nI 1)]) (σ1 := σ) rfl ?_
    refine tw_gf rfl (tw_cdO hc) (tw_cdB hc (by decide)) (v := .int (σ (2 * c + 18) 1)) (tw_cdV1 hc) ?_
    rw [hs]
    refine tw_bzT (c := .ne) rfl (by rw [tw_cne, tw_neq (by omega) (by omega)] <;> omega) ?_
    show tw_P L xs _ 13 20 [.ref (2 * c + 18), .int (nI 1)] [.int (nI 1)] σ _
    refine tw_sg 1 (i1 := 21) (ls1 := [.ref (2 * c + 18), .int (nI 1)]) (st1 := [.int (nI 0), .int (nI 1)]) (σ1 := σ) rfl ?_
    refine tw_biT (c := .ne) rfl (by rw [tw_cne, tw_neq (by omega) (by omega)] <;> omega) ?_
    show tw_P L xs _ 13 24 [.ref (2 * c + 18), .int (nI 1)] [] σ _
    refine tw_sg 1 (i1 := 25) (ls1 := [.ref (2 * c + 18), .int (nI 1)]) (st1 := [.int (nI 2)]) (σ1 := σ) rfl ?_
    refine tw_ri rfl (rfl) ?_
    exact ⟨rfl, rfl⟩
  · show tw_P L xs _ 13 0 [.ref (2 * c + 18), .int (nI 2)] [] σ _
    refine tw_sg 1 (i1 := 1) (ls1 := [.ref (2 * c + 18), .int (nI 2)]) (st1 := [.int (nI 2)]) (σ1 := σ) rfl ?_
    refine tw_bzT (c := .ne) rfl (by rw [tw_cne, tw_neq (by omega) (by omega)] <;> omega) ?_
    show tw_P L xs _ 13 4 [.ref (2 * c + 18), .int (nI 2)] [] σ _
    refine tw_sg 2 (i1 := 6) (ls1 := [.ref (2 * c + 18), .int (nI 2)]) (st1 := [.int (nI 3), .int (nI 2)]) (σ1 := σ) rfl ?_
    refine tw_biT (c := .ne) rfl (by rw [tw_cne, tw_neq (by omega) (by omega)] <;> omega) ?_
    show tw_P L xs _ 13 9 [.ref (2 * c + 18), .int (nI 2)] [] σ _
    refine tw_sg 2 (i1 := 11) (ls1 := [.ref (2 * c + 18), .int (nI 2)]) (st1 := [.int (nI 1), .int (nI 2)]) (σ1 := σ) rfl ?_
    refine tw_biT (c := .ne) rfl (by rw [tw_cne, tw_neq (by omega) (by omega)] <;> omega) ?_
    show tw_P L xs _ 13 14 [.ref (2 * c + 18), .int (nI 2)] [] σ _
    refine tw_sg 2 (i1 := 16) (ls1 := [.ref (2 * c + 18), .int (nI 2)]) (st1 := [.ref (2 * c + 18), .int (nI 0)]) (σ1 := σ) rfl ?_
    refine tw_gf rfl (tw_cdO hc) (tw_cdB hc (by decide)) (v := .int (σ (2 * c + 18) 1)) (tw_cdV1 hc) ?_
    rw [hs]
    refine tw_bzF (c := .ne) rfl (by rw [tw_cne', tw_neq (by omega) (by omega)] <;> omega) ?_
    show tw_P L xs _ 13 18 [.ref (2 * c + 18), .int (nI 2)] [.int (nI 0)] σ _
    refine tw_sg 2 (i1 := 21) (ls1 := [.ref (2 * c + 18), .int (nI 2)]) (st1 := [.int (nI 1), .int (nI 0)]) (σ1 := σ) rfl ?_
    refine tw_biT (c := .ne) rfl (by rw [tw_cne, tw_neq (by omega) (by omega)] <;> omega) ?_
    show tw_P L xs _ 13 24 [.ref (2 * c + 18), .int (nI 2)] [] σ _
    refine tw_sg 1 (i1 := 25) (ls1 := [.ref (2 * c + 18), .int (nI 2)]) (st1 := [.int (nI 2)]) (σ1 := σ) rfl ?_
    refine tw_ri rfl (rfl) ?_
    exact ⟨rfl, rfl⟩
  · show tw_P L xs _ 13 0 [.ref (2 * c + 18), .int (nI 2)] [] σ _
    refine tw_sg 1 (i1 := 1) (ls1 := [.ref (2 * c + 18), .int (nI 2)]) (st1 := [.int (nI 2)]) (σ1 := σ) rfl ?_
    refine tw_bzT (c := .ne) rfl (by rw [tw_cne, tw_neq (by omega) (by omega)] <;> omega) ?_
    show tw_P L xs _ 13 4 [.ref (2 * c + 18), .int (nI 2)] [] σ _
    refine tw_sg 2 (i1 := 6) (ls1 := [.ref (2 * c + 18), .int (nI 2)]) (st1 := [.int (nI 3), .int (nI 2)]) (σ1 := σ) rfl ?_
    refine tw_biT (c := .ne) rfl (by rw [tw_cne, tw_neq (by omega) (by omega)] <;> omega) ?_
    show tw_P L xs _ 13 9 [.ref (2 * c + 18), .int (nI 2)] [] σ _
    refine tw_sg 2 (i1 := 11) (ls1 := [.ref (2 * c + 18), .int (nI 2)]) (st1 := [.int (nI 1), .int (nI 2)]) (σ1 := σ) rfl ?_
    refine tw_biT (c := .ne) rfl (by rw [tw_cne, tw_neq (by omega) (by omega)] <;> omega) ?_
    show tw_P L xs _ 13 14 [.ref (2 * c + 18), .int (nI 2)] [] σ _
    refine tw_sg 2 (i1 := 16) (ls1 := [.ref (2 * c + 18), .int (nI 2)]) (st1 := [.ref (2 * c + 18), .int (nI 0)]) (σ1 := σ) rfl ?_
    refine tw_gf rfl (tw_cdO hc) (tw_cdB hc (by decide)) (v := .int (σ (2 * c + 18) 1)) (tw_cdV1 hc) ?_
    rw [hs]
    refine tw_bzT (c := .ne) rfl (by rw [tw_cne, tw_neq (by omega) (by omega)] <;> omega) ?_
    show tw_P L xs _ 13 20 [.ref (2 * c + 18), .int (nI 2)] [.int (nI 0)] σ _
    refine tw_sg 1 (i1 := 21) (ls1 := [.ref (2 * c + 18), .int (nI 2)]) (st1 := [.int (nI 0), .int (nI 0)]) (σ1 := σ) rfl ?_
    refine tw_biF (c := .ne) rfl (by rw [tw_cne', tw_neq (by omega) (by omega)] <;> omega) ?_
    show tw_P L xs _ 13 22 [.ref (2 * c + 18), .int (nI 2)] [] σ _
    refine tw_sg 2 (i1 := 25) (ls1 := [.ref (2 * c + 18), .int (nI 2)]) (st1 := [.int (nI 1)]) (σ1 := σ) rfl ?_
    refine tw_ri rfl (rfl) ?_
    exact ⟨rfl, rfl⟩
  · show tw_P L xs _ 13 0 [.ref (2 * c + 18), .int (nI 3)] [] σ _
    refine tw_sg 1 (i1 := 1) (ls1 := [.ref (2 * c + 18), .int (nI 3)]) (st1 := [.int (nI 3)]) (σ1 := σ) rfl ?_
    refine tw_bzT (c := .ne) rfl (by rw [tw_cne, tw_neq (by omega) (by omega)] <;> omega) ?_
    show tw_P L xs _ 13 4 [.ref (2 * c + 18), .int (nI 3)] [] σ _
    refine tw_sg 2 (i1 := 6) (ls1 := [.ref (2 * c + 18), .int (nI 3)]) (st1 := [.int (nI 3), .int (nI 3)]) (σ1 := σ) rfl ?_
    refine tw_biF (c := .ne) rfl (by rw [tw_cne', tw_neq (by omega) (by omega)] <;> omega) ?_
    show tw_P L xs _ 13 7 [.ref (2 * c + 18), .int (nI 3)] [] σ _
    refine tw_sg 1 (i1 := 8) (ls1 := [.ref (2 * c + 18), .int (nI 3)]) (st1 := [.int (nI 3)]) (σ1 := σ) rfl ?_
    refine tw_ri rfl (rfl) ?_
    exact ⟨rfl, rfl⟩
  · show tw_P L xs _ 13 0 [.ref (2 * c + 18), .int (nI 3)] [] σ _
    refine tw_sg 1 (i1 := 1) (ls1 := [.ref (2 * c + 18), .int (nI 3)]) (st1 := [.int (nI 3)]) (σ1 := σ) rfl ?_
    refine tw_bzT (c := .ne) rfl (by rw [tw_cne, tw_neq (by omega) (by omega)] <;> omega) ?_
    show tw_P L xs _ 13 4 [.ref (2 * c + 18), .int (nI 3)] [] σ _
    refine tw_sg 2 (i1 := 6) (ls1 := [.ref (2 * c + 18), .int (nI 3)]) (st1 := [.int (nI 3), .int (nI 3)]) (σ1 := σ) rfl ?_
    refine tw_biF (c := .ne) rfl (by rw [tw_cne', tw_neq (by omega) (by omega)] <;> omega) ?_
    show tw_P L xs _ 13 7 [.ref (2 * c + 18), .int (nI 3)] [] σ _
    refine tw_sg 1 (i1 := 8) (ls1 := [.ref (2 * c + 18), .int (nI 3)]) (st1 := [.int (nI 3)]) (σ1 := σ) rfl ?_
    refine tw_ri rfl (rfl) ?_
    exact ⟨rfl, rfl⟩
set_option maxHeartbeats 4000000 in
set_option maxRecDepth 100000 in
theorem tw_e_weaveCard {p e e2 t q : Nat} (hr9 : σ 9 3 = nI r) (hr : r < 50) (hc : c < 10) (ht : t < 4) (he : e < 4) (he2 : e2 < 4) (hq : q < 2) (hp : σ (2 * c + 18) 2 = nI p) (hs : σ (2 * c + 18) 1 = nI q) (hf : tw_fm (nI p + tw_gI t) = nI e) (hf2 : tw_fm (nI e + nI 2) = nI e2) : tw_E L xs 4 95 [.ref 6, .int (nI c), .ref (2 * c + 18), .int (nI t)] σ (fun v σ1 => v = none ∧ (tw_upd (tw_upd (tw_upd (tw_upd (tw_upd (tw_upd σ (2 * c + 18) 3 (σ (2 * c + 18) 3 + tw_gI t)) (2 * c + 18) 2 (nI e)) 10 ((r * 10 + c) * 4 + 0) (σ (2 * c + 19) e)) 10 ((r * 10 + c) * 4 + 1) (σ (2 * c + 19) e2)) 10 ((r * 10 + c) * 4 + 2) (nI (tw_ln t q))) 10 ((r * 10 + c) * 4 + 3) (nI t)) = σ1) := by
  show tw_P L xs _ 95 0 [.ref 6, .int (nI c), .ref (2 * c + 18), .int (nI t)] [] σ _
  refine tw_sg 2 (i1 := 2) (ls1 := [.ref 6, .int (nI c), .ref (2 * c + 18), .int (nI t)]) (st1 := [.int (nI t), .ref (2 * c + 18)]) (σ1 := σ) rfl ?_
  refine tw_cl1 rfl (rfl) (by decide) (tw_e_twistOf ht) ?_
  rintro _ _ ⟨rfl, rfl⟩
  show tw_P L xs _ 95 3 [.ref 6, .int (nI c), .ref (2 * c + 18), .int (nI t)] [.int (tw_gI t), .ref (2 * c + 18)] σ _
  refine tw_cl1 rfl (tw_inv_ok (y := 10) (b := 1) (st := [.int (tw_gI t), .ref (2 * c + 18)]) (k := (2 * c + 18)) (r := []) rfl rfl (tw_cdO hc)) (by decide) (tw_e_twistBy (c := c) hc hp hf) ?_
  rintro _ _ ⟨rfl, rfl⟩
  show tw_P L xs _ 95 4 [.ref 6, .int (nI c), .ref (2 * c + 18), .int (nI t)] [] (tw_upd (tw_upd σ (2 * c + 18) 3 (σ (2 * c + 18) 3 + tw_gI t)) (2 * c + 18) 2 (nI e)) _
  refine tw_sg 5 (i1 := 9) (ls1 := [.ref 6, .int (nI c), .ref (2 * c + 18), .int (nI t)]) (st1 := [.ref (2 * c + 18), .int (nI 0), .int (nI c), .ref 9]) (σ1 := (tw_upd (tw_upd σ (2 * c + 18) 3 (σ (2 * c + 18) 3 + tw_gI t)) (2 * c + 18) 2 (nI e))) rfl ?_
  refine tw_cl0 3 rfl (tw_inv_ok (y := 11) (b := 0) (st := [.ref (2 * c + 18), .int (nI 0), .int (nI c), .ref 9]) (k := (2 * c + 18)) (r := [.int (nI 0), .int (nI c), .ref 9]) rfl rfl (tw_cdO hc)) (by decide) ?_
  show tw_P L xs _ 11 0 [.ref (2 * c + 18)] [] (tw_upd (tw_upd σ (2 * c + 18) 3 (σ (2 * c + 18) 3 + tw_gI t)) (2 * c + 18) 2 (nI e)) _
  refine tw_sg 2 (i1 := 2) (ls1 := [.ref (2 * c + 18)]) (st1 := [.ref (2 * c + 18), .ref (2 * c + 18)]) (σ1 := (tw_upd (tw_upd σ (2 * c + 18) 3 (σ (2 * c + 18) 3 + tw_gI t)) (2 * c + 18) 2 (nI e))) rfl ?_
  refine tw_gf rfl (tw_cdO hc) (tw_cdB hc (by decide)) (v := .int ((tw_upd (tw_upd σ (2 * c + 18) 3 (σ (2 * c + 18) 3 + tw_gI t)) (2 * c + 18) 2 (nI e)) (2 * c + 18) 2)) (tw_cdV2 hc) ?_
  rw [show (tw_upd (tw_upd σ (2 * c + 18) 3 (σ (2 * c + 18) 3 + tw_gI t)) (2 * c + 18) 2 (nI e)) (2 * c + 18) 2 = nI e from by repeat (first | exact rfl | exact tw_upd_at | rw [tw_upd_off (by omega)])]
  refine tw_cl1 rfl (tw_inv_ok (y := 1) (b := 1) (st := [.int (nI e), .ref (2 * c + 18)]) (k := (2 * c + 18)) (r := []) rfl rfl (tw_cdO hc)) (by decide) (tw_E_mono (tw_e_colourIn1 (c := c) (h := e) hc (by omega)) (fun v σ1 h => (⟨by rw [h.1]; exact congrArg (fun z => some (Value.int z)) (by repeat (first | exact rfl | rw [tw_upd_off (by omega)])), h.2⟩ : v = some (.int (σ (2 * c + 19) e)) ∧ _ = σ1))) ?_
  rintro _ _ ⟨rfl, rfl⟩
  show tw_P L xs _ 11 4 [.ref (2 * c + 18)] [.int (σ (2 * c + 19) e)] (tw_upd (tw_upd σ (2 * c + 18) 3 (σ (2 * c + 18) 3 + tw_gI t)) (2 * c + 18) 2 (nI e)) _
  refine tw_ri rfl (rfl) ?_
  show tw_P L xs _ 95 10 [.ref 6, .int (nI c), .ref (2 * c + 18), .int (nI t)] [.int (σ (2 * c + 19) e), .int (nI 0), .int (nI c), .ref 9] (tw_upd (tw_upd σ (2 * c + 18) 3 (σ (2 * c + 18) 3 + tw_gI t)) (2 * c + 18) 2 (nI e)) _
  refine tw_cl0 3 rfl (rfl) (by decide) ?_
  show tw_P L xs _ 22 0 [.ref 9, .int (nI c), .int (nI 0), .int (σ (2 * c + 19) e), tw_U] [] (tw_upd (tw_upd σ (2 * c + 18) 3 (σ (2 * c + 18) 3 + tw_gI t)) (2 * c + 18) 2 (nI e)) _
  refine tw_sgn 12 (i1 := 12) (ls0 := [.ref 9, .int (nI c), .int (nI 0), .int (σ (2 * c + 19) e), .int (((((σ 9 3) * nI 10) + nI c) * nI 4) + nI 0)]) (st0 := [.int (((((σ 9 3) * nI 10) + nI c) * nI 4) + nI 0)]) (σ0 := (tw_upd (tw_upd σ (2 * c + 18) 3 (σ (2 * c + 18) 3 + tw_gI t)) (2 * c + 18) 2 (nI e))) (ls1 := [.ref 9, .int (nI c), .int (nI 0), .int (σ (2 * c + 19) e), .int (nI ((((r * 10) + c) * 4) + 0))]) (st1 := [.int (nI ((((r * 10) + c) * 4) + 0))]) (σ1 := (tw_upd (tw_upd σ (2 * c + 18) 3 (σ (2 * c + 18) 3 + tw_gI t)) (2 * c + 18) 2 (nI e))) rfl (by simp only [hr9, tw_nadd, tw_nmul]) (by simp only [hr9, tw_nadd, tw_nmul]) (rfl) ?_
  refine tw_bzF (c := .lt) rfl (by rw [tw_clt', tw_nlt (by omega) (by omega)] <;> omega) ?_
  show tw_P L xs _ 22 13 [.ref 9, .int (nI c), .int (nI 0), .int (σ (2 * c + 19) e), .int (nI ((((r * 10) + c) * 4) + 0))] [] (tw_upd (tw_upd σ (2 * c + 18) 3 (σ (2 * c + 18) 3 + tw_gI t)) (2 * c + 18) 2 (nI e)) _
  refine tw_sg 4 (i1 := 17) (ls1 := [.ref 9, .int (nI c), .int (nI 0), .int (σ (2 * c + 19) e), .int (nI ((((r * 10) + c) * 4) + 0))]) (st1 := [.int (nI 2000), .int (nI ((((r * 10) + c) * 4) + 0))]) (σ1 := (tw_upd (tw_upd σ (2 * c + 18) 3 (σ (2 * c + 18) 3 + tw_gI t)) (2 * c + 18) 2 (nI e))) rfl ?_
  refine tw_biF (c := .ge) rfl (by rw [tw_cge', tw_nle (by omega) (by omega)] <;> omega) ?_
  show tw_P L xs _ 22 18 [.ref 9, .int (nI c), .int (nI 0), .int (σ (2 * c + 19) e), .int (nI ((((r * 10) + c) * 4) + 0))] [] (tw_upd (tw_upd σ (2 * c + 18) 3 (σ (2 * c + 18) 3 + tw_gI t)) (2 * c + 18) 2 (nI e)) _
  refine tw_sg 4 (i1 := 22) (ls1 := [.ref 9, .int (nI c), .int (nI 0), .int (σ (2 * c + 19) e), .int (nI ((((r * 10) + c) * 4) + 0))]) (st1 := [.int (σ (2 * c + 19) e), .int (nI ((((r * 10) + c) * 4) + 0)), .ref 10]) (σ1 := (tw_upd (tw_upd σ (2 * c + 18) 3 (σ (2 * c + 18) 3 + tw_gI t)) (2 * c + 18) 2 (nI e))) rfl ?_
  refine tw_as (k := 10) (j := ((((r * 10) + c) * 4) + 0)) (len := 2000) rfl rfl rfl (rfl) (by omega) (by decide) ?_
  refine tw_rv rfl ?_
  show tw_P L xs _ 95 11 [.ref 6, .int (nI c), .ref (2 * c + 18), .int (nI t)] [] (tw_upd (tw_upd (tw_upd σ (2 * c + 18) 3 (σ (2 * c + 18) 3 + tw_gI t)) (2 * c + 18) 2 (nI e)) 10 ((((r * 10) + c) * 4) + 0) (σ (2 * c + 19) e)) _
  refine tw_sg 5 (i1 := 16) (ls1 := [.ref 6, .int (nI c), .ref (2 * c + 18), .int (nI t)]) (st1 := [.ref (2 * c + 18), .int (nI 1), .int (nI c), .ref 9]) (σ1 := (tw_upd (tw_upd (tw_upd σ (2 * c + 18) 3 (σ (2 * c + 18) 3 + tw_gI t)) (2 * c + 18) 2 (nI e)) 10 ((((r * 10) + c) * 4) + 0) (σ (2 * c + 19) e))) rfl ?_
  refine tw_cl0 3 rfl (tw_inv_ok (y := 12) (b := 0) (st := [.ref (2 * c + 18), .int (nI 1), .int (nI c), .ref 9]) (k := (2 * c + 18)) (r := [.int (nI 1), .int (nI c), .ref 9]) rfl rfl (tw_cdO hc)) (by decide) ?_
  show tw_P L xs _ 12 0 [.ref (2 * c + 18)] [] (tw_upd (tw_upd (tw_upd σ (2 * c + 18) 3 (σ (2 * c + 18) 3 + tw_gI t)) (2 * c + 18) 2 (nI e)) 10 ((((r * 10) + c) * 4) + 0) (σ (2 * c + 19) e)) _
  refine tw_sg 2 (i1 := 2) (ls1 := [.ref (2 * c + 18)]) (st1 := [.ref (2 * c + 18), .ref (2 * c + 18)]) (σ1 := (tw_upd (tw_upd (tw_upd σ (2 * c + 18) 3 (σ (2 * c + 18) 3 + tw_gI t)) (2 * c + 18) 2 (nI e)) 10 ((((r * 10) + c) * 4) + 0) (σ (2 * c + 19) e))) rfl ?_
  refine tw_gf rfl (tw_cdO hc) (tw_cdB hc (by decide)) (v := .int ((tw_upd (tw_upd (tw_upd σ (2 * c + 18) 3 (σ (2 * c + 18) 3 + tw_gI t)) (2 * c + 18) 2 (nI e)) 10 ((((r * 10) + c) * 4) + 0) (σ (2 * c + 19) e)) (2 * c + 18) 2)) (tw_cdV2 hc) ?_
  rw [show (tw_upd (tw_upd (tw_upd σ (2 * c + 18) 3 (σ (2 * c + 18) 3 + tw_gI t)) (2 * c + 18) 2 (nI e)) 10 ((((r * 10) + c) * 4) + 0) (σ (2 * c + 19) e)) (2 * c + 18) 2 = nI e from by repeat (first | exact rfl | exact tw_upd_at | rw [tw_upd_off (by omega)])]
  refine tw_sg 1 (i1 := 4) (ls1 := [.ref (2 * c + 18)]) (st1 := [.int (nI 2), .int (nI e), .ref (2 * c + 18)]) (σ1 := (tw_upd (tw_upd (tw_upd σ (2 * c + 18) 3 (σ (2 * c + 18) 3 + tw_gI t)) (2 * c + 18) 2 (nI e)) 10 ((((r * 10) + c) * 4) + 0) (σ (2 * c + 19) e))) rfl ?_
  refine tw_cl1 rfl (rfl) (by decide) (tw_E_mono tw_e_behind (fun v σ1 h => (⟨by rw [h.1, hf2], h.2⟩ : v = some (.int (nI e2)) ∧ _ = σ1))) ?_
  rintro _ _ ⟨rfl, rfl⟩
  show tw_P L xs _ 12 5 [.ref (2 * c + 18)] [.int (nI e2), .ref (2 * c + 18)] (tw_upd (tw_upd (tw_upd σ (2 * c + 18) 3 (σ (2 * c + 18) 3 + tw_gI t)) (2 * c + 18) 2 (nI e)) 10 ((((r * 10) + c) * 4) + 0) (σ (2 * c + 19) e)) _
  refine tw_cl1 rfl (tw_inv_ok (y := 1) (b := 1) (st := [.int (nI e2), .ref (2 * c + 18)]) (k := (2 * c + 18)) (r := []) rfl rfl (tw_cdO hc)) (by decide) (tw_E_mono (tw_e_colourIn1 (c := c) (h := e2) hc (by omega)) (fun v σ1 h => (⟨by rw [h.1]; exact congrArg (fun z => some (Value.int z)) (by repeat (first | exact rfl | rw [tw_upd_off (by omega)])), h.2⟩ : v = some (.int (σ (2 * c + 19) e2)) ∧ _ = σ1))) ?_
  rintro _ _ ⟨rfl, rfl⟩
  show tw_P L xs _ 12 6 [.ref (2 * c + 18)] [.int (σ (2 * c + 19) e2)] (tw_upd (tw_upd (tw_upd σ (2 * c + 18) 3 (σ (2 * c + 18) 3 + tw_gI t)) (2 * c + 18) 2 (nI e)) 10 ((((r * 10) + c) * 4) + 0) (σ (2 * c + 19) e)) _
  refine tw_ri rfl (rfl) ?_
  show tw_P L xs _ 95 17 [.ref 6, .int (nI c), .ref (2 * c + 18), .int (nI t)] [.int (σ (2 * c + 19) e2), .int (nI 1), .int (nI c), .ref 9] (tw_upd (tw_upd (tw_upd σ (2 * c + 18) 3 (σ (2 * c + 18) 3 + tw_gI t)) (2 * c + 18) 2 (nI e)) 10 ((((r * 10) + c) * 4) + 0) (σ (2 * c + 19) e)) _
  refine tw_cl0 3 rfl (rfl) (by decide) ?_
  show tw_P L xs _ 22 0 [.ref 9, .int (nI c), .int (nI 1), .int (σ (2 * c + 19) e2), tw_U] [] (tw_upd (tw_upd (tw_upd σ (2 * c + 18) 3 (σ (2 * c + 18) 3 + tw_gI t)) (2 * c + 18) 2 (nI e)) 10 ((((r * 10) + c) * 4) + 0) (σ (2 * c + 19) e)) _
  refine tw_sgn 12 (i1 := 12) (ls0 := [.ref 9, .int (nI c), .int (nI 1), .int (σ (2 * c + 19) e2), .int (((((σ 9 3) * nI 10) + nI c) * nI 4) + nI 1)]) (st0 := [.int (((((σ 9 3) * nI 10) + nI c) * nI 4) + nI 1)]) (σ0 := (tw_upd (tw_upd (tw_upd σ (2 * c + 18) 3 (σ (2 * c + 18) 3 + tw_gI t)) (2 * c + 18) 2 (nI e)) 10 ((((r * 10) + c) * 4) + 0) (σ (2 * c + 19) e))) (ls1 := [.ref 9, .int (nI c), .int (nI 1), .int (σ (2 * c + 19) e2), .int (nI ((((r * 10) + c) * 4) + 1))]) (st1 := [.int (nI ((((r * 10) + c) * 4) + 1))]) (σ1 := (tw_upd (tw_upd (tw_upd σ (2 * c + 18) 3 (σ (2 * c + 18) 3 + tw_gI t)) (2 * c + 18) 2 (nI e)) 10 ((((r * 10) + c) * 4) + 0) (σ (2 * c + 19) e))) rfl (by simp only [hr9, tw_nadd, tw_nmul]) (by simp only [hr9, tw_nadd, tw_nmul]) (rfl) ?_
  refine tw_bzF (c := .lt) rfl (by rw [tw_clt', tw_nlt (by omega) (by omega)] <;> omega) ?_
  show tw_P L xs _ 22 13 [.ref 9, .int (nI c), .int (nI 1), .int (σ (2 * c + 19) e2), .int (nI ((((r * 10) + c) * 4) + 1))] [] (tw_upd (tw_upd (tw_upd σ (2 * c + 18) 3 (σ (2 * c + 18) 3 + tw_gI t)) (2 * c + 18) 2 (nI e)) 10 ((((r * 10) + c) * 4) + 0) (σ (2 * c + 19) e)) _
  refine tw_sg 4 (i1 := 17) (ls1 := [.ref 9, .int (nI c), .int (nI 1), .int (σ (2 * c + 19) e2), .int (nI ((((r * 10) + c) * 4) + 1))]) (st1 := [.int (nI 2000), .int (nI ((((r * 10) + c) * 4) + 1))]) (σ1 := (tw_upd (tw_upd (tw_upd σ (2 * c + 18) 3 (σ (2 * c + 18) 3 + tw_gI t)) (2 * c + 18) 2 (nI e)) 10 ((((r * 10) + c) * 4) + 0) (σ (2 * c + 19) e))) rfl ?_
  refine tw_biF (c := .ge) rfl (by rw [tw_cge', tw_nle (by omega) (by omega)] <;> omega) ?_
  show tw_P L xs _ 22 18 [.ref 9, .int (nI c), .int (nI 1), .int (σ (2 * c + 19) e2), .int (nI ((((r * 10) + c) * 4) + 1))] [] (tw_upd (tw_upd (tw_upd σ (2 * c + 18) 3 (σ (2 * c + 18) 3 + tw_gI t)) (2 * c + 18) 2 (nI e)) 10 ((((r * 10) + c) * 4) + 0) (σ (2 * c + 19) e)) _
  refine tw_sg 4 (i1 := 22) (ls1 := [.ref 9, .int (nI c), .int (nI 1), .int (σ (2 * c + 19) e2), .int (nI ((((r * 10) + c) * 4) + 1))]) (st1 := [.int (σ (2 * c + 19) e2), .int (nI ((((r * 10) + c) * 4) + 1)), .ref 10]) (σ1 := (tw_upd (tw_upd (tw_upd σ (2 * c + 18) 3 (σ (2 * c + 18) 3 + tw_gI t)) (2 * c + 18) 2 (nI e)) 10 ((((r * 10) + c) * 4) + 0) (σ (2 * c + 19) e))) rfl ?_
  refine tw_as (k := 10) (j := ((((r * 10) + c) * 4) + 1)) (len := 2000) rfl rfl rfl (rfl) (by omega) (by decide) ?_
  refine tw_rv rfl ?_
  show tw_P L xs _ 95 18 [.ref 6, .int (nI c), .ref (2 * c + 18), .int (nI t)] [] (tw_upd (tw_upd (tw_upd (tw_upd σ (2 * c + 18) 3 (σ (2 * c + 18) 3 + tw_gI t)) (2 * c + 18) 2 (nI e)) 10 ((((r * 10) + c) * 4) + 0) (σ (2 * c + 19) e)) 10 ((((r * 10) + c) * 4) + 1) (σ (2 * c + 19) e2)) _
  refine tw_sg 6 (i1 := 24) (ls1 := [.ref 6, .int (nI c), .ref (2 * c + 18), .int (nI t)]) (st1 := [.int (nI t), .ref (2 * c + 18), .int (nI 2), .int (nI c), .ref 9]) (σ1 := (tw_upd (tw_upd (tw_upd (tw_upd σ (2 * c + 18) 3 (σ (2 * c + 18) 3 + tw_gI t)) (2 * c + 18) 2 (nI e)) 10 ((((r * 10) + c) * 4) + 0) (σ (2 * c + 19) e)) 10 ((((r * 10) + c) * 4) + 1) (σ (2 * c + 19) e2))) rfl ?_
  refine tw_cl1 rfl (tw_inv_ok (y := 13) (b := 1) (st := [.int (nI t), .ref (2 * c + 18), .int (nI 2), .int (nI c), .ref 9]) (k := (2 * c + 18)) (r := [.int (nI 2), .int (nI c), .ref 9]) rfl rfl (tw_cdO hc)) (by decide) (tw_e_leanBy (c := c) hc ht hq (by repeat (first | exact hs | rw [tw_upd_off (by omega)]))) ?_
  rintro _ _ ⟨rfl, rfl⟩
  show tw_P L xs _ 95 25 [.ref 6, .int (nI c), .ref (2 * c + 18), .int (nI t)] [.int (nI (tw_ln t q)), .int (nI 2), .int (nI c), .ref 9] (tw_upd (tw_upd (tw_upd (tw_upd σ (2 * c + 18) 3 (σ (2 * c + 18) 3 + tw_gI t)) (2 * c + 18) 2 (nI e)) 10 ((((r * 10) + c) * 4) + 0) (σ (2 * c + 19) e)) 10 ((((r * 10) + c) * 4) + 1) (σ (2 * c + 19) e2)) _
  refine tw_cl0 3 rfl (rfl) (by decide) ?_
  show tw_P L xs _ 22 0 [.ref 9, .int (nI c), .int (nI 2), .int (nI (tw_ln t q)), tw_U] [] (tw_upd (tw_upd (tw_upd (tw_upd σ (2 * c + 18) 3 (σ (2 * c + 18) 3 + tw_gI t)) (2 * c + 18) 2 (nI e)) 10 ((((r * 10) + c) * 4) + 0) (σ (2 * c + 19) e)) 10 ((((r * 10) + c) * 4) + 1) (σ (2 * c + 19) e2)) _
  refine tw_sgn 12 (i1 := 12) (ls0 := [.ref 9, .int (nI c), .int (nI 2), .int (nI (tw_ln t q)), .int (((((σ 9 3) * nI 10) + nI c) * nI 4) + nI 2)]) (st0 := [.int (((((σ 9 3) * nI 10) + nI c) * nI 4) + nI 2)]) (σ0 := (tw_upd (tw_upd (tw_upd (tw_upd σ (2 * c + 18) 3 (σ (2 * c + 18) 3 + tw_gI t)) (2 * c + 18) 2 (nI e)) 10 ((((r * 10) + c) * 4) + 0) (σ (2 * c + 19) e)) 10 ((((r * 10) + c) * 4) + 1) (σ (2 * c + 19) e2))) (ls1 := [.ref 9, .int (nI c), .int (nI 2), .int (nI (tw_ln t q)), .int (nI ((((r * 10) + c) * 4) + 2))]) (st1 := [.int (nI ((((r * 10) + c) * 4) + 2))]) (σ1 := (tw_upd (tw_upd (tw_upd (tw_upd σ (2 * c + 18) 3 (σ (2 * c + 18) 3 + tw_gI t)) (2 * c + 18) 2 (nI e)) 10 ((((r * 10) + c) * 4) + 0) (σ (2 * c + 19) e)) 10 ((((r * 10) + c) * 4) + 1) (σ (2 * c + 19) e2))) rfl (by simp only [hr9, tw_nadd, tw_nmul]) (by simp only [hr9, tw_nadd, tw_nmul]) (rfl) ?_
  refine tw_bzF (c := .lt) rfl (by rw [tw_clt', tw_nlt (by omega) (by omega)] <;> omega) ?_
  show tw_P L xs _ 22 13 [.ref 9, .int (nI c), .int (nI 2), .int (nI (tw_ln t q)), .int (nI ((((r * 10) + c) * 4) + 2))] [] (tw_upd (tw_upd (tw_upd (tw_upd σ (2 * c + 18) 3 (σ (2 * c + 18) 3 + tw_gI t)) (2 * c + 18) 2 (nI e)) 10 ((((r * 10) + c) * 4) + 0) (σ (2 * c + 19) e)) 10 ((((r * 10) + c) * 4) + 1) (σ (2 * c + 19) e2)) _
  refine tw_sg 4 (i1 := 17) (ls1 := [.ref 9, .int (nI c), .int (nI 2), .int (nI (tw_ln t q)), .int (nI ((((r * 10) + c) * 4) + 2))]) (st1 := [.int (nI 2000), .int (nI ((((r * 10) + c) * 4) + 2))]) (σ1 := (tw_upd (tw_upd (tw_upd (tw_upd σ (2 * c + 18) 3 (σ (2 * c + 18) 3 + tw_gI t)) (2 * c + 18) 2 (nI e)) 10 ((((r * 10) + c) * 4) + 0) (σ (2 * c + 19) e)) 10 ((((r * 10) + c) * 4) + 1) (σ (2 * c + 19) e2))) rfl ?_
  refine tw_biF (c := .ge) rfl (by rw [tw_cge', tw_nle (by omega) (by omega)] <;> omega) ?_
  show tw_P L xs _ 22 18 [.ref 9, .int (nI c), .int (nI 2), .int (nI (tw_ln t q)), .int (nI ((((r * 10) + c) * 4) + 2))] [] (tw_upd (tw_upd (tw_upd (tw_upd σ (2 * c + 18) 3 (σ (2 * c + 18) 3 + tw_gI t)) (2 * c + 18) 2 (nI e)) 10 ((((r * 10) + c) * 4) + 0) (σ (2 * c + 19) e)) 10 ((((r * 10) + c) * 4) + 1) (σ (2 * c + 19) e2)) _
  refine tw_sg 4 (i1 := 22) (ls1 := [.ref 9, .int (nI c), .int (nI 2), .int (nI (tw_ln t q)), .int (nI ((((r * 10) + c) * 4) + 2))]) (st1 := [.int (nI (tw_ln t q)), .int (nI ((((r * 10) + c) * 4) + 2)), .ref 10]) (σ1 := (tw_upd (tw_upd (tw_upd (tw_upd σ (2 * c + 18) 3 (σ (2 * c + 18) 3 + tw_gI t)) (2 * c + 18) 2 (nI e)) 10 ((((r * 10) + c) * 4) + 0) (σ (2 * c + 19) e)) 10 ((((r * 10) + c) * 4) + 1) (σ (2 * c + 19) e2))) rfl ?_
  refine tw_as (k := 10) (j := ((((r * 10) + c) * 4) + 2)) (len := 2000) rfl rfl rfl (rfl) (by omega) (by decide) ?_
  refine tw_rv rfl ?_
  show tw_P L xs _ 95 26 [.ref 6, .int (nI c), .ref (2 * c + 18), .int (nI t)] [] (tw_upd (tw_upd (tw_upd (tw_upd (tw_upd σ (2 * c + 18) 3 (σ (2 * c + 18) 3 + tw_gI t)) (2 * c + 18) 2 (nI e)) 10 ((((r * 10) + c) * 4) + 0) (σ (2 * c + 19) e)) 10 ((((r * 10) + c) * 4) + 1) (σ (2 * c + 19) e2)) 10 ((((r * 10) + c) * 4) + 2) (nI (tw_ln t q))) _
  refine tw_sg 5 (i1 := 31) (ls1 := [.ref 6, .int (nI c), .ref (2 * c + 18), .int (nI t)]) (st1 := [.int (nI t), .int (nI 3), .int (nI c), .ref 9]) (σ1 := (tw_upd (tw_upd (tw_upd (tw_upd (tw_upd σ (2 * c + 18) 3 (σ (2 * c + 18) 3 + tw_gI t)) (2 * c + 18) 2 (nI e)) 10 ((((r * 10) + c) * 4) + 0) (σ (2 * c + 19) e)) 10 ((((r * 10) + c) * 4) + 1) (σ (2 * c + 19) e2)) 10 ((((r * 10) + c) * 4) + 2) (nI (tw_ln t q)))) rfl ?_
  refine tw_cl0 3 rfl (rfl) (by decide) ?_
  show tw_P L xs _ 22 0 [.ref 9, .int (nI c), .int (nI 3), .int (nI t), tw_U] [] (tw_upd (tw_upd (tw_upd (tw_upd (tw_upd σ (2 * c + 18) 3 (σ (2 * c + 18) 3 + tw_gI t)) (2 * c + 18) 2 (nI e)) 10 ((((r * 10) + c) * 4) + 0) (σ (2 * c + 19) e)) 10 ((((r * 10) + c) * 4) + 1) (σ (2 * c + 19) e2)) 10 ((((r * 10) + c) * 4) + 2) (nI (tw_ln t q))) _
  refine tw_sgn 12 (i1 := 12) (ls0 := [.ref 9, .int (nI c), .int (nI 3), .int (nI t), .int (((((σ 9 3) * nI 10) + nI c) * nI 4) + nI 3)]) (st0 := [.int (((((σ 9 3) * nI 10) + nI c) * nI 4) + nI 3)]) (σ0 := (tw_upd (tw_upd (tw_upd (tw_upd (tw_upd σ (2 * c + 18) 3 (σ (2 * c + 18) 3 + tw_gI t)) (2 * c + 18) 2 (nI e)) 10 ((((r * 10) + c) * 4) + 0) (σ (2 * c + 19) e)) 10 ((((r * 10) + c) * 4) + 1) (σ (2 * c + 19) e2)) 10 ((((r * 10) + c) * 4) + 2) (nI (tw_ln t q)))) (ls1 := [.ref 9, .int (nI c), .int (nI 3), .int (nI t), .int (nI ((((r * 10) + c) * 4) + 3))]) (st1 := [.int (nI ((((r * 10) + c) * 4) + 3))]) (σ1 := (tw_upd (tw_upd (tw_upd (tw_upd (tw_upd σ (2 * c + 18) 3 (σ (2 * c + 18) 3 + tw_gI t)) (2 * c + 18) 2 (nI e)) 10 ((((r * 10) + c) * 4) + 0) (σ (2 * c + 19) e)) 10 ((((r * 10) + c) * 4) + 1) (σ (2 * c + 19) e2)) 10 ((((r * 10) + c) * 4) + 2) (nI (tw_ln t q)))) rfl (by simp only [hr9, tw_nadd, tw_nmul]) (by simp only [hr9, tw_nadd, tw_nmul]) (rfl) ?_
  refine tw_bzF (c := .lt) rfl (by rw [tw_clt', tw_nlt (by omega) (by omega)] <;> omega) ?_
  show tw_P L xs _ 22 13 [.ref 9, .int (nI c), .int (nI 3), .int (nI t), .int (nI ((((r * 10) + c) * 4) + 3))] [] (tw_upd (tw_upd (tw_upd (tw_upd (tw_upd σ (2 * c + 18) 3 (σ (2 * c + 18) 3 + tw_gI t)) (2 * c + 18) 2 (nI e)) 10 ((((r * 10) + c) * 4) + 0) (σ (2 * c + 19) e)) 10 ((((r * 10) + c) * 4) + 1) (σ (2 * c + 19) e2)) 10 ((((r * 10) + c) * 4) + 2) (nI (tw_ln t q))) _
  refine tw_sg 4 (i1 := 17) (ls1 := [.ref 9, .int (nI c), .int (nI 3), .int (nI t), .int (nI ((((r * 10) + c) * 4) + 3))]) (st1 := [.int (nI 2000), .int (nI ((((r * 10) + c) * 4) + 3))]) (σ1 := (tw_upd (tw_upd (tw_upd (tw_upd (tw_upd σ (2 * c + 18) 3 (σ (2 * c + 18) 3 + tw_gI t)) (2 * c + 18) 2 (nI e)) 10 ((((r * 10) + c) * 4) + 0) (σ (2 * c + 19) e)) 10 ((((r * 10) + c) * 4) + 1) (σ (2 * c + 19) e2)) 10 ((((r * 10) + c) * 4) + 2) (nI (tw_ln t q)))) rfl ?_
  refine tw_biF (c := .ge) rfl (by rw [tw_cge', tw_nle (by omega) (by omega)] <;> omega) ?_
  show tw_P L xs _ 22 18 [.ref 9, .int (nI c), .int (nI 3), .int (nI t), .int (nI ((((r * 10) + c) * 4) + 3))] [] (tw_upd (tw_upd (tw_upd (tw_upd (tw_upd σ (2 * c + 18) 3 (σ (2 * c + 18) 3 + tw_gI t)) (2 * c + 18) 2 (nI e)) 10 ((((r * 10) + c) * 4) + 0) (σ (2 * c + 19) e)) 10 ((((r * 10) + c) * 4) + 1) (σ (2 * c + 19) e2)) 10 ((((r * 10) + c) * 4) + 2) (nI (tw_ln t q))) _
  refine tw_sg 4 (i1 := 22) (ls1 := [.ref 9, .int (nI c), .int (nI 3), .int (nI t), .int (nI ((((r * 10) + c) * 4) + 3))]) (st1 := [.int (nI t), .int (nI ((((r * 10) + c) * 4) + 3)), .ref 10]) (σ1 := (tw_upd (tw_upd (tw_upd (tw_upd (tw_upd σ (2 * c + 18) 3 (σ (2 * c + 18) 3 + tw_gI t)) (2 * c + 18) 2 (nI e)) 10 ((((r * 10) + c) * 4) + 0) (σ (2 * c + 19) e)) 10 ((((r * 10) + c) * 4) + 1) (σ (2 * c + 19) e2)) 10 ((((r * 10) + c) * 4) + 2) (nI (tw_ln t q)))) rfl ?_
  refine tw_as (k := 10) (j := ((((r * 10) + c) * 4) + 3)) (len := 2000) rfl rfl rfl (rfl) (by omega) (by decide) ?_
  refine tw_rv rfl ?_
  show tw_P L xs _ 95 32 [.ref 6, .int (nI c), .ref (2 * c + 18), .int (nI t)] [] (tw_upd (tw_upd (tw_upd (tw_upd (tw_upd (tw_upd σ (2 * c + 18) 3 (σ (2 * c + 18) 3 + tw_gI t)) (2 * c + 18) 2 (nI e)) 10 ((((r * 10) + c) * 4) + 0) (σ (2 * c + 19) e)) 10 ((((r * 10) + c) * 4) + 1) (σ (2 * c + 19) e2)) 10 ((((r * 10) + c) * 4) + 2) (nI (tw_ln t q))) 10 ((((r * 10) + c) * 4) + 3) (nI t)) _
  refine tw_rv rfl ?_
  exact ⟨rfl, rfl⟩
end tw_s37
