/-! small methods -/
section tw_s21
variable {L : Nat} {xs : Nat → Int32} {σ : tw_Mem} {x y w : Int32}
set_option maxHeartbeats 4000000 in
set_option maxRecDepth 100000 in
theorem tw_e_in  : tw_E L xs 0 182 [.int x, .int y, .int w] σ (fun v σ1 => v = some (.int (if x < y ∨ w < x then nI 0 else nI 1)) ∧ σ1 = σ) := by
  show tw_P L xs _ 182 0 [.int x, .int y, .int w] [] σ _
  refine tw_sg 2 (i1 := 2) (ls1 := [.int x, .int y, .int w]) (st1 := [.int y, .int x]) (σ1 := σ) rfl ?_
  refine tw_bi (c := .lt) rfl (fun h1 => ?_) (fun h1 => ?_)
  · rw [tw_clt] at h1
    refine tw_sg 1 (i1 := 9) (ls1 := [.int x, .int y, .int w]) (st1 := [.int (nI 0)]) (σ1 := σ) rfl ?_
    refine tw_ri rfl (rfl) ?_
    exact ⟨by simp [*], rfl⟩
  · rw [tw_clt'] at h1
    refine tw_sg 2 (i1 := 5) (ls1 := [.int x, .int y, .int w]) (st1 := [.int w, .int x]) (σ1 := σ) rfl ?_
    refine tw_bi (c := .gt) rfl (fun h2 => ?_) (fun h2 => ?_)
    · rw [tw_cgt] at h2
      refine tw_sg 1 (i1 := 9) (ls1 := [.int x, .int y, .int w]) (st1 := [.int (nI 0)]) (σ1 := σ) rfl ?_
      refine tw_ri rfl (rfl) ?_
      exact ⟨by simp [*], rfl⟩
    · rw [tw_cgt'] at h2
      refine tw_sg 2 (i1 := 9) (ls1 := [.int x, .int y, .int w]) (st1 := [.int (nI 1)]) (σ1 := σ) rfl ?_
      refine tw_ri rfl (rfl) ?_
      exact ⟨by simp [*], rfl⟩
set_option maxHeartbeats 4000000 in
set_option maxRecDepth 100000 in
theorem tw_e_isColour  : tw_E L xs 0 177 [.int x] σ (fun v σ1 => v = some (.int (if x < nI 0 ∨ nI 10 ≤ x then nI 0 else nI 1)) ∧ σ1 = σ) := by
  show tw_P L xs _ 177 0 [.int x] [] σ _
  refine tw_sg 1 (i1 := 1) (ls1 := [.int x]) (st1 := [.int x]) (σ1 := σ) rfl ?_
  refine tw_bz (c := .lt) rfl (fun h1 => ?_) (fun h1 => ?_)
  · rw [tw_clt] at h1
    refine tw_sg 1 (i1 := 8) (ls1 := [.int x]) (st1 := [.int (nI 0)]) (σ1 := σ) rfl ?_
    refine tw_ri rfl (rfl) ?_
    exact ⟨by simp [*], rfl⟩
  · rw [tw_clt'] at h1
    refine tw_sg 2 (i1 := 4) (ls1 := [.int x]) (st1 := [.int (nI 10), .int x]) (σ1 := σ) rfl ?_
    refine tw_bi (c := .ge) rfl (fun h2 => ?_) (fun h2 => ?_)
    · rw [tw_cge] at h2
      refine tw_sg 1 (i1 := 8) (ls1 := [.int x]) (st1 := [.int (nI 0)]) (σ1 := σ) rfl ?_
      refine tw_ri rfl (rfl) ?_
      exact ⟨by simp [*], rfl⟩
    · rw [tw_cge'] at h2
      refine tw_sg 2 (i1 := 8) (ls1 := [.int x]) (st1 := [.int (nI 1)]) (σ1 := σ) rfl ?_
      refine tw_ri rfl (rfl) ?_
      exact ⟨by simp [*], rfl⟩
set_option maxHeartbeats 4000000 in
set_option maxRecDepth 100000 in
theorem tw_e_max  : tw_E L xs 0 262 [.int x, .int y] σ (fun v σ1 => v = some (.int (if x < y then y else x)) ∧ σ1 = σ) := by
  show tw_P L xs _ 262 0 [.int x, .int y] [] σ _
  refine tw_sg 2 (i1 := 2) (ls1 := [.int x, .int y]) (st1 := [.int y, .int x]) (σ1 := σ) rfl ?_
  refine tw_bi (c := .lt) rfl (fun h1 => ?_) (fun h1 => ?_)
  · rw [tw_clt] at h1
    refine tw_sg 1 (i1 := 6) (ls1 := [.int x, .int y]) (st1 := [.int y]) (σ1 := σ) rfl ?_
    refine tw_ri rfl (rfl) ?_
    exact ⟨by simp [*], rfl⟩
  · rw [tw_clt'] at h1
    refine tw_sg 2 (i1 := 6) (ls1 := [.int x, .int y]) (st1 := [.int x]) (σ1 := σ) rfl ?_
    refine tw_ri rfl (rfl) ?_
    exact ⟨by simp [*], rfl⟩
end tw_s21
