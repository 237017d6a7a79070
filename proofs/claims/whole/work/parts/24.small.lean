/-! small methods -/
section tw_s24
variable {L : Nat} {xs : Nat → Int32} {σ : tw_Mem} {x y w : Int32} {n r i c k h q a b e : Nat}
set_option maxHeartbeats 4000000 in
set_option maxRecDepth 100000 in
theorem tw_e_in  : tw_E L xs 0 182 [.int x, .int y, .int w] σ (fun v σ1 => v = some (.int (if x < y ∨ w < x then nI 0 else nI 1)) ∧ σ = σ1) := by
  show tw_P L xs _ 182 0 [.int x, .int y, .int w] [] σ _
  refine tw_sg 2 (i1 := 2) (ls1 := [.int x, .int y, .int w]) (st1 := [.int y, .int x]) (σ1 := σ) rfl ?_
  refine tw_bi (c := .lt) rfl (fun h1 => ?_) (fun h1 => ?_)
  · rw [tw_clt] at h1
    refine tw_sg 1 (i1 := 9) (ls1 := [.int x, .int y, .int w]) (st1 := [.int (nI 0)]) (σ1 := σ) rfl ?_
    refine tw_ri rfl (rfl) ?_
    exact ⟨by first | (simp [*]; done) | (split <;> first | rfl | (rename_i g; rcases g with g | g <;> contradiction)), rfl⟩
  · rw [tw_clt'] at h1
    refine tw_sg 2 (i1 := 5) (ls1 := [.int x, .int y, .int w]) (st1 := [.int w, .int x]) (σ1 := σ) rfl ?_
    refine tw_bi (c := .gt) rfl (fun h2 => ?_) (fun h2 => ?_)
    · rw [tw_cgt] at h2
      refine tw_sg 1 (i1 := 9) (ls1 := [.int x, .int y, .int w]) (st1 := [.int (nI 0)]) (σ1 := σ) rfl ?_
      refine tw_ri rfl (rfl) ?_
      exact ⟨by first | (simp [*]; done) | (split <;> first | rfl | (rename_i g; rcases g with g | g <;> contradiction)), rfl⟩
    · rw [tw_cgt'] at h2
      refine tw_sg 2 (i1 := 9) (ls1 := [.int x, .int y, .int w]) (st1 := [.int (nI 1)]) (σ1 := σ) rfl ?_
      refine tw_ri rfl (rfl) ?_
      exact ⟨by first | (simp [*]; done) | (split <;> first | rfl | (rename_i g; rcases g with g | g <;> contradiction)), rfl⟩
set_option maxHeartbeats 4000000 in
set_option maxRecDepth 100000 in
theorem tw_e_in1 (h1 : ¬ x < y) (h2 : ¬ w < x) : tw_E L xs 0 182 [.int x, .int y, .int w] σ (fun v σ1 => v = some (.int (nI 1)) ∧ σ = σ1) := by
  show tw_P L xs _ 182 0 [.int x, .int y, .int w] [] σ _
  refine tw_sg 2 (i1 := 2) (ls1 := [.int x, .int y, .int w]) (st1 := [.int y, .int x]) (σ1 := σ) rfl ?_
  refine tw_biF (c := .lt) rfl (by rw [tw_clt']; exact h1) ?_
  show tw_P L xs _ 182 3 [.int x, .int y, .int w] [] σ _
  refine tw_sg 2 (i1 := 5) (ls1 := [.int x, .int y, .int w]) (st1 := [.int w, .int x]) (σ1 := σ) rfl ?_
  refine tw_biF (c := .gt) rfl (by rw [tw_cgt']; exact h2) ?_
  show tw_P L xs _ 182 6 [.int x, .int y, .int w] [] σ _
  refine tw_sg 2 (i1 := 9) (ls1 := [.int x, .int y, .int w]) (st1 := [.int (nI 1)]) (σ1 := σ) rfl ?_
  refine tw_ri rfl (rfl) ?_
  exact ⟨rfl, rfl⟩
set_option maxHeartbeats 4000000 in
set_option maxRecDepth 100000 in
theorem tw_e_in0a (h1 : x < y) : tw_E L xs 0 182 [.int x, .int y, .int w] σ (fun v σ1 => v = some (.int (nI 0)) ∧ σ = σ1) := by
  show tw_P L xs _ 182 0 [.int x, .int y, .int w] [] σ _
  refine tw_sg 2 (i1 := 2) (ls1 := [.int x, .int y, .int w]) (st1 := [.int y, .int x]) (σ1 := σ) rfl ?_
  refine tw_biT (c := .lt) rfl (by rw [tw_clt]; exact h1) ?_
  show tw_P L xs _ 182 8 [.int x, .int y, .int w] [] σ _
  refine tw_sg 1 (i1 := 9) (ls1 := [.int x, .int y, .int w]) (st1 := [.int (nI 0)]) (σ1 := σ) rfl ?_
  refine tw_ri rfl (rfl) ?_
  exact ⟨rfl, rfl⟩
set_option maxHeartbeats 4000000 in
set_option maxRecDepth 100000 in
theorem tw_e_in0b (h1 : ¬ x < y) (h2 : w < x) : tw_E L xs 0 182 [.int x, .int y, .int w] σ (fun v σ1 => v = some (.int (nI 0)) ∧ σ = σ1) := by
  show tw_P L xs _ 182 0 [.int x, .int y, .int w] [] σ _
  refine tw_sg 2 (i1 := 2) (ls1 := [.int x, .int y, .int w]) (st1 := [.int y, .int x]) (σ1 := σ) rfl ?_
  refine tw_biF (c := .lt) rfl (by rw [tw_clt']; exact h1) ?_
  show tw_P L xs _ 182 3 [.int x, .int y, .int w] [] σ _
  refine tw_sg 2 (i1 := 5) (ls1 := [.int x, .int y, .int w]) (st1 := [.int w, .int x]) (σ1 := σ) rfl ?_
  refine tw_biT (c := .gt) rfl (by rw [tw_cgt]; exact h2) ?_
  show tw_P L xs _ 182 8 [.int x, .int y, .int w] [] σ _
  refine tw_sg 1 (i1 := 9) (ls1 := [.int x, .int y, .int w]) (st1 := [.int (nI 0)]) (σ1 := σ) rfl ?_
  refine tw_ri rfl (rfl) ?_
  exact ⟨rfl, rfl⟩
set_option maxHeartbeats 4000000 in
set_option maxRecDepth 100000 in
theorem tw_e_isColour  : tw_E L xs 0 177 [.int x] σ (fun v σ1 => v = some (.int (if x < nI 0 ∨ nI 10 ≤ x then nI 0 else nI 1)) ∧ σ = σ1) := by
  show tw_P L xs _ 177 0 [.int x] [] σ _
  refine tw_sg 1 (i1 := 1) (ls1 := [.int x]) (st1 := [.int x]) (σ1 := σ) rfl ?_
  refine tw_bz (c := .lt) rfl (fun h1 => ?_) (fun h1 => ?_)
  · rw [tw_clt] at h1
    refine tw_sg 1 (i1 := 8) (ls1 := [.int x]) (st1 := [.int (nI 0)]) (σ1 := σ) rfl ?_
    refine tw_ri rfl (rfl) ?_
    exact ⟨by first | (simp [*]; done) | (split <;> first | rfl | (rename_i g; rcases g with g | g <;> contradiction)), rfl⟩
  · rw [tw_clt'] at h1
    refine tw_sg 2 (i1 := 4) (ls1 := [.int x]) (st1 := [.int (nI 10), .int x]) (σ1 := σ) rfl ?_
    refine tw_bi (c := .ge) rfl (fun h2 => ?_) (fun h2 => ?_)
    · rw [tw_cge] at h2
      refine tw_sg 1 (i1 := 8) (ls1 := [.int x]) (st1 := [.int (nI 0)]) (σ1 := σ) rfl ?_
      refine tw_ri rfl (rfl) ?_
      exact ⟨by first | (simp [*]; done) | (split <;> first | rfl | (rename_i g; rcases g with g | g <;> contradiction)), rfl⟩
    · rw [tw_cge'] at h2
      refine tw_sg 2 (i1 := 8) (ls1 := [.int x]) (st1 := [.int (nI 1)]) (σ1 := σ) rfl ?_
      refine tw_ri rfl (rfl) ?_
      exact ⟨by first | (simp [*]; done) | (split <;> first | rfl | (rename_i g; rcases g with g | g <;> contradiction)), rfl⟩
set_option maxHeartbeats 4000000 in
set_option maxRecDepth 100000 in
theorem tw_e_isTurning  : tw_E L xs 0 178 [.int x] σ (fun v σ1 => v = some (.int (if x < nI 0 ∨ nI 3 < x then nI 0 else nI 1)) ∧ σ = σ1) := by
  show tw_P L xs _ 178 0 [.int x] [] σ _
  refine tw_sg 1 (i1 := 1) (ls1 := [.int x]) (st1 := [.int x]) (σ1 := σ) rfl ?_
  refine tw_bz (c := .lt) rfl (fun h1 => ?_) (fun h1 => ?_)
  · rw [tw_clt] at h1
    refine tw_sg 1 (i1 := 8) (ls1 := [.int x]) (st1 := [.int (nI 0)]) (σ1 := σ) rfl ?_
    refine tw_ri rfl (rfl) ?_
    exact ⟨by first | (simp [*]; done) | (split <;> first | rfl | (rename_i g; rcases g with g | g <;> contradiction)), rfl⟩
  · rw [tw_clt'] at h1
    refine tw_sg 2 (i1 := 4) (ls1 := [.int x]) (st1 := [.int (nI 3), .int x]) (σ1 := σ) rfl ?_
    refine tw_bi (c := .gt) rfl (fun h2 => ?_) (fun h2 => ?_)
    · rw [tw_cgt] at h2
      refine tw_sg 1 (i1 := 8) (ls1 := [.int x]) (st1 := [.int (nI 0)]) (σ1 := σ) rfl ?_
      refine tw_ri rfl (rfl) ?_
      exact ⟨by first | (simp [*]; done) | (split <;> first | rfl | (rename_i g; rcases g with g | g <;> contradiction)), rfl⟩
    · rw [tw_cgt'] at h2
      refine tw_sg 2 (i1 := 8) (ls1 := [.int x]) (st1 := [.int (nI 1)]) (σ1 := σ) rfl ?_
      refine tw_ri rfl (rfl) ?_
      exact ⟨by first | (simp [*]; done) | (split <;> first | rfl | (rename_i g; rcases g with g | g <;> contradiction)), rfl⟩
set_option maxHeartbeats 4000000 in
set_option maxRecDepth 100000 in
theorem tw_e_isTooTwisted  : tw_E L xs 0 181 [.int x] σ (fun v σ1 => v = some (.int (if x < (-99) ∨ ¬ x ≤ nI 99 then nI 1 else nI 0)) ∧ σ = σ1) := by
  show tw_P L xs _ 181 0 [.int x] [] σ _
  refine tw_sg 2 (i1 := 2) (ls1 := [.int x]) (st1 := [.int (-99), .int x]) (σ1 := σ) rfl ?_
  refine tw_bi (c := .lt) rfl (fun h1 => ?_) (fun h1 => ?_)
  · rw [tw_clt] at h1
    refine tw_sg 2 (i1 := 9) (ls1 := [.int x]) (st1 := [.int (nI 1)]) (σ1 := σ) rfl ?_
    refine tw_ri rfl (rfl) ?_
    exact ⟨by first | (simp [*]; done) | (split <;> first | rfl | (rename_i g; rcases g with g | g <;> contradiction)), rfl⟩
  · rw [tw_clt'] at h1
    refine tw_sg 2 (i1 := 5) (ls1 := [.int x]) (st1 := [.int (nI 99), .int x]) (σ1 := σ) rfl ?_
    refine tw_bi (c := .le) rfl (fun h2 => ?_) (fun h2 => ?_)
    · rw [tw_cle] at h2
      refine tw_sg 1 (i1 := 9) (ls1 := [.int x]) (st1 := [.int (nI 0)]) (σ1 := σ) rfl ?_
      refine tw_ri rfl (rfl) ?_
      exact ⟨by first | (simp [*]; done) | (split <;> first | rfl | (rename_i g; rcases g with g | g <;> contradiction)), rfl⟩
    · rw [tw_cle'] at h2
      refine tw_sg 2 (i1 := 9) (ls1 := [.int x]) (st1 := [.int (nI 1)]) (σ1 := σ) rfl ?_
      refine tw_ri rfl (rfl) ?_
      exact ⟨by first | (simp [*]; done) | (split <;> first | rfl | (rename_i g; rcases g with g | g <;> contradiction)), rfl⟩
set_option maxHeartbeats 4000000 in
set_option maxRecDepth 100000 in
theorem tw_e_max  : tw_E L xs 0 262 [.int x, .int y] σ (fun v σ1 => v = some (.int (if x < y then y else x)) ∧ σ = σ1) := by
  show tw_P L xs _ 262 0 [.int x, .int y] [] σ _
  refine tw_sg 2 (i1 := 2) (ls1 := [.int x, .int y]) (st1 := [.int y, .int x]) (σ1 := σ) rfl ?_
  refine tw_bi (c := .lt) rfl (fun h1 => ?_) (fun h1 => ?_)
  · rw [tw_clt] at h1
    refine tw_sg 1 (i1 := 6) (ls1 := [.int x, .int y]) (st1 := [.int y]) (σ1 := σ) rfl ?_
    refine tw_ri rfl (rfl) ?_
    exact ⟨by first | (simp [*]; done) | (split <;> first | rfl | (rename_i g; rcases g with g | g <;> contradiction)), rfl⟩
  · rw [tw_clt'] at h1
    refine tw_sg 2 (i1 := 6) (ls1 := [.int x, .int y]) (st1 := [.int x]) (σ1 := σ) rfl ?_
    refine tw_ri rfl (rfl) ?_
    exact ⟨by first | (simp [*]; done) | (split <;> first | rfl | (rename_i g; rcases g with g | g <;> contradiction)), rfl⟩
set_option maxHeartbeats 4000000 in
set_option maxRecDepth 100000 in
theorem tw_e_min  : tw_E L xs 0 263 [.int x, .int y] σ (fun v σ1 => v = some (.int (if y < x then y else x)) ∧ σ = σ1) := by
  show tw_P L xs _ 263 0 [.int x, .int y] [] σ _
  refine tw_sg 2 (i1 := 2) (ls1 := [.int x, .int y]) (st1 := [.int y, .int x]) (σ1 := σ) rfl ?_
  refine tw_bi (c := .gt) rfl (fun h1 => ?_) (fun h1 => ?_)
  · rw [tw_cgt] at h1
    refine tw_sg 1 (i1 := 6) (ls1 := [.int x, .int y]) (st1 := [.int y]) (σ1 := σ) rfl ?_
    refine tw_ri rfl (rfl) ?_
    exact ⟨by first | (simp [*]; done) | (split <;> first | rfl | (rename_i g; rcases g with g | g <;> contradiction)), rfl⟩
  · rw [tw_cgt'] at h1
    refine tw_sg 2 (i1 := 6) (ls1 := [.int x, .int y]) (st1 := [.int x]) (σ1 := σ) rfl ?_
    refine tw_ri rfl (rfl) ?_
    exact ⟨by first | (simp [*]; done) | (split <;> first | rfl | (rename_i g; rcases g with g | g <;> contradiction)), rfl⟩
set_option maxHeartbeats 4000000 in
set_option maxRecDepth 100000 in
theorem tw_e_abs  : tw_E L xs 0 261 [.int x] σ (fun v σ1 => v = some (.int (if nI 0 ≤ x then x else -x)) ∧ σ = σ1) := by
  show tw_P L xs _ 261 0 [.int x] [] σ _
  refine tw_sg 1 (i1 := 1) (ls1 := [.int x]) (st1 := [.int x]) (σ1 := σ) rfl ?_
  refine tw_bz (c := .ge) rfl (fun h1 => ?_) (fun h1 => ?_)
  · rw [tw_cge] at h1
    refine tw_sg 1 (i1 := 6) (ls1 := [.int x]) (st1 := [.int x]) (σ1 := σ) rfl ?_
    refine tw_ri rfl (rfl) ?_
    exact ⟨by first | (simp [*]; done) | (split <;> first | rfl | (rename_i g; rcases g with g | g <;> contradiction)), rfl⟩
  · rw [tw_cge'] at h1
    refine tw_sg 3 (i1 := 6) (ls1 := [.int x]) (st1 := [.int (-x)]) (σ1 := σ) rfl ?_
    refine tw_ri rfl (rfl) ?_
    exact ⟨by first | (simp [*]; done) | (split <;> first | rfl | (rename_i g; rcases g with g | g <;> contradiction)), rfl⟩
set_option maxHeartbeats 4000000 in
set_option maxRecDepth 100000 in
theorem tw_e_mIsColour  : tw_E L xs 1 186 [.int x] σ (fun v σ1 => v = some (.int (if x < nI 0 ∨ nI 9 < x then nI 0 else nI 1)) ∧ σ = σ1) := by
  show tw_P L xs _ 186 0 [.int x] [] σ _
  refine tw_sg 3 (i1 := 3) (ls1 := [.int x]) (st1 := [.int (nI 9), .int (nI 0), .int x]) (σ1 := σ) rfl ?_
  refine tw_cl1 rfl (rfl) (by decide) (tw_e_in) ?_
  rintro _ _ ⟨rfl, rfl⟩
  show tw_P L xs _ 186 4 [.int x] [.int (if x < nI 0 ∨ nI 9 < x then nI 0 else nI 1)] σ _
  refine tw_ri rfl (by split <;> rfl) ?_
  exact ⟨rfl, rfl⟩
theorem tw_e_maxN {a b : Nat} (ha : a < 2147483648) (hb : b < 2147483648) : tw_E L xs 0 262 [.int (nI a), .int (nI b)] σ (fun v σ1 => v = some (.int (nI (max a b))) ∧ σ = σ1) := by
  refine tw_E_mono tw_e_max (fun v σ1 h => ⟨?_, h.2⟩)
  rw [h.1]
  by_cases h0 : a < b
  · rw [if_pos (by rw [tw_nlt ha hb]; exact h0), Nat.max_eq_right (by omega)]
  · rw [if_neg (by rw [tw_nlt ha hb]; exact h0), Nat.max_eq_left (by omega)]
theorem tw_e_minN {a b : Nat} (ha : a < 2147483648) (hb : b < 2147483648) : tw_E L xs 0 263 [.int (nI a), .int (nI b)] σ (fun v σ1 => v = some (.int (nI (min a b))) ∧ σ = σ1) := by
  refine tw_E_mono tw_e_min (fun v σ1 h => ⟨?_, h.2⟩)
  rw [h.1]
  by_cases h0 : b < a
  · rw [if_pos (by rw [tw_nlt hb ha]; exact h0), Nat.min_eq_right (by omega)]
  · rw [if_neg (by rw [tw_nlt hb ha]; exact h0), Nat.min_eq_left (by omega)]
/-- one less than a number, against any other -/
theorem tw_lt_pred {x : Int32} (hn : n < 2147483648) (hx : ¬ x < nI 0) : (nI n - nI 1 < x) = (nI n ≤ x) := by
  rcases tw_nany x with h | ⟨a, ha, rfl⟩
  · exact absurd h hx
  · by_cases h0 : n = 0
    · subst h0
      have e : nI 0 - nI 1 < nI 0 := by decide
      rw [tw_nle (by decide) ha]
      exact propext ⟨fun _ => Nat.zero_le _, fun _ => tw_neg_lt e ha⟩
    · rw [tw_nsub (by omega), tw_nlt (by omega) ha, tw_nle hn ha]
      exact propext (by omega)
theorem tw_e_inN1 (ha : a < n) (hn : n < 2147483648) : tw_E L xs 0 182 [.int (nI a), .int (nI 0), .int (nI n - nI 1)] σ (fun v σ1 => v = some (.int (nI 1)) ∧ σ = σ1) :=
  tw_e_in1 (tw_nge0 (by omega)) (by rw [tw_lt_pred hn (tw_nge0 (by omega)), tw_nle hn (by omega)]; omega)
theorem tw_e_inN0 (hn : n < 2147483648) (hx : x < nI 0 ∨ (¬ x < nI 0 ∧ nI n ≤ x)) : tw_E L xs 0 182 [.int x, .int (nI 0), .int (nI n - nI 1)] σ (fun v σ1 => v = some (.int (nI 0)) ∧ σ = σ1) := by
  rcases hx with hx | ⟨hx, hy⟩
  · exact tw_e_in0a hx
  · exact tw_e_in0b hx (by rw [tw_lt_pred hn hx]; exact hy)
set_option maxHeartbeats 4000000 in
set_option maxRecDepth 100000 in
theorem tw_e_isCard1 (hn : σ 89 0 = nI n) (hle : n ≤ 10) (ha : a < n) : tw_E L xs 1 184 [.ref 88, .int (nI a)] σ (fun v σ1 => v = some (.int (nI 1)) ∧ σ = σ1) := by
  show tw_P L xs _ 184 0 [.ref 88, .int (nI a)] [] σ _
  refine tw_sg 5 (i1 := 5) (ls1 := [.ref 88, .int (nI a)]) (st1 := [.int (nI 0), .ref 89, .int (nI 0), .int (nI a)]) (σ1 := σ) rfl ?_
  refine tw_al (k := 89) (j := 0) (len := 2) rfl rfl rfl rfl (rfl) (by omega) (by decide) ?_
  rw [hn]
  refine tw_sg 2 (i1 := 8) (ls1 := [.ref 88, .int (nI a)]) (st1 := [.int (nI n - nI 1), .int (nI 0), .int (nI a)]) (σ1 := σ) rfl ?_
  refine tw_cl1 rfl (rfl) (by decide) (tw_e_inN1 ha (by omega)) ?_
  rintro _ _ ⟨rfl, rfl⟩
  show tw_P L xs _ 184 9 [.ref 88, .int (nI a)] [.int (nI 1)] σ _
  refine tw_ri rfl (rfl) ?_
  exact ⟨rfl, rfl⟩
set_option maxHeartbeats 4000000 in
set_option maxRecDepth 100000 in
theorem tw_e_isCard0 (hn : σ 89 0 = nI n) (hle : n ≤ 10) (hx : x < nI 0 ∨ (¬ x < nI 0 ∧ nI n ≤ x)) : tw_E L xs 1 184 [.ref 88, .int x] σ (fun v σ1 => v = some (.int (nI 0)) ∧ σ = σ1) := by
  show tw_P L xs _ 184 0 [.ref 88, .int x] [] σ _
  refine tw_sg 5 (i1 := 5) (ls1 := [.ref 88, .int x]) (st1 := [.int (nI 0), .ref 89, .int (nI 0), .int x]) (σ1 := σ) rfl ?_
  refine tw_al (k := 89) (j := 0) (len := 2) rfl rfl rfl rfl (rfl) (by omega) (by decide) ?_
  rw [hn]
  refine tw_sg 2 (i1 := 8) (ls1 := [.ref 88, .int x]) (st1 := [.int (nI n - nI 1), .int (nI 0), .int x]) (σ1 := σ) rfl ?_
  refine tw_cl1 rfl (rfl) (by decide) (tw_e_inN0 (by omega) hx) ?_
  rintro _ _ ⟨rfl, rfl⟩
  show tw_P L xs _ 184 9 [.ref 88, .int x] [.int (nI 0)] σ _
  refine tw_ri rfl (rfl) ?_
  exact ⟨rfl, rfl⟩
set_option maxHeartbeats 4000000 in
set_option maxRecDepth 100000 in
theorem tw_e_isRow1 (hr : σ 90 0 = nI r) (hle : r ≤ 50) (ha : a < r) : tw_E L xs 1 185 [.ref 88, .int (nI a)] σ (fun v σ1 => v = some (.int (nI 1)) ∧ σ = σ1) := by
  show tw_P L xs _ 185 0 [.ref 88, .int (nI a)] [] σ _
  refine tw_sg 5 (i1 := 5) (ls1 := [.ref 88, .int (nI a)]) (st1 := [.int (nI 0), .ref 90, .int (nI 0), .int (nI a)]) (σ1 := σ) rfl ?_
  refine tw_al (k := 90) (j := 0) (len := 2) rfl rfl rfl rfl (rfl) (by omega) (by decide) ?_
  rw [hr]
  refine tw_sg 2 (i1 := 8) (ls1 := [.ref 88, .int (nI a)]) (st1 := [.int (nI r - nI 1), .int (nI 0), .int (nI a)]) (σ1 := σ) rfl ?_
  refine tw_cl1 rfl (rfl) (by decide) (tw_e_inN1 ha (by omega)) ?_
  rintro _ _ ⟨rfl, rfl⟩
  show tw_P L xs _ 185 9 [.ref 88, .int (nI a)] [.int (nI 1)] σ _
  refine tw_ri rfl (rfl) ?_
  exact ⟨rfl, rfl⟩
set_option maxHeartbeats 4000000 in
set_option maxRecDepth 100000 in
theorem tw_e_isRow0 (hr : σ 90 0 = nI r) (hle : r ≤ 50) (hx : x < nI 0 ∨ (¬ x < nI 0 ∧ nI r ≤ x)) : tw_E L xs 1 185 [.ref 88, .int x] σ (fun v σ1 => v = some (.int (nI 0)) ∧ σ = σ1) := by
  show tw_P L xs _ 185 0 [.ref 88, .int x] [] σ _
  refine tw_sg 5 (i1 := 5) (ls1 := [.ref 88, .int x]) (st1 := [.int (nI 0), .ref 90, .int (nI 0), .int x]) (σ1 := σ) rfl ?_
  refine tw_al (k := 90) (j := 0) (len := 2) rfl rfl rfl rfl (rfl) (by omega) (by decide) ?_
  rw [hr]
  refine tw_sg 2 (i1 := 8) (ls1 := [.ref 88, .int x]) (st1 := [.int (nI r - nI 1), .int (nI 0), .int x]) (σ1 := σ) rfl ?_
  refine tw_cl1 rfl (rfl) (by decide) (tw_e_inN0 (by omega) hx) ?_
  rintro _ _ ⟨rfl, rfl⟩
  show tw_P L xs _ 185 9 [.ref 88, .int x] [.int (nI 0)] σ _
  refine tw_ri rfl (rfl) ?_
  exact ⟨rfl, rfl⟩
set_option maxHeartbeats 4000000 in
set_option maxRecDepth 100000 in
theorem tw_e_hasRow1 (hr : σ 9 3 = nI r) (hle : r ≤ 50) (hi : i < r) : tw_E L xs 0 20 [.ref 9, .int (nI i)] σ (fun v σ1 => v = some (.int (nI 1)) ∧ σ = σ1) := by
  show tw_P L xs _ 20 0 [.ref 9, .int (nI i)] [] σ _
  refine tw_sg 1 (i1 := 1) (ls1 := [.ref 9, .int (nI i)]) (st1 := [.int (nI i)]) (σ1 := σ) rfl ?_
  refine tw_bzF (c := .lt) rfl (by rw [tw_clt', tw_nlt (by omega) (by omega)] <;> omega) ?_
  show tw_P L xs _ 20 2 [.ref 9, .int (nI i)] [] σ _
  refine tw_sgn 3 (i1 := 5) (ls0 := [.ref 9, .int (nI i)]) (st0 := [.int (σ 9 3), .int (nI i)]) (σ0 := σ) (ls1 := [.ref 9, .int (nI i)]) (st1 := [.int (nI r), .int (nI i)]) (σ1 := σ) rfl (rfl) (by simp only [hr, tw_nadd, tw_nmul]) (rfl) ?_
  refine tw_biF (c := .ge) rfl (by rw [tw_cge', tw_nle (by omega) (by omega)] <;> omega) ?_
  show tw_P L xs _ 20 6 [.ref 9, .int (nI i)] [] σ _
  refine tw_sg 2 (i1 := 9) (ls1 := [.ref 9, .int (nI i)]) (st1 := [.int (nI 1)]) (σ1 := σ) rfl ?_
  refine tw_ri rfl (rfl) ?_
  exact ⟨rfl, rfl⟩
set_option maxHeartbeats 4000000 in
set_option maxRecDepth 100000 in
theorem tw_e_hasRow0a (hx : x < nI 0) : tw_E L xs 0 20 [.ref 9, .int x] σ (fun v σ1 => v = some (.int (nI 0)) ∧ σ = σ1) := by
  show tw_P L xs _ 20 0 [.ref 9, .int x] [] σ _
  refine tw_sg 1 (i1 := 1) (ls1 := [.ref 9, .int x]) (st1 := [.int x]) (σ1 := σ) rfl ?_
  refine tw_bzT (c := .lt) rfl (by rw [tw_clt]; exact hx) ?_
  show tw_P L xs _ 20 8 [.ref 9, .int x] [] σ _
  refine tw_sg 1 (i1 := 9) (ls1 := [.ref 9, .int x]) (st1 := [.int (nI 0)]) (σ1 := σ) rfl ?_
  refine tw_ri rfl (rfl) ?_
  exact ⟨rfl, rfl⟩
set_option maxHeartbeats 4000000 in
set_option maxRecDepth 100000 in
theorem tw_e_hasRow0b (hr : σ 9 3 = nI r) (hx : ¬ x < nI 0) (hy : nI r ≤ x) : tw_E L xs 0 20 [.ref 9, .int x] σ (fun v σ1 => v = some (.int (nI 0)) ∧ σ = σ1) := by
  show tw_P L xs _ 20 0 [.ref 9, .int x] [] σ _
  refine tw_sg 1 (i1 := 1) (ls1 := [.ref 9, .int x]) (st1 := [.int x]) (σ1 := σ) rfl ?_
  refine tw_bzF (c := .lt) rfl (by rw [tw_clt']; exact hx) ?_
  show tw_P L xs _ 20 2 [.ref 9, .int x] [] σ _
  refine tw_sgn 3 (i1 := 5) (ls0 := [.ref 9, .int x]) (st0 := [.int (σ 9 3), .int x]) (σ0 := σ) (ls1 := [.ref 9, .int x]) (st1 := [.int (nI r), .int x]) (σ1 := σ) rfl (rfl) (by simp only [hr, tw_nadd, tw_nmul]) (rfl) ?_
  refine tw_biT (c := .ge) rfl (by rw [tw_cge]; exact hy) ?_
  show tw_P L xs _ 20 8 [.ref 9, .int x] [] σ _
  refine tw_sg 1 (i1 := 9) (ls1 := [.ref 9, .int x]) (st1 := [.int (nI 0)]) (σ1 := σ) rfl ?_
  refine tw_ri rfl (rfl) ?_
  exact ⟨rfl, rfl⟩
end tw_s24
