/-! alike, faces, matches -/
section tw_s32
variable {L : Nat} {xs : Nat → Int32} {σ : tw_Mem} {x y w : Int32} {n r i c k h q a b e : Nat}
noncomputable def tw_fd (P : Nat → Prop) : Nat → Nat → Int32 → Int32
  | _, 0, z => z
  | i, f + 1, z => @ite _ (P i) (Classical.propDecidable _) (nI i) (tw_fd P (i + 1) f z)
noncomputable def tw_bl (P : Prop) : Int32 := @ite _ P (Classical.propDecidable _) (nI 1) (nI 0)
theorem tw_fdT {P : Nat → Prop} {i f : Nat} {z : Int32} (h : P i) : tw_fd P i (f + 1) z = nI i := by rw [tw_fd, if_pos h]
theorem tw_fdF {P : Nat → Prop} {i f : Nat} {z : Int32} (h : ¬ P i) : tw_fd P i (f + 1) z = tw_fd P (i + 1) f z := by rw [tw_fd, if_neg h]
theorem tw_blT {P : Prop} (h : P) : tw_bl P = nI 1 := by unfold tw_bl; rw [if_pos h]
theorem tw_blF {P : Prop} (h : ¬ P) : tw_bl P = nI 0 := by unfold tw_bl; rw [if_neg h]
theorem tw_bl0 {P : Prop} (h : tw_bl P = nI 0) : ¬ P := fun q => absurd ((tw_blT q).symm.trans h) (by decide)
theorem tw_bl1 {P : Prop} (h : ¬ tw_bl P = nI 0) : P := Classical.byContradiction fun q => h (tw_blF q)
theorem tw_fd_cg {P P1 : Nat → Prop} {z : Int32} : ∀ (f i : Nat), (∀ j, i ≤ j → j < i + f → (P j ↔ P1 j)) → tw_fd P i f z = tw_fd P1 i f z
  | 0, _, _ => rfl
  | f + 1, i, h => by
    by_cases hp : P i
    · rw [tw_fdT hp, tw_fdT ((h i (by omega) (by omega)).mp hp)]
    · rw [tw_fdF hp, tw_fdF (fun q => hp ((h i (by omega) (by omega)).mpr q)), tw_fd_cg f (i + 1) (fun j h1 h2 => h j (by omega) (by omega))]
theorem tw_bl_cg {P P1 : Prop} (h : P ↔ P1) : tw_bl P = tw_bl P1 := by rw [propext h]
theorem tw_fo_cg {α : Type} {g g1 : Nat → α → α} : ∀ (f i : Nat) (a : α), (∀ j, i ≤ j → j < i + f → ∀ a, g j a = g1 j a) → tw_fo g i f a = tw_fo g1 i f a
  | 0, _, _, _ => rfl
  | f + 1, i, a, h => by rw [tw_fo, tw_fo, h i (by omega) (by omega), tw_fo_cg f (i + 1) _ (fun j h1 h2 => h j (by omega) (by omega))]
/-- places that are alike in a row and another -/
def tw_gEq (w p : Nat → Int32) (i k : Nat) : Nat → Int32 → Int32 := fun c a => if w (10 * i + c) = p (10 * k + c) then a + nI 1 else a
/-- places of a row with a value -/
def tw_gC (w : Nat → Int32) (x : Int32) (i : Nat) : Nat → Int32 → Int32 := fun c a => if w (10 * i + c) = x then a + nI 1 else a
def tw_gCC (w : Nat → Int32) (x : Int32) (n : Nat) : Nat → Int32 → Int32 := fun i a => tw_fo (tw_gC w x i) 0 n a
def tw_gMM (w p : Nat → Int32) (i n : Nat) : Nat → Int32 → Int32 := fun k a => tw_fo (tw_gEq w p (i + k) k) 0 n a
def tw_gRun (w : Nat → Int32) (x : Int32) (c : Nat) : Nat → Int32 × Int32 → Int32 × Int32 := fun i p => if w (10 * i + c) = x then (tw_maxI p.1 (p.2 + nI 1), p.2 + nI 1) else (tw_maxI p.1 (nI 0), nI 0)
def tw_gRm (w : Nat → Int32) (x : Int32) (r : Nat) : Nat → Int32 → Int32 := fun c a => tw_maxI a (tw_fo (tw_gRun w x c) 0 r (nI 0, nI 0)).1
def tw_mir (w : Nat → Int32) (n i : Nat) : Prop := ∀ c, c < n → w (10 * i + c) = w (10 * i + (n - 1 - c))
noncomputable def tw_gMi (w : Nat → Int32) (n : Nat) : Nat → Int32 → Int32 := fun i a => @ite _ (tw_mir w n i) (Classical.propDecidable _) (a + nI 1) a
def tw_alk (w : Nat → Int32) (n p : Nat) (j : Nat) : Prop := tw_fo (tw_gEq w w j (j + p)) 0 n (nI 0) = nI n
def tw_per (w : Nat → Int32) (n r p : Nat) : Prop := ∀ j, j + p < r → tw_alk w n p j
def tw_isF (σ : tw_Mem) (q r n : Nat) (w : Nat → Int32) : Prop := ∀ i, i < r → ∀ c, c < n → σ 10 ((i * 10 + c) * 4 + q) = w (10 * i + c)
theorem tw_e_cellW {q r n i c : Nat} {w : Nat → Int32} {σ : tw_Mem} (hr9 : σ 9 3 = nI r) (hw9 : σ 9 4 = nI n) (h50 : r ≤ 50) (h10 : n ≤ 10) (hF : tw_isF σ q r n w) (hq : q < 4) (hi : i < r) (hc : c < n) : tw_E L xs 2 21 [.ref 9, .int (nI i), .int (nI c), .int (nI q)] σ (fun v σ1 => v = some (.int (w (10 * i + c))) ∧ σ = σ1) :=
  tw_E_mono (tw_e_cell1 hr9 hw9 h50 h10 hi hc hq) (fun v σ1 h => ⟨by rw [h.1, hF i hi c hc], h.2⟩)
set_option maxHeartbeats 4000000 in
set_option maxRecDepth 100000 in
theorem tw_l_sameF {L : Nat} {xs : Nat → Int32} {Q : Option Value → tw_Mem → Prop} {σ : tw_Mem} {r n : Nat} (hr9 : σ 9 3 = nI r) (hw9 : σ 9 4 = nI n) (h50 : r ≤ 50) (h10 : n ≤ 10) {w : Nat → Int32} (hF : tw_isF σ 0 r n w) {i k : Nat} (hi : i < r) (hk : k < r) : ∀ (f c : Nat) (a : Int32), c + f = n → tw_P L xs 3 30 22 [.ref 9, .int (nI i), .int (nI k), .int (tw_fo (tw_gEq w w i k) c f a), .int (nI n)] [] σ Q → tw_P L xs 3 30 4 [.ref 9, .int (nI i), .int (nI k), .int a, .int (nI c)] [] σ Q := by
  intro f
  induction f with
  | zero =>
    intro c a  hf hQ
    have hf : n = c := Eq.symm hf
    subst hf
    refine tw_sgn 3 (i1 := 7) (ls0 := [.ref 9, .int (nI i), .int (nI k), .int a, .int (nI n)]) (st0 := [.int (σ 9 4), .int (nI n)]) (σ0 := σ) (ls1 := [.ref 9, .int (nI i), .int (nI k), .int a, .int (nI n)]) (st1 := [.int (nI n), .int (nI n)]) (σ1 := σ) rfl (rfl) (by simp only [hw9, tw_nadd, tw_nmul]) (rfl) ?_
    refine tw_biT (c := .ge) rfl (by rw [tw_cge, tw_nle (by omega) (by omega)] <;> omega) ?_
    show tw_P L xs _ 30 22 [.ref 9, .int (nI i), .int (nI k), .int a, .int (nI n)] [] σ _
    exact hQ
  | succ f ih =>
    intro c a  hf hQ
    refine tw_sgn 3 (i1 := 7) (ls0 := [.ref 9, .int (nI i), .int (nI k), .int a, .int (nI c)]) (st0 := [.int (σ 9 4), .int (nI c)]) (σ0 := σ) (ls1 := [.ref 9, .int (nI i), .int (nI k), .int a, .int (nI c)]) (st1 := [.int (nI n), .int (nI c)]) (σ1 := σ) rfl (rfl) (by simp only [hw9, tw_nadd, tw_nmul]) (rfl) ?_
    refine tw_biF (c := .ge) rfl (by rw [tw_cge', tw_nle (by omega) (by omega)] <;> omega) ?_
    show tw_P L xs _ 30 8 [.ref 9, .int (nI i), .int (nI k), .int a, .int (nI c)] [] σ _
    refine tw_sg 4 (i1 := 12) (ls1 := [.ref 9, .int (nI i), .int (nI k), .int a, .int (nI c)]) (st1 := [.int (nI 0), .int (nI c), .int (nI i), .ref 9]) (σ1 := σ) rfl ?_
    refine tw_cl1 rfl (rfl) (by decide) (tw_e_cellW hr9 hw9 h50 h10 hF (by decide) (by omega) (by omega)) ?_
    rintro _ _ ⟨rfl, rfl⟩
    show tw_P L xs _ 30 13 [.ref 9, .int (nI i), .int (nI k), .int a, .int (nI c)] [.int (w (10 * i + c))] σ _
    refine tw_sg 4 (i1 := 17) (ls1 := [.ref 9, .int (nI i), .int (nI k), .int a, .int (nI c)]) (st1 := [.int (nI 0), .int (nI c), .int (nI k), .ref 9, .int (w (10 * i + c))]) (σ1 := σ) rfl ?_
    refine tw_cl1 rfl (rfl) (by decide) (tw_e_cellW hr9 hw9 h50 h10 hF (by decide) (by omega) (by omega)) ?_
    rintro _ _ ⟨rfl, rfl⟩
    show tw_P L xs _ 30 18 [.ref 9, .int (nI i), .int (nI k), .int a, .int (nI c)] [.int (w (10 * k + c)), .int (w (10 * i + c))] σ _
    refine tw_bi (c := .ne) rfl (fun h1 => ?_) (fun h1 => ?_)
    · rw [tw_cne] at h1
      refine tw_sgn 2 (i1 := 4) (ls0 := [.ref 9, .int (nI i), .int (nI k), .int a, .int (nI c + nI 1)]) (st0 := []) (σ0 := σ) (ls1 := [.ref 9, .int (nI i), .int (nI k), .int a, .int (nI (c + 1))]) (st1 := []) (σ1 := σ) rfl (by simp only [tw_nadd, tw_nmul]) (rfl) (rfl) ?_
      have e : (tw_gEq w w i k) c a = a := by
        unfold tw_gEq
        first | rw [if_pos (by assumption)] | rw [if_neg (by assumption)]
      rw [tw_fo, e] at hQ
      exact ih (c + 1) _ (by omega) hQ
    · rw [tw_cne'] at h1
      refine tw_sgn 3 (i1 := 4) (ls0 := [.ref 9, .int (nI i), .int (nI k), .int (a + nI 1), .int (nI c + nI 1)]) (st0 := []) (σ0 := σ) (ls1 := [.ref 9, .int (nI i), .int (nI k), .int (a + nI 1), .int (nI (c + 1))]) (st1 := []) (σ1 := σ) rfl (by simp only [tw_nadd, tw_nmul]) (rfl) (rfl) ?_
      have e : (tw_gEq w w i k) c a = a + nI 1 := by
        unfold tw_gEq
        first | rw [if_pos (by assumption)] | rw [if_neg (by assumption)]
      rw [tw_fo, e] at hQ
      exact ih (c + 1) _ (by omega) hQ
set_option maxHeartbeats 4000000 in
set_option maxRecDepth 100000 in
theorem tw_e_sameF {r n : Nat} (hr9 : σ 9 3 = nI r) (hw9 : σ 9 4 = nI n) (h50 : r ≤ 50) (h10 : n ≤ 10) {w : Nat → Int32} (hF : tw_isF σ 0 r n w) {i k : Nat} (hi : i < r) (hk : k < r) : tw_E L xs 3 30 [.ref 9, .int (nI i), .int (nI k)] σ (fun v σ1 => v = some (.int (tw_fo (tw_gEq w w i k) 0 n (nI 0))) ∧ σ = σ1) := by
  show tw_P L xs _ 30 0 [.ref 9, .int (nI i), .int (nI k), tw_U, tw_U] [] σ _
  refine tw_sg 4 (i1 := 4) (ls1 := [.ref 9, .int (nI i), .int (nI k), .int (nI 0), .int (nI 0)]) (st1 := []) (σ1 := σ) rfl ?_
  refine tw_l_sameF hr9 hw9 h50 h10 hF hi hk n 0 _ (by omega) ?_
  refine tw_sg 1 (i1 := 23) (ls1 := _) (st1 := [.int (tw_fo (tw_gEq w w i k) 0 n (nI 0))]) (σ1 := σ) rfl ?_
  exact tw_ri rfl rfl ⟨rfl, rfl⟩
set_option maxHeartbeats 4000000 in
set_option maxRecDepth 100000 in
theorem tw_l_alikeIn {L : Nat} {xs : Nat → Int32} {Q : Option Value → tw_Mem → Prop} {σ : tw_Mem} {r n : Nat} (hn89 : σ 89 0 = nI n) (hr90 : σ 90 0 = nI r) (h50 : r ≤ 50) (h10 : n ≤ 10) {i k : Nat} (hi : i < r) (hk : k < r) : ∀ (f c : Nat) (a : Int32), c + f = n → tw_P L xs 0 237 30 [.ref 88, .int (nI i), .int (nI k), .int (tw_fo (tw_gEq (σ 95) (σ 95) i k) c f a), .int (nI n)] [] σ Q → tw_P L xs 0 237 4 [.ref 88, .int (nI i), .int (nI k), .int a, .int (nI c)] [] σ Q := by
  intro f
  induction f with
  | zero =>
    intro c a  hf hQ
    have hf : n = c := Eq.symm hf
    subst hf
    refine tw_sg 4 (i1 := 8) (ls1 := [.ref 88, .int (nI i), .int (nI k), .int a, .int (nI n)]) (st1 := [.int (nI 0), .ref 89, .int (nI n)]) (σ1 := σ) rfl ?_
    refine tw_al (k := 89) (j := 0) (len := 2) rfl rfl rfl rfl (rfl) (by omega) (by decide) ?_
    rw [hn89]
    refine tw_biT (c := .ge) rfl (by rw [tw_cge, tw_nle (by omega) (by omega)] <;> omega) ?_
    show tw_P L xs _ 237 30 [.ref 88, .int (nI i), .int (nI k), .int a, .int (nI n)] [] σ _
    exact hQ
  | succ f ih =>
    intro c a  hf hQ
    refine tw_sg 4 (i1 := 8) (ls1 := [.ref 88, .int (nI i), .int (nI k), .int a, .int (nI c)]) (st1 := [.int (nI 0), .ref 89, .int (nI c)]) (σ1 := σ) rfl ?_
    refine tw_al (k := 89) (j := 0) (len := 2) rfl rfl rfl rfl (rfl) (by omega) (by decide) ?_
    rw [hn89]
    refine tw_biF (c := .ge) rfl (by rw [tw_cge', tw_nle (by omega) (by omega)] <;> omega) ?_
    show tw_P L xs _ 237 10 [.ref 88, .int (nI i), .int (nI k), .int a, .int (nI c)] [] σ _
    refine tw_sgn 7 (i1 := 17) (ls0 := [.ref 88, .int (nI i), .int (nI k), .int a, .int (nI c)]) (st0 := [.int ((nI 10 * nI i) + nI c), .ref 95]) (σ0 := σ) (ls1 := [.ref 88, .int (nI i), .int (nI k), .int a, .int (nI c)]) (st1 := [.int (nI ((10 * i) + c)), .ref 95]) (σ1 := σ) rfl (rfl) (by simp only [tw_nadd, tw_nmul]) (rfl) ?_
    refine tw_al (k := 95) (j := ((10 * i) + c)) (len := 1000) rfl rfl rfl rfl (rfl) (by omega) (by decide) ?_
    refine tw_sgn 7 (i1 := 25) (ls0 := [.ref 88, .int (nI i), .int (nI k), .int a, .int (nI c)]) (st0 := [.int ((nI 10 * nI k) + nI c), .ref 95, .int (σ 95 ((10 * i) + c))]) (σ0 := σ) (ls1 := [.ref 88, .int (nI i), .int (nI k), .int a, .int (nI c)]) (st1 := [.int (nI ((10 * k) + c)), .ref 95, .int (σ 95 ((10 * i) + c))]) (σ1 := σ) rfl (rfl) (by simp only [tw_nadd, tw_nmul]) (rfl) ?_
    refine tw_al (k := 95) (j := ((10 * k) + c)) (len := 1000) rfl rfl rfl rfl (rfl) (by omega) (by decide) ?_
    refine tw_bi (c := .ne) rfl (fun h1 => ?_) (fun h1 => ?_)
    · rw [tw_cne] at h1
      refine tw_sgn 2 (i1 := 4) (ls0 := [.ref 88, .int (nI i), .int (nI k), .int a, .int (nI c + nI 1)]) (st0 := []) (σ0 := σ) (ls1 := [.ref 88, .int (nI i), .int (nI k), .int a, .int (nI (c + 1))]) (st1 := []) (σ1 := σ) rfl (by simp only [tw_nadd, tw_nmul]) (rfl) (rfl) ?_
      have e : (tw_gEq (σ 95) (σ 95) i k) c a = a := by
        unfold tw_gEq
        first | rw [if_pos (by assumption)] | rw [if_neg (by assumption)]
      rw [tw_fo, e] at hQ
      exact ih (c + 1) _ (by omega) hQ
    · rw [tw_cne'] at h1
      refine tw_sgn 3 (i1 := 4) (ls0 := [.ref 88, .int (nI i), .int (nI k), .int (a + nI 1), .int (nI c + nI 1)]) (st0 := []) (σ0 := σ) (ls1 := [.ref 88, .int (nI i), .int (nI k), .int (a + nI 1), .int (nI (c + 1))]) (st1 := []) (σ1 := σ) rfl (by simp only [tw_nadd, tw_nmul]) (rfl) (rfl) ?_
      have e : (tw_gEq (σ 95) (σ 95) i k) c a = a + nI 1 := by
        unfold tw_gEq
        first | rw [if_pos (by assumption)] | rw [if_neg (by assumption)]
      rw [tw_fo, e] at hQ
      exact ih (c + 1) _ (by omega) hQ
set_option maxHeartbeats 4000000 in
set_option maxRecDepth 100000 in
theorem tw_e_alikeIn {r n : Nat} (hn89 : σ 89 0 = nI n) (hr90 : σ 90 0 = nI r) (h50 : r ≤ 50) (h10 : n ≤ 10) {i k : Nat} (hi : i < r) (hk : k < r) : tw_E L xs 0 237 [.ref 88, .int (nI i), .int (nI k)] σ (fun v σ1 => v = some (.int (tw_fo (tw_gEq (σ 95) (σ 95) i k) 0 n (nI 0))) ∧ σ = σ1) := by
  show tw_P L xs _ 237 0 [.ref 88, .int (nI i), .int (nI k), tw_U, tw_U] [] σ _
  refine tw_sg 4 (i1 := 4) (ls1 := [.ref 88, .int (nI i), .int (nI k), .int (nI 0), .int (nI 0)]) (st1 := []) (σ1 := σ) rfl ?_
  refine tw_l_alikeIn hn89 hr90 h50 h10 hi hk n 0 _ (by omega) ?_
  refine tw_sg 1 (i1 := 31) (ls1 := _) (st1 := [.int (tw_fo (tw_gEq (σ 95) (σ 95) i k) 0 n (nI 0))]) (σ1 := σ) rfl ?_
  exact tw_ri rfl rfl ⟨rfl, rfl⟩
set_option maxHeartbeats 4000000 in
set_option maxRecDepth 100000 in
theorem tw_l_sameP {L : Nat} {xs : Nat → Int32} {Q : Option Value → tw_Mem → Prop} {σ : tw_Mem} {r n : Nat} (hr9 : σ 9 3 = nI r) (hw9 : σ 9 4 = nI n) (h50 : r ≤ 50) (h10 : n ≤ 10) {w : Nat → Int32} (hF : tw_isF σ 0 r n w) {p : Nat → Int32} (hG : tw_isF σ 1 r n p) {i : Nat} (hi : i < r) : ∀ (f c : Nat) (a : Int32), c + f = n → tw_P L xs 3 31 22 [.ref 9, .int (nI i), .int (tw_fo (tw_gEq w p i i) c f a), .int (nI n)] [] σ Q → tw_P L xs 3 31 4 [.ref 9, .int (nI i), .int a, .int (nI c)] [] σ Q := by
  intro f
  induction f with
  | zero =>
    intro c a  hf hQ
    have hf : n = c := Eq.symm hf
    subst hf
    refine tw_sgn 3 (i1 := 7) (ls0 := [.ref 9, .int (nI i), .int a, .int (nI n)]) (st0 := [.int (σ 9 4), .int (nI n)]) (σ0 := σ) (ls1 := [.ref 9, .int (nI i), .int a, .int (nI n)]) (st1 := [.int (nI n), .int (nI n)]) (σ1 := σ) rfl (rfl) (by simp only [hw9, tw_nadd, tw_nmul]) (rfl) ?_
    refine tw_biT (c := .ge) rfl (by rw [tw_cge, tw_nle (by omega) (by omega)] <;> omega) ?_
    show tw_P L xs _ 31 22 [.ref 9, .int (nI i), .int a, .int (nI n)] [] σ _
    exact hQ
  | succ f ih =>
    intro c a  hf hQ
    refine tw_sgn 3 (i1 := 7) (ls0 := [.ref 9, .int (nI i), .int a, .int (nI c)]) (st0 := [.int (σ 9 4), .int (nI c)]) (σ0 := σ) (ls1 := [.ref 9, .int (nI i), .int a, .int (nI c)]) (st1 := [.int (nI n), .int (nI c)]) (σ1 := σ) rfl (rfl) (by simp only [hw9, tw_nadd, tw_nmul]) (rfl) ?_
    refine tw_biF (c := .ge) rfl (by rw [tw_cge', tw_nle (by omega) (by omega)] <;> omega) ?_
    show tw_P L xs _ 31 8 [.ref 9, .int (nI i), .int a, .int (nI c)] [] σ _
    refine tw_sg 4 (i1 := 12) (ls1 := [.ref 9, .int (nI i), .int a, .int (nI c)]) (st1 := [.int (nI 0), .int (nI c), .int (nI i), .ref 9]) (σ1 := σ) rfl ?_
    refine tw_cl1 rfl (rfl) (by decide) (tw_e_cellW hr9 hw9 h50 h10 hF (by decide) (by omega) (by omega)) ?_
    rintro _ _ ⟨rfl, rfl⟩
    show tw_P L xs _ 31 13 [.ref 9, .int (nI i), .int a, .int (nI c)] [.int (w (10 * i + c))] σ _
    refine tw_sg 4 (i1 := 17) (ls1 := [.ref 9, .int (nI i), .int a, .int (nI c)]) (st1 := [.int (nI 1), .int (nI c), .int (nI i), .ref 9, .int (w (10 * i + c))]) (σ1 := σ) rfl ?_
    refine tw_cl1 rfl (rfl) (by decide) (tw_e_cellW hr9 hw9 h50 h10 hG (by decide) (by omega) (by omega)) ?_
    rintro _ _ ⟨rfl, rfl⟩
    show tw_P L xs _ 31 18 [.ref 9, .int (nI i), .int a, .int (nI c)] [.int (p (10 * i + c)), .int (w (10 * i + c))] σ _
    refine tw_bi (c := .ne) rfl (fun h1 => ?_) (fun h1 => ?_)
    · rw [tw_cne] at h1
      refine tw_sgn 2 (i1 := 4) (ls0 := [.ref 9, .int (nI i), .int a, .int (nI c + nI 1)]) (st0 := []) (σ0 := σ) (ls1 := [.ref 9, .int (nI i), .int a, .int (nI (c + 1))]) (st1 := []) (σ1 := σ) rfl (by simp only [tw_nadd, tw_nmul]) (rfl) (rfl) ?_
      have e : (tw_gEq w p i i) c a = a := by
        unfold tw_gEq
        first | rw [if_pos (by assumption)] | rw [if_neg (by assumption)]
      rw [tw_fo, e] at hQ
      exact ih (c + 1) _ (by omega) hQ
    · rw [tw_cne'] at h1
      refine tw_sgn 3 (i1 := 4) (ls0 := [.ref 9, .int (nI i), .int (a + nI 1), .int (nI c + nI 1)]) (st0 := []) (σ0 := σ) (ls1 := [.ref 9, .int (nI i), .int (a + nI 1), .int (nI (c + 1))]) (st1 := []) (σ1 := σ) rfl (by simp only [tw_nadd, tw_nmul]) (rfl) (rfl) ?_
      have e : (tw_gEq w p i i) c a = a + nI 1 := by
        unfold tw_gEq
        first | rw [if_pos (by assumption)] | rw [if_neg (by assumption)]
      rw [tw_fo, e] at hQ
      exact ih (c + 1) _ (by omega) hQ
set_option maxHeartbeats 4000000 in
set_option maxRecDepth 100000 in
theorem tw_e_sameP {r n : Nat} (hr9 : σ 9 3 = nI r) (hw9 : σ 9 4 = nI n) (h50 : r ≤ 50) (h10 : n ≤ 10) {w : Nat → Int32} (hF : tw_isF σ 0 r n w) {p : Nat → Int32} (hG : tw_isF σ 1 r n p) {i : Nat} (hi : i < r) : tw_E L xs 3 31 [.ref 9, .int (nI i)] σ (fun v σ1 => v = some (.int (tw_fo (tw_gEq w p i i) 0 n (nI 0))) ∧ σ = σ1) := by
  show tw_P L xs _ 31 0 [.ref 9, .int (nI i), tw_U, tw_U] [] σ _
  refine tw_sg 4 (i1 := 4) (ls1 := [.ref 9, .int (nI i), .int (nI 0), .int (nI 0)]) (st1 := []) (σ1 := σ) rfl ?_
  refine tw_l_sameP hr9 hw9 h50 h10 hF hG hi n 0 _ (by omega) ?_
  refine tw_sg 1 (i1 := 23) (ls1 := _) (st1 := [.int (tw_fo (tw_gEq w p i i) 0 n (nI 0))]) (σ1 := σ) rfl ?_
  exact tw_ri rfl rfl ⟨rfl, rfl⟩
set_option maxHeartbeats 4000000 in
set_option maxRecDepth 100000 in
theorem tw_l_mfaces {L : Nat} {xs : Nat → Int32} {Q : Option Value → tw_Mem → Prop} {σ : tw_Mem} {r n : Nat} (hn89 : σ 89 0 = nI n) (hr90 : σ 90 0 = nI r) (h50 : r ≤ 50) (h10 : n ≤ 10) {i : Nat} (hi : i < r) : ∀ (f c : Nat) (a : Int32), c + f = n → tw_P L xs 0 246 36 [.ref 88, .int (nI i), .int (tw_fo (tw_gEq (σ 95) (σ 96) i i) c f a), .int (nI n)] [] σ Q → tw_P L xs 0 246 10 [.ref 88, .int (nI i), .int a, .int (nI c)] [] σ Q := by
  intro f
  induction f with
  | zero =>
    intro c a  hf hQ
    have hf : n = c := Eq.symm hf
    subst hf
    refine tw_sg 4 (i1 := 14) (ls1 := [.ref 88, .int (nI i), .int a, .int (nI n)]) (st1 := [.int (nI 0), .ref 89, .int (nI n)]) (σ1 := σ) rfl ?_
    refine tw_al (k := 89) (j := 0) (len := 2) rfl rfl rfl rfl (rfl) (by omega) (by decide) ?_
    rw [hn89]
    refine tw_biT (c := .ge) rfl (by rw [tw_cge, tw_nle (by omega) (by omega)] <;> omega) ?_
    show tw_P L xs _ 246 36 [.ref 88, .int (nI i), .int a, .int (nI n)] [] σ _
    exact hQ
  | succ f ih =>
    intro c a  hf hQ
    refine tw_sg 4 (i1 := 14) (ls1 := [.ref 88, .int (nI i), .int a, .int (nI c)]) (st1 := [.int (nI 0), .ref 89, .int (nI c)]) (σ1 := σ) rfl ?_
    refine tw_al (k := 89) (j := 0) (len := 2) rfl rfl rfl rfl (rfl) (by omega) (by decide) ?_
    rw [hn89]
    refine tw_biF (c := .ge) rfl (by rw [tw_cge', tw_nle (by omega) (by omega)] <;> omega) ?_
    show tw_P L xs _ 246 16 [.ref 88, .int (nI i), .int a, .int (nI c)] [] σ _
    refine tw_sgn 7 (i1 := 23) (ls0 := [.ref 88, .int (nI i), .int a, .int (nI c)]) (st0 := [.int ((nI 10 * nI i) + nI c), .ref 95]) (σ0 := σ) (ls1 := [.ref 88, .int (nI i), .int a, .int (nI c)]) (st1 := [.int (nI ((10 * i) + c)), .ref 95]) (σ1 := σ) rfl (rfl) (by simp only [tw_nadd, tw_nmul]) (rfl) ?_
    refine tw_al (k := 95) (j := ((10 * i) + c)) (len := 1000) rfl rfl rfl rfl (rfl) (by omega) (by decide) ?_
    refine tw_sgn 7 (i1 := 31) (ls0 := [.ref 88, .int (nI i), .int a, .int (nI c)]) (st0 := [.int ((nI 10 * nI i) + nI c), .ref 96, .int (σ 95 ((10 * i) + c))]) (σ0 := σ) (ls1 := [.ref 88, .int (nI i), .int a, .int (nI c)]) (st1 := [.int (nI ((10 * i) + c)), .ref 96, .int (σ 95 ((10 * i) + c))]) (σ1 := σ) rfl (rfl) (by simp only [tw_nadd, tw_nmul]) (rfl) ?_
    refine tw_al (k := 96) (j := ((10 * i) + c)) (len := 1000) rfl rfl rfl rfl (rfl) (by omega) (by decide) ?_
    refine tw_bi (c := .ne) rfl (fun h1 => ?_) (fun h1 => ?_)
    · rw [tw_cne] at h1
      refine tw_sgn 2 (i1 := 10) (ls0 := [.ref 88, .int (nI i), .int a, .int (nI c + nI 1)]) (st0 := []) (σ0 := σ) (ls1 := [.ref 88, .int (nI i), .int a, .int (nI (c + 1))]) (st1 := []) (σ1 := σ) rfl (by simp only [tw_nadd, tw_nmul]) (rfl) (rfl) ?_
      have e : (tw_gEq (σ 95) (σ 96) i i) c a = a := by
        unfold tw_gEq
        first | rw [if_pos (by assumption)] | rw [if_neg (by assumption)]
      rw [tw_fo, e] at hQ
      exact ih (c + 1) _ (by omega) hQ
    · rw [tw_cne'] at h1
      refine tw_sgn 3 (i1 := 10) (ls0 := [.ref 88, .int (nI i), .int (a + nI 1), .int (nI c + nI 1)]) (st0 := []) (σ0 := σ) (ls1 := [.ref 88, .int (nI i), .int (a + nI 1), .int (nI (c + 1))]) (st1 := []) (σ1 := σ) rfl (by simp only [tw_nadd, tw_nmul]) (rfl) (rfl) ?_
      have e : (tw_gEq (σ 95) (σ 96) i i) c a = a + nI 1 := by
        unfold tw_gEq
        first | rw [if_pos (by assumption)] | rw [if_neg (by assumption)]
      rw [tw_fo, e] at hQ
      exact ih (c + 1) _ (by omega) hQ
theorem tw_isF0 {σ : tw_Mem} {n r : Nat} (h : tw_iRows σ 6 0 n r) : tw_isF σ 0 r n (σ 95) := fun i hi c hc => (h i hi c hc).1
theorem tw_isF1 {σ : tw_Mem} {n r : Nat} (h : tw_iRows σ 6 0 n r) : tw_isF σ 1 r n (σ 96) := fun i hi c hc => (h i hi c hc).2.1
set_option maxHeartbeats 4000000 in
set_option maxRecDepth 100000 in
theorem tw_o_alike {L : Nat} {xs : Nat → Int32} (x : Int32) (y : Int32) : tw_op L xs 165 245 [.int x, .int y] := by
  intro σ hI
  obtain ⟨⟨n, r, hL⟩, hT, hPp, hPc, hLs, hIm, hC14, hC46, hC72⟩ := id hI
  obtain ⟨⟨hn10, hr50⟩, ⟨hn6, hn89⟩, ⟨hr9, hw9, hr90⟩, hCa, hRo, hLa⟩ := hL
  have hn6 : σ 6 4 = nI n := hn6
  have hn89 : σ 89 0 = nI n := hn89
  have hr9 : σ 9 3 = nI r := hr9
  have hw9 : σ 9 4 = nI n := hw9
  have hr90 : σ 90 0 = nI r := hr90
  rcases tw_within x r (by omega) with ⟨i, hi, rfl⟩ | hx
  · rcases tw_within y r (by omega) with ⟨k, hk, rfl⟩ | hy
    · skip
      show tw_P L xs _ 165 0 [.ref 1, .int (nI i), .int (nI k), tw_U] [] σ _
      refine tw_sg 2 (i1 := 2) (ls1 := [.ref 1, .int (nI i), .int (nI k), tw_U]) (st1 := [.ref 6]) (σ1 := σ) rfl ?_
      refine tw_cl0 59 rfl (rfl) (by decide) ?_
      show tw_P L xs _ 83 0 [.ref 6] [] σ _
      refine tw_sg 2 (i1 := 2) (ls1 := [.ref 6]) (st1 := [.ref 9]) (σ1 := σ) rfl ?_
      refine tw_ra rfl ?_
      show tw_P L xs _ 165 3 [.ref 1, .int (nI i), .int (nI k), tw_U] [.ref 9] σ _
      refine tw_sg 3 (i1 := 6) (ls1 := [.ref 1, .int (nI i), .int (nI k), .ref 9]) (st1 := [.int (nI i), .ref 9]) (σ1 := σ) rfl ?_
      refine tw_cl1 rfl (rfl) (by decide) (tw_e_hasRow1 hr9 hr50 hi) ?_
      rintro _ _ ⟨rfl, rfl⟩
      show tw_P L xs _ 165 7 [.ref 1, .int (nI i), .int (nI k), .ref 9] [.int (nI 1)] σ _
      refine tw_bzF (c := .eq) rfl (by rw [tw_ceq', tw_neq (by omega) (by omega)] <;> omega) ?_
      show tw_P L xs _ 165 8 [.ref 1, .int (nI i), .int (nI k), .ref 9] [] σ _
      refine tw_sg 2 (i1 := 10) (ls1 := [.ref 1, .int (nI i), .int (nI k), .ref 9]) (st1 := [.int (nI k), .ref 9]) (σ1 := σ) rfl ?_
      refine tw_cl1 rfl (rfl) (by decide) (tw_e_hasRow1 hr9 hr50 hk) ?_
      rintro _ _ ⟨rfl, rfl⟩
      show tw_P L xs _ 165 11 [.ref 1, .int (nI i), .int (nI k), .ref 9] [.int (nI 1)] σ _
      refine tw_bzF (c := .eq) rfl (by rw [tw_ceq', tw_neq (by omega) (by omega)] <;> omega) ?_
      show tw_P L xs _ 165 12 [.ref 1, .int (nI i), .int (nI k), .ref 9] [] σ _
      refine tw_sg 3 (i1 := 15) (ls1 := [.ref 1, .int (nI i), .int (nI k), .ref 9]) (st1 := [.int (nI k), .int (nI i), .ref 9]) (σ1 := σ) rfl ?_
      refine tw_cl1 rfl (rfl) (by decide) (tw_e_sameF hr9 hw9 hr50 hn10 (tw_isF0 hRo) hi hk) ?_
      rintro _ _ ⟨rfl, rfl⟩
      show tw_P L xs _ 165 16 [.ref 1, .int (nI i), .int (nI k), .ref 9] [.int (tw_fo (tw_gEq (σ 95) (σ 95) i k) 0 n (nI 0))] σ _
      refine tw_sg 1 (i1 := 18) (ls1 := [.ref 1, .int (nI i), .int (nI k), .ref 9]) (st1 := [.int (tw_fo (tw_gEq (σ 95) (σ 95) i k) 0 n (nI 0))]) (σ1 := σ) rfl ?_
      refine tw_ri rfl (rfl) ?_
      refine ⟨_, rfl, ?_⟩
      show tw_P L xs _ 245 0 [.ref 88, .int (nI i), .int (nI k)] [] σ _
      refine tw_sg 2 (i1 := 2) (ls1 := [.ref 88, .int (nI i), .int (nI k)]) (st1 := [.int (nI i), .ref 88]) (σ1 := σ) rfl ?_
      refine tw_cl1 rfl (rfl) (by decide) (tw_e_isRow1 hr90 hr50 hi) ?_
      rintro _ _ ⟨rfl, rfl⟩
      show tw_P L xs _ 245 3 [.ref 88, .int (nI i), .int (nI k)] [.int (nI 1)] σ _
      refine tw_bzF (c := .eq) rfl (by rw [tw_ceq', tw_neq (by omega) (by omega)] <;> omega) ?_
      show tw_P L xs _ 245 4 [.ref 88, .int (nI i), .int (nI k)] [] σ _
      refine tw_sg 2 (i1 := 6) (ls1 := [.ref 88, .int (nI i), .int (nI k)]) (st1 := [.int (nI k), .ref 88]) (σ1 := σ) rfl ?_
      refine tw_cl1 rfl (rfl) (by decide) (tw_e_isRow1 hr90 hr50 hk) ?_
      rintro _ _ ⟨rfl, rfl⟩
      show tw_P L xs _ 245 7 [.ref 88, .int (nI i), .int (nI k)] [.int (nI 1)] σ _
      refine tw_bzF (c := .eq) rfl (by rw [tw_ceq', tw_neq (by omega) (by omega)] <;> omega) ?_
      show tw_P L xs _ 245 8 [.ref 88, .int (nI i), .int (nI k)] [] σ _
      refine tw_sg 3 (i1 := 11) (ls1 := [.ref 88, .int (nI i), .int (nI k)]) (st1 := [.int (nI k), .int (nI i), .ref 88]) (σ1 := σ) rfl ?_
      refine tw_cl1 rfl (rfl) (by decide) (tw_e_alikeIn hn89 hr90 hr50 hn10 hi hk) ?_
      rintro _ _ ⟨rfl, rfl⟩
      show tw_P L xs _ 245 12 [.ref 88, .int (nI i), .int (nI k)] [.int (tw_fo (tw_gEq (σ 95) (σ 95) i k) 0 n (nI 0))] σ _
      refine tw_sg 1 (i1 := 14) (ls1 := [.ref 88, .int (nI i), .int (nI k)]) (st1 := [.int (tw_fo (tw_gEq (σ 95) (σ 95) i k) 0 n (nI 0))]) (σ1 := σ) rfl ?_
      refine tw_ri rfl (rfl) ?_
      exact ⟨rfl, hI⟩
    · skip
      show tw_P L xs _ 165 0 [.ref 1, .int (nI i), .int y, tw_U] [] σ _
      refine tw_sg 2 (i1 := 2) (ls1 := [.ref 1, .int (nI i), .int y, tw_U]) (st1 := [.ref 6]) (σ1 := σ) rfl ?_
      refine tw_cl0 59 rfl (rfl) (by decide) ?_
      show tw_P L xs _ 83 0 [.ref 6] [] σ _
      refine tw_sg 2 (i1 := 2) (ls1 := [.ref 6]) (st1 := [.ref 9]) (σ1 := σ) rfl ?_
      refine tw_ra rfl ?_
      show tw_P L xs _ 165 3 [.ref 1, .int (nI i), .int y, tw_U] [.ref 9] σ _
      refine tw_sg 3 (i1 := 6) (ls1 := [.ref 1, .int (nI i), .int y, .ref 9]) (st1 := [.int (nI i), .ref 9]) (σ1 := σ) rfl ?_
      refine tw_cl1 rfl (rfl) (by decide) (tw_e_hasRow1 hr9 hr50 hi) ?_
      rintro _ _ ⟨rfl, rfl⟩
      show tw_P L xs _ 165 7 [.ref 1, .int (nI i), .int y, .ref 9] [.int (nI 1)] σ _
      refine tw_bzF (c := .eq) rfl (by rw [tw_ceq', tw_neq (by omega) (by omega)] <;> omega) ?_
      show tw_P L xs _ 165 8 [.ref 1, .int (nI i), .int y, .ref 9] [] σ _
      refine tw_sg 2 (i1 := 10) (ls1 := [.ref 1, .int (nI i), .int y, .ref 9]) (st1 := [.int y, .ref 9]) (σ1 := σ) rfl ?_
      refine tw_cl1 rfl (rfl) (by decide) (tw_e_hasRow0 hr9 hy) ?_
      rintro _ _ ⟨rfl, rfl⟩
      show tw_P L xs _ 165 11 [.ref 1, .int (nI i), .int y, .ref 9] [.int (nI 0)] σ _
      refine tw_bzT (c := .eq) rfl (by rw [tw_ceq, tw_neq (by omega) (by omega)] <;> omega) ?_
      show tw_P L xs _ 165 17 [.ref 1, .int (nI i), .int y, .ref 9] [] σ _
      refine tw_sg 1 (i1 := 18) (ls1 := [.ref 1, .int (nI i), .int y, .ref 9]) (st1 := [.int (-1)]) (σ1 := σ) rfl ?_
      refine tw_ri rfl (rfl) ?_
      refine ⟨_, rfl, ?_⟩
      show tw_P L xs _ 245 0 [.ref 88, .int (nI i), .int y] [] σ _
      refine tw_sg 2 (i1 := 2) (ls1 := [.ref 88, .int (nI i), .int y]) (st1 := [.int (nI i), .ref 88]) (σ1 := σ) rfl ?_
      refine tw_cl1 rfl (rfl) (by decide) (tw_e_isRow1 hr90 hr50 hi) ?_
      rintro _ _ ⟨rfl, rfl⟩
      show tw_P L xs _ 245 3 [.ref 88, .int (nI i), .int y] [.int (nI 1)] σ _
      refine tw_bzF (c := .eq) rfl (by rw [tw_ceq', tw_neq (by omega) (by omega)] <;> omega) ?_
      show tw_P L xs _ 245 4 [.ref 88, .int (nI i), .int y] [] σ _
      refine tw_sg 2 (i1 := 6) (ls1 := [.ref 88, .int (nI i), .int y]) (st1 := [.int y, .ref 88]) (σ1 := σ) rfl ?_
      refine tw_cl1 rfl (rfl) (by decide) (tw_e_isRow0 hr90 hr50 hy) ?_
      rintro _ _ ⟨rfl, rfl⟩
      show tw_P L xs _ 245 7 [.ref 88, .int (nI i), .int y] [.int (nI 0)] σ _
      refine tw_bzT (c := .eq) rfl (by rw [tw_ceq, tw_neq (by omega) (by omega)] <;> omega) ?_
      show tw_P L xs _ 245 13 [.ref 88, .int (nI i), .int y] [] σ _
      refine tw_sg 1 (i1 := 14) (ls1 := [.ref 88, .int (nI i), .int y]) (st1 := [.int (-1)]) (σ1 := σ) rfl ?_
      refine tw_ri rfl (rfl) ?_
      exact ⟨rfl, hI⟩
  · skip
    show tw_P L xs _ 165 0 [.ref 1, .int x, .int y, tw_U] [] σ _
    refine tw_sg 2 (i1 := 2) (ls1 := [.ref 1, .int x, .int y, tw_U]) (st1 := [.ref 6]) (σ1 := σ) rfl ?_
    refine tw_cl0 59 rfl (rfl) (by decide) ?_
    show tw_P L xs _ 83 0 [.ref 6] [] σ _
    refine tw_sg 2 (i1 := 2) (ls1 := [.ref 6]) (st1 := [.ref 9]) (σ1 := σ) rfl ?_
    refine tw_ra rfl ?_
    show tw_P L xs _ 165 3 [.ref 1, .int x, .int y, tw_U] [.ref 9] σ _
    refine tw_sg 3 (i1 := 6) (ls1 := [.ref 1, .int x, .int y, .ref 9]) (st1 := [.int x, .ref 9]) (σ1 := σ) rfl ?_
    refine tw_cl1 rfl (rfl) (by decide) (tw_e_hasRow0 hr9 hx) ?_
    rintro _ _ ⟨rfl, rfl⟩
    show tw_P L xs _ 165 7 [.ref 1, .int x, .int y, .ref 9] [.int (nI 0)] σ _
    refine tw_bzT (c := .eq) rfl (by rw [tw_ceq, tw_neq (by omega) (by omega)] <;> omega) ?_
    show tw_P L xs _ 165 17 [.ref 1, .int x, .int y, .ref 9] [] σ _
    refine tw_sg 1 (i1 := 18) (ls1 := [.ref 1, .int x, .int y, .ref 9]) (st1 := [.int (-1)]) (σ1 := σ) rfl ?_
    refine tw_ri rfl (rfl) ?_
    refine ⟨_, rfl, ?_⟩
    show tw_P L xs _ 245 0 [.ref 88, .int x, .int y] [] σ _
    refine tw_sg 2 (i1 := 2) (ls1 := [.ref 88, .int x, .int y]) (st1 := [.int x, .ref 88]) (σ1 := σ) rfl ?_
    refine tw_cl1 rfl (rfl) (by decide) (tw_e_isRow0 hr90 hr50 hx) ?_
    rintro _ _ ⟨rfl, rfl⟩
    show tw_P L xs _ 245 3 [.ref 88, .int x, .int y] [.int (nI 0)] σ _
    refine tw_bzT (c := .eq) rfl (by rw [tw_ceq, tw_neq (by omega) (by omega)] <;> omega) ?_
    show tw_P L xs _ 245 13 [.ref 88, .int x, .int y] [] σ _
    refine tw_sg 1 (i1 := 14) (ls1 := [.ref 88, .int x, .int y]) (st1 := [.int (-1)]) (σ1 := σ) rfl ?_
    refine tw_ri rfl (rfl) ?_
    exact ⟨rfl, hI⟩
set_option maxHeartbeats 4000000 in
set_option maxRecDepth 100000 in
theorem tw_o_faces {L : Nat} {xs : Nat → Int32} (x : Int32) : tw_op L xs 166 246 [.int x] := by
  intro σ hI
  obtain ⟨⟨n, r, hL⟩, hT, hPp, hPc, hLs, hIm, hC14, hC46, hC72⟩ := id hI
  obtain ⟨⟨hn10, hr50⟩, ⟨hn6, hn89⟩, ⟨hr9, hw9, hr90⟩, hCa, hRo, hLa⟩ := hL
  have hn6 : σ 6 4 = nI n := hn6
  have hn89 : σ 89 0 = nI n := hn89
  have hr9 : σ 9 3 = nI r := hr9
  have hw9 : σ 9 4 = nI n := hw9
  have hr90 : σ 90 0 = nI r := hr90
  rcases tw_within x r (by omega) with ⟨i, hi, rfl⟩ | hx
  · skip
    show tw_P L xs _ 166 0 [.ref 1, .int (nI i)] [] σ _
    refine tw_sg 2 (i1 := 2) (ls1 := [.ref 1, .int (nI i)]) (st1 := [.ref 6]) (σ1 := σ) rfl ?_
    refine tw_cl0 59 rfl (rfl) (by decide) ?_
    show tw_P L xs _ 83 0 [.ref 6] [] σ _
    refine tw_sg 2 (i1 := 2) (ls1 := [.ref 6]) (st1 := [.ref 9]) (σ1 := σ) rfl ?_
    refine tw_ra rfl ?_
    show tw_P L xs _ 166 3 [.ref 1, .int (nI i)] [.ref 9] σ _
    refine tw_sg 1 (i1 := 4) (ls1 := [.ref 1, .int (nI i)]) (st1 := [.int (nI i), .ref 9]) (σ1 := σ) rfl ?_
    refine tw_cl1 rfl (rfl) (by decide) (tw_e_hasRow1 hr9 hr50 hi) ?_
    rintro _ _ ⟨rfl, rfl⟩
    show tw_P L xs _ 166 5 [.ref 1, .int (nI i)] [.int (nI 1)] σ _
    refine tw_bzF (c := .eq) rfl (by rw [tw_ceq', tw_neq (by omega) (by omega)] <;> omega) ?_
    show tw_P L xs _ 166 6 [.ref 1, .int (nI i)] [] σ _
    refine tw_sg 2 (i1 := 8) (ls1 := [.ref 1, .int (nI i)]) (st1 := [.ref 6]) (σ1 := σ) rfl ?_
    refine tw_cl0 59 rfl (rfl) (by decide) ?_
    show tw_P L xs _ 83 0 [.ref 6] [] σ _
    refine tw_sg 2 (i1 := 2) (ls1 := [.ref 6]) (st1 := [.ref 9]) (σ1 := σ) rfl ?_
    refine tw_ra rfl ?_
    show tw_P L xs _ 166 9 [.ref 1, .int (nI i)] [.ref 9] σ _
    refine tw_sg 1 (i1 := 10) (ls1 := [.ref 1, .int (nI i)]) (st1 := [.int (nI i), .ref 9]) (σ1 := σ) rfl ?_
    refine tw_cl1 rfl (rfl) (by decide) (tw_e_sameP hr9 hw9 hr50 hn10 (tw_isF0 hRo) (tw_isF1 hRo) hi) ?_
    rintro _ _ ⟨rfl, rfl⟩
    show tw_P L xs _ 166 11 [.ref 1, .int (nI i)] [.int (tw_fo (tw_gEq (σ 95) (σ 96) i i) 0 n (nI 0))] σ _
    refine tw_sg 1 (i1 := 13) (ls1 := [.ref 1, .int (nI i)]) (st1 := [.int (tw_fo (tw_gEq (σ 95) (σ 96) i i) 0 n (nI 0))]) (σ1 := σ) rfl ?_
    refine tw_ri rfl (rfl) ?_
    refine ⟨_, rfl, ?_⟩
    show tw_P L xs _ 246 0 [.ref 88, .int (nI i), tw_U, tw_U] [] σ _
    refine tw_sg 2 (i1 := 2) (ls1 := [.ref 88, .int (nI i), tw_U, tw_U]) (st1 := [.int (nI i), .ref 88]) (σ1 := σ) rfl ?_
    refine tw_cl1 rfl (rfl) (by decide) (tw_e_isRow1 hr90 hr50 hi) ?_
    rintro _ _ ⟨rfl, rfl⟩
    show tw_P L xs _ 246 3 [.ref 88, .int (nI i), tw_U, tw_U] [.int (nI 1)] σ _
    refine tw_bzT (c := .ne) rfl (by rw [tw_cne, tw_neq (by omega) (by omega)] <;> omega) ?_
    show tw_P L xs _ 246 6 [.ref 88, .int (nI i), tw_U, tw_U] [] σ _
    refine tw_sg 4 (i1 := 10) (ls1 := [.ref 88, .int (nI i), .int (nI 0), .int (nI 0)]) (st1 := []) (σ1 := σ) rfl ?_
    refine tw_P_le (d := 0) (tw_l_mfaces hn89 hr90 hr50 hn10 hi n 0 _ (by omega) ?_) (by decide)
    refine tw_sg 1 (i1 := 37) (ls1 := _) (st1 := [.int (tw_fo (tw_gEq (σ 95) (σ 96) i i) 0 n (nI 0))]) (σ1 := σ) rfl ?_
    exact tw_ri rfl rfl ⟨rfl, hI⟩
  · skip
    show tw_P L xs _ 166 0 [.ref 1, .int x] [] σ _
    refine tw_sg 2 (i1 := 2) (ls1 := [.ref 1, .int x]) (st1 := [.ref 6]) (σ1 := σ) rfl ?_
    refine tw_cl0 59 rfl (rfl) (by decide) ?_
    show tw_P L xs _ 83 0 [.ref 6] [] σ _
    refine tw_sg 2 (i1 := 2) (ls1 := [.ref 6]) (st1 := [.ref 9]) (σ1 := σ) rfl ?_
    refine tw_ra rfl ?_
    show tw_P L xs _ 166 3 [.ref 1, .int x] [.ref 9] σ _
    refine tw_sg 1 (i1 := 4) (ls1 := [.ref 1, .int x]) (st1 := [.int x, .ref 9]) (σ1 := σ) rfl ?_
    refine tw_cl1 rfl (rfl) (by decide) (tw_e_hasRow0 hr9 hx) ?_
    rintro _ _ ⟨rfl, rfl⟩
    show tw_P L xs _ 166 5 [.ref 1, .int x] [.int (nI 0)] σ _
    refine tw_bzT (c := .eq) rfl (by rw [tw_ceq, tw_neq (by omega) (by omega)] <;> omega) ?_
    show tw_P L xs _ 166 12 [.ref 1, .int x] [] σ _
    refine tw_sg 1 (i1 := 13) (ls1 := [.ref 1, .int x]) (st1 := [.int (-1)]) (σ1 := σ) rfl ?_
    refine tw_ri rfl (rfl) ?_
    refine ⟨_, rfl, ?_⟩
    show tw_P L xs _ 246 0 [.ref 88, .int x, tw_U, tw_U] [] σ _
    refine tw_sg 2 (i1 := 2) (ls1 := [.ref 88, .int x, tw_U, tw_U]) (st1 := [.int x, .ref 88]) (σ1 := σ) rfl ?_
    refine tw_cl1 rfl (rfl) (by decide) (tw_e_isRow0 hr90 hr50 hx) ?_
    rintro _ _ ⟨rfl, rfl⟩
    show tw_P L xs _ 246 3 [.ref 88, .int x, tw_U, tw_U] [.int (nI 0)] σ _
    refine tw_bzF (c := .ne) rfl (by rw [tw_cne', tw_neq (by omega) (by omega)] <;> omega) ?_
    show tw_P L xs _ 246 4 [.ref 88, .int x, tw_U, tw_U] [] σ _
    refine tw_sg 1 (i1 := 5) (ls1 := [.ref 88, .int x, tw_U, tw_U]) (st1 := [.int (-1)]) (σ1 := σ) rfl ?_
    refine tw_ri rfl (rfl) ?_
    exact ⟨rfl, hI⟩
set_option maxHeartbeats 4000000 in
set_option maxRecDepth 100000 in
theorem tw_e_at1 {h : Nat} (h79 : σ 79 1 = nI h) (h8 : h ≤ 8) {p : Nat → Int32} (hP : ∀ j, j < 10 * h → σ 80 j = p j) {k c : Nat} (hk : k < h) (hc : c < 10) : tw_E L xs 1 116 [.ref 79, .int (nI k), .int (nI c)] σ (fun v σ1 => v = some (.int (p (10 * k + c))) ∧ σ = σ1) := by
  show tw_P L xs _ 116 0 [.ref 79, .int (nI k), .int (nI c), tw_U] [] σ _
  refine tw_sgn 9 (i1 := 9) (ls0 := [.ref 79, .int (nI k), .int (nI c), .int ((nI k * nI 10) + nI c)]) (st0 := [.int (nI c), .int (nI k), .ref 79]) (σ0 := σ) (ls1 := [.ref 79, .int (nI k), .int (nI c), .int (nI ((k * 10) + c))]) (st1 := [.int (nI c), .int (nI k), .ref 79]) (σ1 := σ) rfl (by simp only [tw_nadd, tw_nmul]) (rfl) (rfl) ?_
  refine tw_cl0 0 rfl (rfl) (by decide) ?_
  show tw_P L xs _ 115 0 [.ref 79, .int (nI k), .int (nI c)] [] σ _
  refine tw_sg 1 (i1 := 1) (ls1 := [.ref 79, .int (nI k), .int (nI c)]) (st1 := [.int (nI k)]) (σ1 := σ) rfl ?_
  refine tw_bzF (c := .lt) rfl (by rw [tw_clt', tw_nlt (by omega) (by omega)] <;> omega) ?_
  show tw_P L xs _ 115 2 [.ref 79, .int (nI k), .int (nI c)] [] σ _
  refine tw_sgn 3 (i1 := 5) (ls0 := [.ref 79, .int (nI k), .int (nI c)]) (st0 := [.int (σ 79 1), .int (nI k)]) (σ0 := σ) (ls1 := [.ref 79, .int (nI k), .int (nI c)]) (st1 := [.int (nI h), .int (nI k)]) (σ1 := σ) rfl (rfl) (by simp only [h79, tw_nadd, tw_nmul]) (rfl) ?_
  refine tw_biF (c := .ge) rfl (by rw [tw_cge', tw_nle (by omega) (by omega)] <;> omega) ?_
  show tw_P L xs _ 115 6 [.ref 79, .int (nI k), .int (nI c)] [] σ _
  refine tw_sg 1 (i1 := 7) (ls1 := [.ref 79, .int (nI k), .int (nI c)]) (st1 := [.int (nI c)]) (σ1 := σ) rfl ?_
  refine tw_bzF (c := .lt) rfl (by rw [tw_clt', tw_nlt (by omega) (by omega)] <;> omega) ?_
  show tw_P L xs _ 115 8 [.ref 79, .int (nI k), .int (nI c)] [] σ _
  refine tw_sg 2 (i1 := 10) (ls1 := [.ref 79, .int (nI k), .int (nI c)]) (st1 := [.int (nI 10), .int (nI c)]) (σ1 := σ) rfl ?_
  refine tw_biF (c := .ge) rfl (by rw [tw_cge', tw_nle (by omega) (by omega)] <;> omega) ?_
  show tw_P L xs _ 115 11 [.ref 79, .int (nI k), .int (nI c)] [] σ _
  refine tw_sg 2 (i1 := 14) (ls1 := [.ref 79, .int (nI k), .int (nI c)]) (st1 := [.int (nI 1)]) (σ1 := σ) rfl ?_
  refine tw_ri rfl (rfl) ?_
  show tw_P L xs _ 116 10 [.ref 79, .int (nI k), .int (nI c), .int (nI ((k * 10) + c))] [.int (nI 1)] σ _
  refine tw_bzF (c := .eq) rfl (by rw [tw_ceq', tw_neq (by omega) (by omega)] <;> omega) ?_
  show tw_P L xs _ 116 11 [.ref 79, .int (nI k), .int (nI c), .int (nI ((k * 10) + c))] [] σ _
  refine tw_sg 4 (i1 := 15) (ls1 := [.ref 79, .int (nI k), .int (nI c), .int (nI ((k * 10) + c))]) (st1 := [.int (nI 80), .int (nI ((k * 10) + c))]) (σ1 := σ) rfl ?_
  refine tw_biF (c := .ge) rfl (by rw [tw_cge', tw_nle (by omega) (by omega)] <;> omega) ?_
  show tw_P L xs _ 116 16 [.ref 79, .int (nI k), .int (nI c), .int (nI ((k * 10) + c))] [] σ _
  refine tw_sg 3 (i1 := 19) (ls1 := [.ref 79, .int (nI k), .int (nI c), .int (nI ((k * 10) + c))]) (st1 := [.int (nI ((k * 10) + c)), .ref 80]) (σ1 := σ) rfl ?_
  refine tw_al (k := 80) (j := ((k * 10) + c)) (len := 80) rfl rfl rfl rfl (rfl) (by omega) (by decide) ?_
  refine tw_sg 1 (i1 := 22) (ls1 := [.ref 79, .int (nI k), .int (nI c), .int (nI ((k * 10) + c))]) (st1 := [.int (σ 80 ((k * 10) + c))]) (σ1 := σ) rfl ?_
  refine tw_ri rfl (rfl) ?_
  exact ⟨by rw [show k * 10 + c = 10 * k + c by omega, hP (10 * k + c) (by omega)], rfl⟩
set_option maxHeartbeats 4000000 in
set_option maxRecDepth 100000 in
theorem tw_l_mat1 {L : Nat} {xs : Nat → Int32} {Q : Option Value → tw_Mem → Prop} {σ : tw_Mem} {r n : Nat} (hr9 : σ 9 3 = nI r) (hw9 : σ 9 4 = nI n) (h50 : r ≤ 50) (h10 : n ≤ 10) {w : Nat → Int32} (hF : tw_isF σ 0 r n w) {h : Nat} (h79 : σ 79 1 = nI h) (h8 : h ≤ 8) {p : Nat → Int32} (hP : ∀ j, j < 10 * h → σ 80 j = p j) {i k : Nat} (hi : i + k < r) (hk : k < h) : ∀ (f c : Nat) (a : Int32), c + f = n → tw_P L xs 3 119 35 [.ref 79, .ref 9, .int (nI i), .int (tw_fo (tw_gEq w p (i + k) k) c f a), .int (nI k), .int (nI n)] [] σ Q → tw_P L xs 3 119 16 [.ref 79, .ref 9, .int (nI i), .int a, .int (nI k), .int (nI c)] [] σ Q := by
  intro f
  induction f with
  | zero =>
    intro c a  hf hQ
    have hf : n = c := Eq.symm hf
    subst hf
    refine tw_sg 2 (i1 := 18) (ls1 := [.ref 79, .ref 9, .int (nI i), .int a, .int (nI k), .int (nI n)]) (st1 := [.ref 9, .int (nI n)]) (σ1 := σ) rfl ?_
    refine tw_cl0 2 rfl (rfl) (by decide) ?_
    show tw_P L xs _ 18 0 [.ref 9] [] σ _
    refine tw_sgn 2 (i1 := 2) (ls0 := [.ref 9]) (st0 := [.int (σ 9 4)]) (σ0 := σ) (ls1 := [.ref 9]) (st1 := [.int (nI n)]) (σ1 := σ) rfl (rfl) (by simp only [hw9, tw_nadd, tw_nmul]) (rfl) ?_
    refine tw_ri rfl (rfl) ?_
    show tw_P L xs _ 119 19 [.ref 79, .ref 9, .int (nI i), .int a, .int (nI k), .int (nI n)] [.int (nI n), .int (nI n)] σ _
    refine tw_biT (c := .ge) rfl (by rw [tw_cge, tw_nle (by omega) (by omega)] <;> omega) ?_
    show tw_P L xs _ 119 35 [.ref 79, .ref 9, .int (nI i), .int a, .int (nI k), .int (nI n)] [] σ _
    exact hQ
  | succ f ih =>
    intro c a  hf hQ
    refine tw_sg 2 (i1 := 18) (ls1 := [.ref 79, .ref 9, .int (nI i), .int a, .int (nI k), .int (nI c)]) (st1 := [.ref 9, .int (nI c)]) (σ1 := σ) rfl ?_
    refine tw_cl0 2 rfl (rfl) (by decide) ?_
    show tw_P L xs _ 18 0 [.ref 9] [] σ _
    refine tw_sgn 2 (i1 := 2) (ls0 := [.ref 9]) (st0 := [.int (σ 9 4)]) (σ0 := σ) (ls1 := [.ref 9]) (st1 := [.int (nI n)]) (σ1 := σ) rfl (rfl) (by simp only [hw9, tw_nadd, tw_nmul]) (rfl) ?_
    refine tw_ri rfl (rfl) ?_
    show tw_P L xs _ 119 19 [.ref 79, .ref 9, .int (nI i), .int a, .int (nI k), .int (nI c)] [.int (nI n), .int (nI c)] σ _
    refine tw_biF (c := .ge) rfl (by rw [tw_cge', tw_nle (by omega) (by omega)] <;> omega) ?_
    show tw_P L xs _ 119 20 [.ref 79, .ref 9, .int (nI i), .int a, .int (nI k), .int (nI c)] [] σ _
    refine tw_sgn 6 (i1 := 26) (ls0 := [.ref 79, .ref 9, .int (nI i), .int a, .int (nI k), .int (nI c)]) (st0 := [.int (nI 0), .int (nI c), .int (nI i + nI k), .ref 9]) (σ0 := σ) (ls1 := [.ref 79, .ref 9, .int (nI i), .int a, .int (nI k), .int (nI c)]) (st1 := [.int (nI 0), .int (nI c), .int (nI (i + k)), .ref 9]) (σ1 := σ) rfl (rfl) (by simp only [tw_nadd, tw_nmul]) (rfl) ?_
    refine tw_cl1 rfl (rfl) (by decide) (tw_e_cellW hr9 hw9 h50 h10 hF (by decide) (by omega) (by omega)) ?_
    rintro _ _ ⟨rfl, rfl⟩
    show tw_P L xs _ 119 27 [.ref 79, .ref 9, .int (nI i), .int a, .int (nI k), .int (nI c)] [.int (w (10 * (i + k) + c))] σ _
    refine tw_sg 3 (i1 := 30) (ls1 := [.ref 79, .ref 9, .int (nI i), .int a, .int (nI k), .int (nI c)]) (st1 := [.int (nI c), .int (nI k), .ref 79, .int (w (10 * (i + k) + c))]) (σ1 := σ) rfl ?_
    refine tw_cl1 rfl (rfl) (by decide) (tw_e_at1 h79 h8 hP hk (by omega)) ?_
    rintro _ _ ⟨rfl, rfl⟩
    show tw_P L xs _ 119 31 [.ref 79, .ref 9, .int (nI i), .int a, .int (nI k), .int (nI c)] [.int (p (10 * k + c)), .int (w (10 * (i + k) + c))] σ _
    refine tw_bi (c := .ne) rfl (fun h1 => ?_) (fun h1 => ?_)
    · rw [tw_cne] at h1
      refine tw_sgn 2 (i1 := 16) (ls0 := [.ref 79, .ref 9, .int (nI i), .int a, .int (nI k), .int (nI c + nI 1)]) (st0 := []) (σ0 := σ) (ls1 := [.ref 79, .ref 9, .int (nI i), .int a, .int (nI k), .int (nI (c + 1))]) (st1 := []) (σ1 := σ) rfl (by simp only [tw_nadd, tw_nmul]) (rfl) (rfl) ?_
      have e : (tw_gEq w p (i + k) k) c a = a := by
        unfold tw_gEq
        first | rw [if_pos (by assumption)] | rw [if_neg (by assumption)]
      rw [tw_fo, e] at hQ
      exact ih (c + 1) _ (by omega) hQ
    · rw [tw_cne'] at h1
      refine tw_sgn 3 (i1 := 16) (ls0 := [.ref 79, .ref 9, .int (nI i), .int (a + nI 1), .int (nI k), .int (nI c + nI 1)]) (st0 := []) (σ0 := σ) (ls1 := [.ref 79, .ref 9, .int (nI i), .int (a + nI 1), .int (nI k), .int (nI (c + 1))]) (st1 := []) (σ1 := σ) rfl (by simp only [tw_nadd, tw_nmul]) (rfl) (rfl) ?_
      have e : (tw_gEq w p (i + k) k) c a = a + nI 1 := by
        unfold tw_gEq
        first | rw [if_pos (by assumption)] | rw [if_neg (by assumption)]
      rw [tw_fo, e] at hQ
      exact ih (c + 1) _ (by omega) hQ
set_option maxHeartbeats 4000000 in
set_option maxRecDepth 100000 in
theorem tw_l_mat {L : Nat} {xs : Nat → Int32} {Q : Option Value → tw_Mem → Prop} {σ : tw_Mem} {r n : Nat} (hr9 : σ 9 3 = nI r) (hw9 : σ 9 4 = nI n) (h50 : r ≤ 50) (h10 : n ≤ 10) {w : Nat → Int32} (hF : tw_isF σ 0 r n w) {h : Nat} (h79 : σ 79 1 = nI h) (h8 : h ≤ 8) {p : Nat → Int32} (hP : ∀ j, j < 10 * h → σ 80 j = p j) {i K : Nat} (hi : i < r) (hK : K ≤ h) (hK2 : i + K ≤ r) (hK3 : K = h ∨ i + K = r) : ∀ (f k : Nat) (a : Int32) (u : Value), k + f = K → (∀ (u : Value), tw_P L xs 3 119 37 [.ref 79, .ref 9, .int (nI i), .int (tw_fo (tw_gMM w p i n) k f a), .int (nI K), u] [] σ Q) → tw_P L xs 3 119 4 [.ref 79, .ref 9, .int (nI i), .int a, .int (nI k), u] [] σ Q := by
  intro f
  induction f with
  | zero =>
    intro k a u hf hQ
    have hf : K = k := Eq.symm hf
    subst hf
    rcases (show K = h ∨ (K < h ∧ i + K = r) by omega) with hz | hz
    · skip
      refine tw_sgn 3 (i1 := 7) (ls0 := [.ref 79, .ref 9, .int (nI i), .int a, .int (nI K), u]) (st0 := [.int (σ 79 1), .int (nI K)]) (σ0 := σ) (ls1 := [.ref 79, .ref 9, .int (nI i), .int a, .int (nI K), u]) (st1 := [.int (nI h), .int (nI K)]) (σ1 := σ) rfl (rfl) (by simp only [h79, tw_nadd, tw_nmul]) (rfl) ?_
      refine tw_biT (c := .ge) rfl (by rw [tw_cge, tw_nle (by omega) (by omega)] <;> omega) ?_
      show tw_P L xs _ 119 37 [.ref 79, .ref 9, .int (nI i), .int a, .int (nI K), u] [] σ _
      exact hQ _
    · skip
      refine tw_sgn 3 (i1 := 7) (ls0 := [.ref 79, .ref 9, .int (nI i), .int a, .int (nI K), u]) (st0 := [.int (σ 79 1), .int (nI K)]) (σ0 := σ) (ls1 := [.ref 79, .ref 9, .int (nI i), .int a, .int (nI K), u]) (st1 := [.int (nI h), .int (nI K)]) (σ1 := σ) rfl (rfl) (by simp only [h79, tw_nadd, tw_nmul]) (rfl) ?_
      refine tw_biF (c := .ge) rfl (by rw [tw_cge', tw_nle (by omega) (by omega)] <;> omega) ?_
      show tw_P L xs _ 119 8 [.ref 79, .ref 9, .int (nI i), .int a, .int (nI K), u] [] σ _
      refine tw_sgn 4 (i1 := 12) (ls0 := [.ref 79, .ref 9, .int (nI i), .int a, .int (nI K), u]) (st0 := [.int (nI i + nI K), .ref 9]) (σ0 := σ) (ls1 := [.ref 79, .ref 9, .int (nI i), .int a, .int (nI K), u]) (st1 := [.int (nI (i + K)), .ref 9]) (σ1 := σ) rfl (rfl) (by simp only [tw_nadd, tw_nmul]) (rfl) ?_
      refine tw_cl0 2 rfl (rfl) (by decide) ?_
      show tw_P L xs _ 20 0 [.ref 9, .int (nI (i + K))] [] σ _
      refine tw_sg 1 (i1 := 1) (ls1 := [.ref 9, .int (nI (i + K))]) (st1 := [.int (nI (i + K))]) (σ1 := σ) rfl ?_
      refine tw_bzF (c := .lt) rfl (by rw [tw_clt', tw_nlt (by omega) (by omega)] <;> omega) ?_
      show tw_P L xs _ 20 2 [.ref 9, .int (nI (i + K))] [] σ _
      refine tw_sgn 3 (i1 := 5) (ls0 := [.ref 9, .int (nI (i + K))]) (st0 := [.int (σ 9 3), .int (nI (i + K))]) (σ0 := σ) (ls1 := [.ref 9, .int (nI (i + K))]) (st1 := [.int (nI r), .int (nI (i + K))]) (σ1 := σ) rfl (rfl) (by simp only [hr9, tw_nadd, tw_nmul]) (rfl) ?_
      refine tw_biT (c := .ge) rfl (by rw [tw_cge, tw_nle (by omega) (by omega)] <;> omega) ?_
      show tw_P L xs _ 20 8 [.ref 9, .int (nI (i + K))] [] σ _
      refine tw_sg 1 (i1 := 9) (ls1 := [.ref 9, .int (nI (i + K))]) (st1 := [.int (nI 0)]) (σ1 := σ) rfl ?_
      refine tw_ri rfl (rfl) ?_
      show tw_P L xs _ 119 13 [.ref 79, .ref 9, .int (nI i), .int a, .int (nI K), u] [.int (nI 0)] σ _
      refine tw_bzT (c := .eq) rfl (by rw [tw_ceq, tw_neq (by omega) (by omega)] <;> omega) ?_
      show tw_P L xs _ 119 37 [.ref 79, .ref 9, .int (nI i), .int a, .int (nI K), u] [] σ _
      exact hQ _
  | succ f ih =>
    intro k a u hf hQ
    refine tw_sgn 3 (i1 := 7) (ls0 := [.ref 79, .ref 9, .int (nI i), .int a, .int (nI k), u]) (st0 := [.int (σ 79 1), .int (nI k)]) (σ0 := σ) (ls1 := [.ref 79, .ref 9, .int (nI i), .int a, .int (nI k), u]) (st1 := [.int (nI h), .int (nI k)]) (σ1 := σ) rfl (rfl) (by simp only [h79, tw_nadd, tw_nmul]) (rfl) ?_
    refine tw_biF (c := .ge) rfl (by rw [tw_cge', tw_nle (by omega) (by omega)] <;> omega) ?_
    show tw_P L xs _ 119 8 [.ref 79, .ref 9, .int (nI i), .int a, .int (nI k), u] [] σ _
    refine tw_sgn 4 (i1 := 12) (ls0 := [.ref 79, .ref 9, .int (nI i), .int a, .int (nI k), u]) (st0 := [.int (nI i + nI k), .ref 9]) (σ0 := σ) (ls1 := [.ref 79, .ref 9, .int (nI i), .int a, .int (nI k), u]) (st1 := [.int (nI (i + k)), .ref 9]) (σ1 := σ) rfl (rfl) (by simp only [tw_nadd, tw_nmul]) (rfl) ?_
    refine tw_cl0 2 rfl (rfl) (by decide) ?_
    show tw_P L xs _ 20 0 [.ref 9, .int (nI (i + k))] [] σ _
    refine tw_sg 1 (i1 := 1) (ls1 := [.ref 9, .int (nI (i + k))]) (st1 := [.int (nI (i + k))]) (σ1 := σ) rfl ?_
    refine tw_bzF (c := .lt) rfl (by rw [tw_clt', tw_nlt (by omega) (by omega)] <;> omega) ?_
    show tw_P L xs _ 20 2 [.ref 9, .int (nI (i + k))] [] σ _
    refine tw_sgn 3 (i1 := 5) (ls0 := [.ref 9, .int (nI (i + k))]) (st0 := [.int (σ 9 3), .int (nI (i + k))]) (σ0 := σ) (ls1 := [.ref 9, .int (nI (i + k))]) (st1 := [.int (nI r), .int (nI (i + k))]) (σ1 := σ) rfl (rfl) (by simp only [hr9, tw_nadd, tw_nmul]) (rfl) ?_
    refine tw_biF (c := .ge) rfl (by rw [tw_cge', tw_nle (by omega) (by omega)] <;> omega) ?_
    show tw_P L xs _ 20 6 [.ref 9, .int (nI (i + k))] [] σ _
    refine tw_sg 2 (i1 := 9) (ls1 := [.ref 9, .int (nI (i + k))]) (st1 := [.int (nI 1)]) (σ1 := σ) rfl ?_
    refine tw_ri rfl (rfl) ?_
    show tw_P L xs _ 119 13 [.ref 79, .ref 9, .int (nI i), .int a, .int (nI k), u] [.int (nI 1)] σ _
    refine tw_bzF (c := .eq) rfl (by rw [tw_ceq', tw_neq (by omega) (by omega)] <;> omega) ?_
    show tw_P L xs _ 119 14 [.ref 79, .ref 9, .int (nI i), .int a, .int (nI k), u] [] σ _
    refine tw_sg 2 (i1 := 16) (ls1 := [.ref 79, .ref 9, .int (nI i), .int a, .int (nI k), .int (nI 0)]) (st1 := []) (σ1 := σ) rfl ?_
    refine tw_l_mat1 hr9 hw9 h50 h10 hF h79 h8 hP (i := i) (k := k) (by omega) (by omega) n 0 _ (by omega) ?_
    show tw_P L xs _ 119 35 [.ref 79, .ref 9, .int (nI i), .int (tw_gMM w p i n k a), .int (nI k), .int (nI n)] [] σ _
    refine tw_sgn 2 (i1 := 4) (ls0 := [.ref 79, .ref 9, .int (nI i), .int (tw_gMM w p i n k a), .int (nI k + nI 1), .int (nI n)]) (st0 := []) (σ0 := σ) (ls1 := [.ref 79, .ref 9, .int (nI i), .int (tw_gMM w p i n k a), .int (nI (k + 1)), .int (nI n)]) (st1 := []) (σ1 := σ) rfl (by simp only [tw_nadd, tw_nmul]) (rfl) (rfl) ?_
    exact ih (k + 1) _ _ (by omega) hQ
set_option maxHeartbeats 4000000 in
set_option maxRecDepth 100000 in
theorem tw_e_mat {r n : Nat} (hr9 : σ 9 3 = nI r) (hw9 : σ 9 4 = nI n) (h50 : r ≤ 50) (h10 : n ≤ 10) {w : Nat → Int32} (hF : tw_isF σ 0 r n w) {h : Nat} (h79 : σ 79 1 = nI h) (h8 : h ≤ 8) {p : Nat → Int32} (hP : ∀ j, j < 10 * h → σ 80 j = p j) {i K : Nat} (hi : i < r) (hK : K ≤ h) (hK2 : i + K ≤ r) (hK3 : K = h ∨ i + K = r) : tw_E L xs 3 119 [.ref 79, .ref 9, .int (nI i)] σ (fun v σ1 => v = some (.int (tw_fo (tw_gMM w p i n) 0 K (nI 0))) ∧ σ = σ1) := by
  show tw_P L xs _ 119 0 [.ref 79, .ref 9, .int (nI i), tw_U, tw_U, tw_U] [] σ _
  refine tw_sg 4 (i1 := 4) (ls1 := [.ref 79, .ref 9, .int (nI i), .int (nI 0), .int (nI 0), tw_U]) (st1 := []) (σ1 := σ) rfl ?_
  refine tw_l_mat hr9 hw9 h50 h10 hF h79 h8 hP hi hK hK2 hK3 K 0 _ _ (by omega) (fun u => ?_)
  refine tw_sg 1 (i1 := 38) (ls1 := _) (st1 := [.int (tw_fo (tw_gMM w p i n) 0 K (nI 0))]) (σ1 := σ) rfl ?_
  exact tw_ri rfl rfl ⟨rfl, rfl⟩
set_option maxHeartbeats 4000000 in
set_option maxRecDepth 100000 in
theorem tw_l_mmat1 {L : Nat} {xs : Nat → Int32} {Q : Option Value → tw_Mem → Prop} {σ : tw_Mem} {r n : Nat} (hn89 : σ 89 0 = nI n) (hr90 : σ 90 0 = nI r) (h50 : r ≤ 50) (h10 : n ≤ 10) {h : Nat} (h32 : σ 88 32 = nI h) (h8 : h ≤ 8) {i : Nat} {k : Nat} (hi : i + k < r) (hk : k < h) : ∀ (f c : Nat) (a : Int32), c + f = n → tw_P L xs 0 236 52 [.ref 88, .int (nI i), .int (tw_fo (tw_gEq (σ 95) (σ 113) (i + k) k) c f a), .int (nI k), .int (nI n)] [] σ Q → tw_P L xs 0 236 24 [.ref 88, .int (nI i), .int a, .int (nI k), .int (nI c)] [] σ Q := by
  intro f
  induction f with
  | zero =>
    intro c a  hf hQ
    have hf : n = c := Eq.symm hf
    subst hf
    refine tw_sg 4 (i1 := 28) (ls1 := [.ref 88, .int (nI i), .int a, .int (nI k), .int (nI n)]) (st1 := [.int (nI 0), .ref 89, .int (nI n)]) (σ1 := σ) rfl ?_
    refine tw_al (k := 89) (j := 0) (len := 2) rfl rfl rfl rfl (rfl) (by omega) (by decide) ?_
    rw [hn89]
    refine tw_biT (c := .ge) rfl (by rw [tw_cge, tw_nle (by omega) (by omega)] <;> omega) ?_
    show tw_P L xs _ 236 52 [.ref 88, .int (nI i), .int a, .int (nI k), .int (nI n)] [] σ _
    exact hQ
  | succ f ih =>
    intro c a  hf hQ
    refine tw_sg 4 (i1 := 28) (ls1 := [.ref 88, .int (nI i), .int a, .int (nI k), .int (nI c)]) (st1 := [.int (nI 0), .ref 89, .int (nI c)]) (σ1 := σ) rfl ?_
    refine tw_al (k := 89) (j := 0) (len := 2) rfl rfl rfl rfl (rfl) (by omega) (by decide) ?_
    rw [hn89]
    refine tw_biF (c := .ge) rfl (by rw [tw_cge', tw_nle (by omega) (by omega)] <;> omega) ?_
    show tw_P L xs _ 236 30 [.ref 88, .int (nI i), .int a, .int (nI k), .int (nI c)] [] σ _
    refine tw_sgn 9 (i1 := 39) (ls0 := [.ref 88, .int (nI i), .int a, .int (nI k), .int (nI c)]) (st0 := [.int ((nI 10 * (nI i + nI k)) + nI c), .ref 95]) (σ0 := σ) (ls1 := [.ref 88, .int (nI i), .int a, .int (nI k), .int (nI c)]) (st1 := [.int (nI ((10 * (i + k)) + c)), .ref 95]) (σ1 := σ) rfl (rfl) (by simp only [tw_nadd, tw_nmul]) (rfl) ?_
    refine tw_al (k := 95) (j := ((10 * (i + k)) + c)) (len := 1000) rfl rfl rfl rfl (rfl) (by omega) (by decide) ?_
    refine tw_sgn 7 (i1 := 47) (ls0 := [.ref 88, .int (nI i), .int a, .int (nI k), .int (nI c)]) (st0 := [.int ((nI 10 * nI k) + nI c), .ref 113, .int (σ 95 ((10 * (i + k)) + c))]) (σ0 := σ) (ls1 := [.ref 88, .int (nI i), .int a, .int (nI k), .int (nI c)]) (st1 := [.int (nI ((10 * k) + c)), .ref 113, .int (σ 95 ((10 * (i + k)) + c))]) (σ1 := σ) rfl (rfl) (by simp only [tw_nadd, tw_nmul]) (rfl) ?_
    refine tw_al (k := 113) (j := ((10 * k) + c)) (len := 80) rfl rfl rfl rfl (rfl) (by omega) (by decide) ?_
    refine tw_bi (c := .ne) rfl (fun h1 => ?_) (fun h1 => ?_)
    · rw [tw_cne] at h1
      refine tw_sgn 2 (i1 := 24) (ls0 := [.ref 88, .int (nI i), .int a, .int (nI k), .int (nI c + nI 1)]) (st0 := []) (σ0 := σ) (ls1 := [.ref 88, .int (nI i), .int a, .int (nI k), .int (nI (c + 1))]) (st1 := []) (σ1 := σ) rfl (by simp only [tw_nadd, tw_nmul]) (rfl) (rfl) ?_
      have e : (tw_gEq (σ 95) (σ 113) (i + k) k) c a = a := by
        unfold tw_gEq
        first | rw [if_pos (by assumption)] | rw [if_neg (by assumption)]
      rw [tw_fo, e] at hQ
      exact ih (c + 1) _ (by omega) hQ
    · rw [tw_cne'] at h1
      refine tw_sgn 3 (i1 := 24) (ls0 := [.ref 88, .int (nI i), .int (a + nI 1), .int (nI k), .int (nI c + nI 1)]) (st0 := []) (σ0 := σ) (ls1 := [.ref 88, .int (nI i), .int (a + nI 1), .int (nI k), .int (nI (c + 1))]) (st1 := []) (σ1 := σ) rfl (by simp only [tw_nadd, tw_nmul]) (rfl) (rfl) ?_
      have e : (tw_gEq (σ 95) (σ 113) (i + k) k) c a = a + nI 1 := by
        unfold tw_gEq
        first | rw [if_pos (by assumption)] | rw [if_neg (by assumption)]
      rw [tw_fo, e] at hQ
      exact ih (c + 1) _ (by omega) hQ
set_option maxHeartbeats 4000000 in
set_option maxRecDepth 100000 in
theorem tw_l_mmat {L : Nat} {xs : Nat → Int32} {Q : Option Value → tw_Mem → Prop} {σ : tw_Mem} {r n : Nat} (hn89 : σ 89 0 = nI n) (hr90 : σ 90 0 = nI r) (h50 : r ≤ 50) (h10 : n ≤ 10) {h : Nat} (h32 : σ 88 32 = nI h) (h8 : h ≤ 8) {i : Nat} {K : Nat} (hi : i < r) (hK : K ≤ h) (hK2 : i + K ≤ r) (hK3 : K = h ∨ i + K = r) : ∀ (f k : Nat) (a : Int32) (u : Value), k + f = K → (∀ (u : Value), tw_P L xs 0 236 54 [.ref 88, .int (nI i), .int (tw_fo (tw_gMM (σ 95) (σ 113) i n) k f a), .int (nI K), u] [] σ Q) → tw_P L xs 0 236 10 [.ref 88, .int (nI i), .int a, .int (nI k), u] [] σ Q := by
  intro f
  induction f with
  | zero =>
    intro k a u hf hQ
    have hf : K = k := Eq.symm hf
    subst hf
    rcases (show K = h ∨ (K < h ∧ i + K = r) by omega) with hz | hz
    · skip
      refine tw_sgn 3 (i1 := 13) (ls0 := [.ref 88, .int (nI i), .int a, .int (nI K), u]) (st0 := [.int (σ 88 32), .int (nI K)]) (σ0 := σ) (ls1 := [.ref 88, .int (nI i), .int a, .int (nI K), u]) (st1 := [.int (nI h), .int (nI K)]) (σ1 := σ) rfl (rfl) (by simp only [h32, tw_nadd, tw_nmul]) (rfl) ?_
      refine tw_biT (c := .ge) rfl (by rw [tw_cge, tw_nle (by omega) (by omega)] <;> omega) ?_
      show tw_P L xs _ 236 54 [.ref 88, .int (nI i), .int a, .int (nI K), u] [] σ _
      exact hQ _
    · skip
      refine tw_sgn 3 (i1 := 13) (ls0 := [.ref 88, .int (nI i), .int a, .int (nI K), u]) (st0 := [.int (σ 88 32), .int (nI K)]) (σ0 := σ) (ls1 := [.ref 88, .int (nI i), .int a, .int (nI K), u]) (st1 := [.int (nI h), .int (nI K)]) (σ1 := σ) rfl (rfl) (by simp only [h32, tw_nadd, tw_nmul]) (rfl) ?_
      refine tw_biF (c := .ge) rfl (by rw [tw_cge', tw_nle (by omega) (by omega)] <;> omega) ?_
      show tw_P L xs _ 236 14 [.ref 88, .int (nI i), .int a, .int (nI K), u] [] σ _
      refine tw_sgn 6 (i1 := 20) (ls0 := [.ref 88, .int (nI i), .int a, .int (nI K), u]) (st0 := [.int (nI 0), .ref 90, .int (nI i + nI K)]) (σ0 := σ) (ls1 := [.ref 88, .int (nI i), .int a, .int (nI K), u]) (st1 := [.int (nI 0), .ref 90, .int (nI (i + K))]) (σ1 := σ) rfl (rfl) (by simp only [tw_nadd, tw_nmul]) (rfl) ?_
      refine tw_al (k := 90) (j := 0) (len := 2) rfl rfl rfl rfl (rfl) (by omega) (by decide) ?_
      rw [hr90]
      refine tw_biT (c := .ge) rfl (by rw [tw_cge, tw_nle (by omega) (by omega)] <;> omega) ?_
      show tw_P L xs _ 236 54 [.ref 88, .int (nI i), .int a, .int (nI K), u] [] σ _
      exact hQ _
  | succ f ih =>
    intro k a u hf hQ
    refine tw_sgn 3 (i1 := 13) (ls0 := [.ref 88, .int (nI i), .int a, .int (nI k), u]) (st0 := [.int (σ 88 32), .int (nI k)]) (σ0 := σ) (ls1 := [.ref 88, .int (nI i), .int a, .int (nI k), u]) (st1 := [.int (nI h), .int (nI k)]) (σ1 := σ) rfl (rfl) (by simp only [h32, tw_nadd, tw_nmul]) (rfl) ?_
    refine tw_biF (c := .ge) rfl (by rw [tw_cge', tw_nle (by omega) (by omega)] <;> omega) ?_
    show tw_P L xs _ 236 14 [.ref 88, .int (nI i), .int a, .int (nI k), u] [] σ _
    refine tw_sgn 6 (i1 := 20) (ls0 := [.ref 88, .int (nI i), .int a, .int (nI k), u]) (st0 := [.int (nI 0), .ref 90, .int (nI i + nI k)]) (σ0 := σ) (ls1 := [.ref 88, .int (nI i), .int a, .int (nI k), u]) (st1 := [.int (nI 0), .ref 90, .int (nI (i + k))]) (σ1 := σ) rfl (rfl) (by simp only [tw_nadd, tw_nmul]) (rfl) ?_
    refine tw_al (k := 90) (j := 0) (len := 2) rfl rfl rfl rfl (rfl) (by omega) (by decide) ?_
    rw [hr90]
    refine tw_biF (c := .ge) rfl (by rw [tw_cge', tw_nle (by omega) (by omega)] <;> omega) ?_
    show tw_P L xs _ 236 22 [.ref 88, .int (nI i), .int a, .int (nI k), u] [] σ _
    refine tw_sg 2 (i1 := 24) (ls1 := [.ref 88, .int (nI i), .int a, .int (nI k), .int (nI 0)]) (st1 := []) (σ1 := σ) rfl ?_
    refine tw_l_mmat1 hn89 hr90 h50 h10 h32 h8 (i := i) (k := k) (by omega) (by omega) n 0 _ (by omega) ?_
    show tw_P L xs _ 236 52 [.ref 88, .int (nI i), .int (tw_gMM (σ 95) (σ 113) i n k a), .int (nI k), .int (nI n)] [] σ _
    refine tw_sgn 2 (i1 := 10) (ls0 := [.ref 88, .int (nI i), .int (tw_gMM (σ 95) (σ 113) i n k a), .int (nI k + nI 1), .int (nI n)]) (st0 := []) (σ0 := σ) (ls1 := [.ref 88, .int (nI i), .int (tw_gMM (σ 95) (σ 113) i n k a), .int (nI (k + 1)), .int (nI n)]) (st1 := []) (σ1 := σ) rfl (by simp only [tw_nadd, tw_nmul]) (rfl) (rfl) ?_
    exact ih (k + 1) _ _ (by omega) hQ
set_option maxHeartbeats 4000000 in
set_option maxRecDepth 100000 in
theorem tw_o_matches {L : Nat} {xs : Nat → Int32} (x : Int32) : tw_op L xs 159 236 [.int x] := by
  intro σ hI
  obtain ⟨⟨n, r, hL⟩, hT, hPp, hPc, hLs, hIm, hC14, hC46, hC72⟩ := id hI
  obtain ⟨⟨hn10, hr50⟩, ⟨hn6, hn89⟩, ⟨hr9, hw9, hr90⟩, hCa, hRo, hLa⟩ := hL
  have hn6 : σ 6 4 = nI n := hn6
  have hn89 : σ 89 0 = nI n := hn89
  have hr9 : σ 9 3 = nI r := hr9
  have hw9 : σ 9 4 = nI n := hw9
  have hr90 : σ 90 0 = nI r := hr90
  obtain ⟨h, h8, h79, h32, hPi, hPz⟩ := id hPc
  rcases tw_within x r (by omega) with ⟨i, hi, rfl⟩ | hx
  · obtain ⟨K, hK, hK2, hK3⟩ : ∃ K, K ≤ h ∧ i + K ≤ r ∧ (K = h ∨ i + K = r) := ⟨min h (r - i), by omega, by omega, by omega⟩
    show tw_P L xs _ 159 0 [.ref 1, .int (nI i)] [] σ _
    refine tw_sg 2 (i1 := 2) (ls1 := [.ref 1, .int (nI i)]) (st1 := [.ref 6]) (σ1 := σ) rfl ?_
    refine tw_cl0 59 rfl (rfl) (by decide) ?_
    show tw_P L xs _ 83 0 [.ref 6] [] σ _
    refine tw_sg 2 (i1 := 2) (ls1 := [.ref 6]) (st1 := [.ref 9]) (σ1 := σ) rfl ?_
    refine tw_ra rfl ?_
    show tw_P L xs _ 159 3 [.ref 1, .int (nI i)] [.ref 9] σ _
    refine tw_sg 1 (i1 := 4) (ls1 := [.ref 1, .int (nI i)]) (st1 := [.int (nI i), .ref 9]) (σ1 := σ) rfl ?_
    refine tw_cl1 rfl (rfl) (by decide) (tw_e_hasRow1 hr9 hr50 hi) ?_
    rintro _ _ ⟨rfl, rfl⟩
    show tw_P L xs _ 159 5 [.ref 1, .int (nI i)] [.int (nI 1)] σ _
    refine tw_bzF (c := .eq) rfl (by rw [tw_ceq', tw_neq (by omega) (by omega)] <;> omega) ?_
    show tw_P L xs _ 159 6 [.ref 1, .int (nI i)] [] σ _
    refine tw_sg 4 (i1 := 10) (ls1 := [.ref 1, .int (nI i)]) (st1 := [.ref 6, .ref 79]) (σ1 := σ) rfl ?_
    refine tw_cl0 59 rfl (rfl) (by decide) ?_
    show tw_P L xs _ 83 0 [.ref 6] [] σ _
    refine tw_sg 2 (i1 := 2) (ls1 := [.ref 6]) (st1 := [.ref 9]) (σ1 := σ) rfl ?_
    refine tw_ra rfl ?_
    show tw_P L xs _ 159 11 [.ref 1, .int (nI i)] [.ref 9, .ref 79] σ _
    refine tw_sg 1 (i1 := 12) (ls1 := [.ref 1, .int (nI i)]) (st1 := [.int (nI i), .ref 9, .ref 79]) (σ1 := σ) rfl ?_
    refine tw_cl1 rfl (rfl) (by decide) (tw_e_mat hr9 hw9 hr50 hn10 (tw_isF0 hRo) h79 h8 (p := σ 113) hPi hi hK hK2 hK3) ?_
    rintro _ _ ⟨rfl, rfl⟩
    show tw_P L xs _ 159 13 [.ref 1, .int (nI i)] [.int (tw_fo (tw_gMM (σ 95) (σ 113) i n) 0 K (nI 0))] σ _
    refine tw_sg 1 (i1 := 15) (ls1 := [.ref 1, .int (nI i)]) (st1 := [.int (tw_fo (tw_gMM (σ 95) (σ 113) i n) 0 K (nI 0))]) (σ1 := σ) rfl ?_
    refine tw_ri rfl (rfl) ?_
    refine ⟨_, rfl, ?_⟩
    show tw_P L xs _ 236 0 [.ref 88, .int (nI i), tw_U, tw_U, tw_U] [] σ _
    refine tw_sg 2 (i1 := 2) (ls1 := [.ref 88, .int (nI i), tw_U, tw_U, tw_U]) (st1 := [.int (nI i), .ref 88]) (σ1 := σ) rfl ?_
    refine tw_cl1 rfl (rfl) (by decide) (tw_e_isRow1 hr90 hr50 hi) ?_
    rintro _ _ ⟨rfl, rfl⟩
    show tw_P L xs _ 236 3 [.ref 88, .int (nI i), tw_U, tw_U, tw_U] [.int (nI 1)] σ _
    refine tw_bzT (c := .ne) rfl (by rw [tw_cne, tw_neq (by omega) (by omega)] <;> omega) ?_
    show tw_P L xs _ 236 6 [.ref 88, .int (nI i), tw_U, tw_U, tw_U] [] σ _
    refine tw_sg 4 (i1 := 10) (ls1 := [.ref 88, .int (nI i), .int (nI 0), .int (nI 0), tw_U]) (st1 := []) (σ1 := σ) rfl ?_
    refine tw_P_le (d := 0) (tw_l_mmat hn89 hr90 hr50 hn10 h32 h8 hi hK hK2 hK3 K 0 _ _ (by omega) (fun u => ?_)) (by decide)
    refine tw_sg 1 (i1 := 55) (ls1 := _) (st1 := [.int (tw_fo (tw_gMM (σ 95) (σ 113) i n) 0 K (nI 0))]) (σ1 := σ) rfl ?_
    exact tw_ri rfl rfl ⟨rfl, hI⟩
  · skip
    show tw_P L xs _ 159 0 [.ref 1, .int x] [] σ _
    refine tw_sg 2 (i1 := 2) (ls1 := [.ref 1, .int x]) (st1 := [.ref 6]) (σ1 := σ) rfl ?_
    refine tw_cl0 59 rfl (rfl) (by decide) ?_
    show tw_P L xs _ 83 0 [.ref 6] [] σ _
    refine tw_sg 2 (i1 := 2) (ls1 := [.ref 6]) (st1 := [.ref 9]) (σ1 := σ) rfl ?_
    refine tw_ra rfl ?_
    show tw_P L xs _ 159 3 [.ref 1, .int x] [.ref 9] σ _
    refine tw_sg 1 (i1 := 4) (ls1 := [.ref 1, .int x]) (st1 := [.int x, .ref 9]) (σ1 := σ) rfl ?_
    refine tw_cl1 rfl (rfl) (by decide) (tw_e_hasRow0 hr9 hx) ?_
    rintro _ _ ⟨rfl, rfl⟩
    show tw_P L xs _ 159 5 [.ref 1, .int x] [.int (nI 0)] σ _
    refine tw_bzT (c := .eq) rfl (by rw [tw_ceq, tw_neq (by omega) (by omega)] <;> omega) ?_
    show tw_P L xs _ 159 14 [.ref 1, .int x] [] σ _
    refine tw_sg 1 (i1 := 15) (ls1 := [.ref 1, .int x]) (st1 := [.int (-1)]) (σ1 := σ) rfl ?_
    refine tw_ri rfl (rfl) ?_
    refine ⟨_, rfl, ?_⟩
    show tw_P L xs _ 236 0 [.ref 88, .int x, tw_U, tw_U, tw_U] [] σ _
    refine tw_sg 2 (i1 := 2) (ls1 := [.ref 88, .int x, tw_U, tw_U, tw_U]) (st1 := [.int x, .ref 88]) (σ1 := σ) rfl ?_
    refine tw_cl1 rfl (rfl) (by decide) (tw_e_isRow0 hr90 hr50 hx) ?_
    rintro _ _ ⟨rfl, rfl⟩
    show tw_P L xs _ 236 3 [.ref 88, .int x, tw_U, tw_U, tw_U] [.int (nI 0)] σ _
    refine tw_bzF (c := .ne) rfl (by rw [tw_cne', tw_neq (by omega) (by omega)] <;> omega) ?_
    show tw_P L xs _ 236 4 [.ref 88, .int x, tw_U, tw_U, tw_U] [] σ _
    refine tw_sg 1 (i1 := 5) (ls1 := [.ref 88, .int x, tw_U, tw_U, tw_U]) (st1 := [.int (-1)]) (σ1 := σ) rfl ?_
    refine tw_ri rfl (rfl) ?_
    exact ⟨rfl, hI⟩
end tw_s32
